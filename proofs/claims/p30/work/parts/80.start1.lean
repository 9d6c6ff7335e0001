/-! What the law's start gives. -/
theorem ws_arr {s : State} {args : Array Value} {ty : FieldType} (h : (Cond.arrayClass ty).before args s = true) (hr : ∀ cA, s.vm.findClass ("[" ++ ty.toString) = some cA → va_RA s cA ty) : ∃ cA, ArrOfT s cA ty ∧ va_RA s cA ty := by
  obtain ⟨c, k, comp, h1, h2, h3⟩ := Cond.arrayClass_spec h
  exact ⟨c, fun n z => ⟨fun k h => (by cases h), k, h2, comp, h3⟩, hr c h1⟩
theorem ws_over {s : State} {args : Array Value} {C : String} (h : (Cond.arrayOver (.object C)).before args s = true) : ∃ cA, ArrOfT s cA (.object C) ∧ va_RA s cA (.object C) := by
  obtain ⟨comp, c, k, h1, h2, h3, h4, h5⟩ := Cond.arrayOver_spec h
  exact ⟨c, fun n z => ⟨fun k h => (by cases h), k, h3, comp, h4⟩, k, comp, h3, h4, h1, h5⟩
theorem lw_at {s : State} {args : Array Value} (hts : ∀ w ∈ lw_tbl, w.before args s = true) (n : Nat) {w : Cond} (h : lw_tbl[n]? = some w) : w.before args s = true := hts w (List.mem_of_getElem? h)
theorem ws_K {s : State} {args : Array Value} (hts : ∀ w ∈ lw_tbl, w.before args s = true) : ∃ (D : va_G) (cI cZ cL cF cM : ClassId), va_K D vwCl (T0 cI cZ cL cF cM) s := by
  have hW : ∀ w ∈ WL, w.before args s = true := fun w hw => hts w (WL_tbl w hw)
  obtain ⟨c0, i0, k0⟩ := u_known (C := RX0) (T := TX0) (N := 7) (n := 7) hW inW0 (lw_at hts 434 (by decide +kernel))
  obtain ⟨c1, i1, k1⟩ := u_known (C := RX1) (T := TX1) (N := 7) (n := 7) hW inW1 (lw_at hts 343 (by decide +kernel))
  obtain ⟨c2, i2, k2⟩ := u_known (C := RX2) (T := TX2) (N := 12) (n := 12) hW inW2 (lw_at hts 516 (by decide +kernel))
  obtain ⟨c3, i3, k3⟩ := u_known (C := RX3) (T := TX3) (N := 10) (n := 10) hW inW3 (lw_at hts 387 (by decide +kernel))
  obtain ⟨c4, i4, k4⟩ := u_known (C := RX4) (T := TX4) (N := 6) (n := 6) hW inW4 (lw_at hts 273 (by decide +kernel))
  obtain ⟨c5, i5, k5⟩ := u_known (C := RX5) (T := TX5) (N := 10) (n := 10) hW inW5 (lw_at hts 267 (by decide +kernel))
  obtain ⟨c6, i6, k6⟩ := u_known (C := RX6) (T := TX6) (N := 7) (n := 7) hW inW6 (lw_at hts 222 (by decide +kernel))
  obtain ⟨c7, i7, k7⟩ := u_known (C := RX7) (T := TX7) (N := 4) (n := 4) hW inW7 (lw_at hts 216 (by decide +kernel))
  obtain ⟨c8, i8, k8⟩ := u_known (C := RX8) (T := TX8) (N := 13) (n := 13) hW inW8 (lw_at hts 466 (by decide +kernel))
  obtain ⟨c9, i9, k9⟩ := u_known (C := RX9) (T := TX9) (N := 16) (n := 16) hW inW9 (lw_at hts 147 (by decide +kernel))
  obtain ⟨c10, i10, k10⟩ := u_known (C := RX10) (T := TX10) (N := 15) (n := 15) hW inW10 (lw_at hts 139 (by decide +kernel))
  obtain ⟨c11, i11, k11⟩ := u_known (C := RX11) (T := TX11) (N := 74) (n := 74) hW inW11 (lw_at hts 1441 (by decide +kernel))
  obtain ⟨cI, aI⟩ := ws_arr (ty := .int) (lw_at hts 214 (by decide +kernel)) (fun _ h => h)
  obtain ⟨cZ, aZ⟩ := ws_arr (ty := .boolean) (lw_at hts 1685 (by decide +kernel)) (fun _ h => h)
  obtain ⟨cL, aL⟩ := ws_arr (ty := .long) (lw_at hts 385 (by decide +kernel)) (fun _ h => h)
  obtain ⟨cF, aF⟩ := ws_over (C := RX1) (lw_at hts 463 (by decide +kernel))
  obtain ⟨cM, aM⟩ := ws_over (C := RX3) (lw_at hts 464 (by decide +kernel))
  refine ⟨(fun k => [c0, c1, c2, c3, c4, c5, c6, c7, c8, c9, c10, c11].getD k c0, fun k => [i0, i1, i2, i3, i4, i5, i6, i7, i8, i9, i10, i11].getD k i0), cI, cZ, cL, cF, cM, fun k q hq => ?_, fun k q hq => ?_⟩
  · match k, hq with
    | 0, hq => cases hq; exact k0
    | 1, hq => cases hq; exact k1
    | 2, hq => cases hq; exact k2
    | 3, hq => cases hq; exact k3
    | 4, hq => cases hq; exact k4
    | 5, hq => cases hq; exact k5
    | 6, hq => cases hq; exact k6
    | 7, hq => cases hq; exact k7
    | 8, hq => cases hq; exact k8
    | 9, hq => cases hq; exact k9
    | 10, hq => cases hq; exact k10
    | 11, hq => cases hq; exact k11
    | k + 12, hq => cases hq
  · match k, hq with
    | 0, hq => cases hq; exact aI
    | 1, hq => cases hq; exact aZ
    | 2, hq => cases hq; exact aL
    | 3, hq => cases hq; exact aF
    | 4, hq => cases hq; exact aM
    | k + 5, hq => cases hq
theorem ws_T {s : State} {args : Array Value} (hts : ∀ w ∈ lw_tbl, w.before args s = true) (hg : (Jvm.Cond.and given_1 narrow_1).before args s = true) : EXt s := by
  refine ⟨fun w hw => ?_, va_Nc.of (flat_of_before _ hg (.not (.castable XN XI)) (by decide +kernel))⟩
  have hB : ∀ w ∈ Bx, w ∈ Lx := by decide +kernel
  exact va_Nw.of (Bx_t w hw) (hts w (Lx_t w (hB w hw)))
theorem ws_Z {s : State} {args : Array Value} (hts : ∀ w ∈ lw_tbl, w.before args s = true) (hg : (Jvm.Cond.and given_1 narrow_1).before args s = true) : Zs (fun q : Nat => s.heap.size ≤ q) s s.heap := by
  have hi : (Cond.initialized Bundle.tN).before args s = true := lw_at hts 132 (by decide +kernel)
  exact ⟨vx_Zqof (lw_at hts 1376 (by decide +kernel)) hi (flat_of_before _ hg _ (by decide +kernel)) (fun a h => Nat.not_le.mpr h), vx_Zqof (lw_at hts 1378 (by decide +kernel)) hi (flat_of_before _ hg _ (by decide +kernel)) (fun a h => Nat.not_le.mpr h)⟩
