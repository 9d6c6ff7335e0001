/-! What calls may use beside words, at the start. -/
theorem ws_str {s : State} {args : Array Value} {own tx : String} {k : Nat} (h1 : (Cond.stringRef own k tx).before args s = true) (h2 : (Cond.exactly (.string own k) "java/lang/String").before args s = true) : ∃ q, vk_R own k tx q s := by
  obtain ⟨a, c, cell, kc, he, -⟩ := Cond.exactly_spec h2
  exact ⟨a, vk_R.of h1 he⟩
def Mx : List Cond := lw_tbl.filter (fun w => match w with | .methodLinkNest .. => true | _ => false)
abbrev tS (own : String) (k : Nat) : Term := .field (.string own k) "java/lang/String" "value" "[B"
theorem ws_Sg {s : State} {args : Array Value} {own : String} {k n : Nat} {bs : List Int32} {A : Nat → Prop} {G : Cond} (hg : G.before args s = true) (hn : n < 2 ^ 31) (m1 : Cond.exactly (.string own k) "java/lang/String" ∈ flatC G) (m2 : Cond.eq (.field (.string own k) "java/lang/String" "coder" "B") (.int 0) ∈ flatC G) (m3 : Cond.arrayOf (tS own k) .byte ∈ flatC G) (m4 : Cond.eq (.length (tS own k)) (.int (Int32.ofNat n)) ∈ flatC G) (m5 : ∀ j : Nat, j < n → Cond.eq (.elem (tS own k) (.int (Int32.ofNat j))) (.int (bs.getD j 0)) ∈ flatC G) (hA : ∀ a : Nat, a < s.heap.size → ¬ A a) :
    ∃ a v : Nat, (Term.string own k).eval args s none [] s = some (.ref a) ∧ va_O "java/lang/String" a A s s.heap ∧ va_OF "java/lang/String" "coder" "B" (.int 0) a A s s.heap ∧ va_OF "java/lang/String" "value" "[B" (.ref v) a A s s.heap ∧ va_T .byte v n (fun j => .int (bs.getD j 0)) A s s.heap := by
  have hB := flat_of_before _ hg
  obtain ⟨adK, adV, h, he⟩ := vk_Sof (N := 1) (tm := fun _ => .string own k) (len := [n]) (byt := [bs]) (A := A) (fun i hi => by have e : i = 0 := Nat.lt_one_iff.mp hi; subst e; exact hn) (fun i _ => hB _ m1) (fun i _ => hB _ m2) (fun i _ => hB _ m3) (fun i hi => by have e : i = 0 := Nat.lt_one_iff.mp hi; subst e; exact hB _ m4) (fun i hi j hj => by have e : i = 0 := Nat.lt_one_iff.mp hi; subst e; exact hB _ (m5 j hj)) (fun i j hi hj hne => absurd (by omega : i = j) hne) hA
  exact ⟨adK 0, adV 0, he 0 (by decide), (h.1 0 (by decide)).1, (h.1 0 (by decide)).2.1, (h.1 0 (by decide)).2.2.1, (h.1 0 (by decide)).2.2.2⟩
def bs7 : List Int32 := [105, 102, 32, 100, 111, 32, 110, 111, 116, 32, 98, 117, 109, 112, 32, 98, 101, 108, 108, 32, 119, 97, 121, 32, 121, 101, 115, 32, 99, 111, 117, 110, 116, 32, 109, 111, 100, 101, 32, 115, 101, 116, 32, 100, 114, 111, 112, 32, 114, 105, 103, 104, 116, 32, 108, 101, 102, 116, 32, 98, 97, 99, 107, 32, 102, 97, 99, 101, 32, 107, 101, 101, 112, 32, 103, 111, 32, 97, 100, 100, 32, 122, 101, 114, 111, 32, 119, 105, 112, 101, 32]
def bs5 : List Int32 := [114, 101, 108, 97, 121, 32, 103, 111, 32, 108, 101, 102, 116, 32, 114, 105, 103, 104, 116, 32, 107, 101, 101, 112, 32, 111, 114, 32, 97, 110, 100, 32, 110, 111, 116, 32, 98, 117, 109, 112, 32, 98, 101, 108, 108, 32, 111, 110, 101, 32, 116, 119, 111, 32]
def Gf : List Cond := flatC (Jvm.Cond.and given_1 narrow_1)
def Ge (own : String) : List Cond := Gf.filter (fun w => match w with | .eq (.elem (.field (.string o _) _ _ _) _) _ => o == own | _ => false)
set_option maxRecDepth 100000 in
theorem m5_7 : ∀ j : Nat, j < 91 → Cond.eq (.elem (tS RX7 30) (.int (Int32.ofNat j))) (.int (bs7.getD j 0)) ∈ Ge RX7 := by decide +kernel
set_option maxRecDepth 100000 in
theorem m5_5 : ∀ j : Nat, j < 54 → Cond.eq (.elem (tS RX5 45) (.int (Int32.ofNat j))) (.int (bs5.getD j 0)) ∈ Ge RX5 := by decide +kernel
theorem ws_E {s : State} {args : Array Value} {D0 : va_G} {tys : List (ClassId × FieldType)} (hts : ∀ w ∈ lw_tbl, w.before args s = true) (hg : (Jvm.Cond.and given_1 narrow_1).before args s = true) (hK : va_K D0 vwCl tys s) : ∃ D : va_G, va_K D vwCl tys s ∧ EXs D (fun q : Nat => s.heap.size ≤ q) s := by
  have hA : ∀ a : Nat, a < s.heap.size → ¬ (fun q : Nat => s.heap.size ≤ q) a := fun a h => Nat.not_le.mpr h
  obtain ⟨a0, v0, e0, o0, c0, f0, t0⟩ := ws_Sg (own := RX7) (k := 30) (n := 91) (bs := bs7) hg (by decide) (by decide +kernel) (by decide +kernel) (by decide +kernel) (by decide +kernel) (fun j hj => (List.mem_filter.mp (m5_7 j hj)).1) hA
  obtain ⟨a1, v1, e1, o1, c1, f1, t1⟩ := ws_Sg (own := RX5) (k := 45) (n := 54) (bs := bs5) hg (by decide) (by decide +kernel) (by decide +kernel) (by decide +kernel) (by decide +kernel) (fun j hj => (List.mem_filter.mp (m5_5 j hj)).1) hA
  refine ⟨(D0.1, fun i => if i = 1000 then (fun j => if j = 0 then a0 else a1) else if i = 1001 then (fun j => if j = 0 then v0 else v1) else D0.2 i), ⟨fun k q h => ?_, hK.2⟩, vk_R.of (lw_at hts 636 (by decide +kernel)) e0, vk_R.of (lw_at hts 824 (by decide +kernel)) e1, ws_str (lw_at hts 1389 (by decide +kernel)) (flat_of_before _ hg _ (by decide +kernel)), ws_str (lw_at hts 1433 (by decide +kernel)) (flat_of_before _ hg _ (by decide +kernel)), fun x hx => ?_, va_AO.of (lw_at hts 463 (by decide +kernel)), va_AO.of (lw_at hts 464 (by decide +kernel)), fun i hi => ?_, va_Zof (lw_at hts 671 (by decide +kernel)) (lw_at hts 126 (by decide +kernel)) (va_eqt (flat_of_before _ hg _ (by decide +kernel))) hA, va_Zqof (lw_at hts 687 (by decide +kernel)) (lw_at hts 128 (by decide +kernel)) (flat_of_before _ hg _ (by decide +kernel)) hA⟩
  · have hk : k < 12 := (List.getElem?_eq_some_iff.mp h).1
    dsimp only
    rw [if_neg (by omega), if_neg (by omega)]
    exact hK.1 k q h
  · have h : ∀ x ∈ EXq, Cond.methodLinkNest x.1 x.2.1 x.2.2 RX10 ∈ Mx := by decide +kernel
    exact va_Nw.of rfl (hts _ (List.mem_filter.mp (h x hx)).1)
  · rcases (show i = 0 ∨ i = 1 by omega) with rfl | rfl
    · exact ⟨o0, c0, f0, _, t0⟩
    · exact ⟨o1, c1, f1, _, t1⟩
