/-! The law's own look: it catches what look throws. -/
theorem v_ofWH {l : Launch} {y : MethodName} {ws ws' : List Cond} {rm : Room} {Pc : Array Value → State → Prop} {Qc : Array Value → State → Outcome → State → Prop} {mc ms : Nat} {free : Addr → Prop} {cc : ByteArray} {maxL : Nat} {ret : Option FieldType} {hh : List (Nat × Nat × Nat × Nat)}
    (hy : plainName y.cls = true) (hw : ws = Cond.codeWith y cc maxL ret hh :: ws')
    (body : ∀ p e s m args below meth c s₁, BodyLoose p l y (headSpec ws rm) cc maxL ret e s m args below meth c s₁ → c.maxLocals = maxL → Pc args s →
      W p l e (headSpec ws rm).room s m args below meth c s.heap [] 0 0 (MQ below Qc args s mc ms free) (entryFrame m args maxL)) : Met l y ws rm Pc Qc mc ms free := by
  refine MetFree.of_bodyS (code := cc) (maxLocals := maxL) (ret := ret) hy ?_ ?_
  · intro args s m h hn
    obtain ⟨m9, meth, c, hn9, h1, h2, h3, h4, -, h5, h6, -⟩ := Cond.codeWith_spec (atoms_spec (ws := ws) h _ (by rw [hw]; exact List.mem_cons_self))
    cases hn.symm.trans hn9
    exact ⟨meth, c, h1, h2, h3, h4, h5, h6⟩
  · intro p e s m args below meth c s₁ B hml hP _
    have hh0 : s₁.heap = s.heap := by rw [B.state]; rfl
    obtain ⟨t, a1, o, b1, b2, b3⟩ := body p e s m args below meth c s₁ B hml hP s₁ hh0 (Stand.of_body B)
    exact ⟨t, o, a1, b1, b2, ⟨b3.1, b3.2⟩⟩
abbrev kS : Type := cS × (Nat → Int64)
abbrev kW (h : Nat → Nat) (q : Nat) (cI cL cF cM : ClassId) (F : Nat → Nat → Int32) (L : Nat → Nat → Int64) (r : Nat → Nat → Nat) (ou : Nat → Int64) : va_W := cW h cI cL cF cM F L r ++ [(q, .inl (cL, 1, .inr (.inl ou)))]
abbrev kWu (h : Nat → Nat) (q : Nat) (cI cL cF cM : ClassId) (u : kS) : va_W := kW h q cI cL cF cM u.1.1 u.1.2.1 u.1.2.2 u.2
def hhL : List (Nat × Nat × Nat × Nat) := [(0, 10, 13, 13), (0, 10, 17, 15)]
def wsL_look : List Cond := Cond.codeWith yL_look cL_look 5 (some .int) hhL :: WL
abbrev rmL_look : Room := { frames := 8, cells := 1, slots := 6, locals := 130 }
theorem wl_a : Cond.classLink RL 13 XI ∈ WL := WL_in 1343 (by decide +kernel) (by decide +kernel)
theorem wl_b : Cond.classLink RL 15 XN ∈ WL := WL_in 1344 (by decide +kernel) (by decide +kernel)
theorem wl_c : Cond.methodLink RL 7 yX10_look ∈ WL := WL_in 1345 (by decide +kernel) (by decide +kernel)
theorem wl_d : Cond.instanceMethod yX10_look ∈ WL := WL_in 1346 (by decide +kernel) (by decide +kernel)
theorem wl_e : Cond.selects RX10 yX10_look yX10_look ∈ WL := WL_in 1347 (by decide +kernel) (by decide +kernel)
theorem wl_f : Cond.code yX10_look cX10_look 3 (some .int) ∈ WL := WL_in 1348 (by decide +kernel) (by decide +kernel)
theorem wl_g : Cond.initialized RX10 ∈ WL := WL_in 114 (by decide +kernel) (by decide +kernel)
/-- a method that answers an int and may make one thing, of six slots -/
def Ck (l : Launch) (y : MethodName) (wsY : List Cond) (rm : Room) (av : List Value) (D : va_G) (tys : List (ClassId × FieldType)) {S : Type} (w : S → va_W) (u0 : S) (K : Int32 → S → Prop) : Prop :=
  ∀ sz : Nat, Met l y wsY rm (CpreX av D tys (w u0) sz) (va_Qi K (Cpost D tys w (w u0) sz) (va_A (w u0) sz)) 1 6 (va_A (w u0) sz)
theorem CpreX_blind {D : va_G} {tys : List (ClassId × FieldType)} {av : List Value} {w0 : va_W} {sz : Nat} : FrameBlind (CpreX av D tys w0 sz) := fun a U g mk q => by
  obtain ⟨q0, ⟨q1, qP, qK, qD, qE⟩, qT, qZ⟩ := q
  exact ⟨q0, ⟨q1, qP, va_K.moved (u := U) (U := U.calling g mk a) (Vm.Alike.refl U.vm) qK, qD, EXs.same (U := U.calling g mk a) rfl rfl qE⟩, EXt.same (s := U) (U := U.calling g mk a) rfl qT, Zs.moved (u := U) (U := U.calling g mk a) (Vm.Alike.refl U.vm) qZ⟩
def wpL_look (F : Nat → Nat → Int32) (L : Nat → Nat → Int64) (r : Nat → Nat → Nat) (ou : Nat → Int64) (x1 x2 : Int32) (K : Int32 → kS → Prop) : Prop :=
  wpX10_lookX F L r x1 x2 (fun v u => K 0 (u, vp_updL ou 0 v.toInt64)) (fun E u => (E = XI ∧ K 1 (u, ou)) ∨ (E = XN ∧ K 2 (u, ou)))
theorem kW_out {h : Nat → Nat} {q : Nat} {cI cL cF cM : ClassId} {F : Nat → Nat → Int32} {L : Nat → Nat → Int64} {r : Nat → Nat → Nat} {ou : Nat → Int64} : (kW h q cI cL cF cM F L r ou)[104]? = some (q, .inl (cL, 1, .inr (.inl ou))) := by
  rw [List.getElem?_append_right (by rw [cW_len]; decide), cW_len]
  rfl
theorem kW_outs {h : Nat → Nat} {q : Nat} {cI cL cF cM : ClassId} {F : Nat → Nat → Int32} {L : Nat → Nat → Int64} {r : Nat → Nat → Nat} {ou y : Nat → Int64} : (kW h q cI cL cF cM F L r ou).set 104 (q, .inl (cL, 1, .inr (.inl y))) = kW h q cI cL cF cM F L r y := by
  rw [List.set_append_right _ _ (by rw [cW_len]; decide), cW_len]
  rfl
theorem kW_x {h : Nat → Nat} {q : Nat} {cI cL cF cM : ClassId} {F : Nat → Nat → Int32} {L : Nat → Nat → Int64} {r : Nat → Nat → Nat} {ou : Nat → Int64} : (kW h q cI cL cF cM F L r ou)[0]? = some (h 0, .inr (10, fl10 h 0 (F 0) (L 0) (r 0))) := by
  rw [List.getElem?_append_left (by rw [cW_len]; decide), cW_get (by decide), ce10 (by decide)]
set_option maxHeartbeats 4000000 in
theorem ctL_look (l : Launch) (hl0 : l.stackTraces = false) (D : va_G) (h : Nat → Nat) (q : Nat) (cI cL cF cM : ClassId) (F : Nat → Nat → Int32) (L : Nat → Nat → Int64) (r : Nat → Nat → Nat) (ou : Nat → Int64) (x1 : Int32) (x2 : Int32) {K : Int32 → kS → Prop} (hh : wpL_look F L r ou x1 x2 K) : Ck l yL_look wsL_look rmL_look [.ref (h 0), .int x1, .int x2, .ref q] D (cT cI cL cF cM) (kWu h q cI cL cF cM) ((F, L, r), ou) K := by
  intro sz
  refine v_ofWH (cc := cL_look) (maxL := 5) (ret := some .int) (hh := hhL) (by decide) rfl ?_
  intro p e s m args below meth c s₁ B hml hv
  obtain ⟨rfl, ⟨hsz, hP, hK, hD0, hE⟩, hT, hZ⟩ := hv
  have hts := atoms_spec (ws := wsL_look) B.pre
  have hown : s.vm.findClass RL = some m.cls := findClass_of_methodNamed B.named
  subst hsz
  have hD := hD0.self (sz := s.heap.size)
  have hle := lv_entry [Value.ref (h 0), Value.int x1, Value.int x2, Value.ref q] (n := 5) (Nat.le_of_ble_eq_true rfl)
  have hws : ∀ w ∈ WL, w.before [Value.ref (h 0), Value.int x1, Value.int x2, Value.ref q].toArray s = true := fun w hw => hts w (List.mem_cons_of_mem _ hw)
  have htab : c.exceptionTable.toList = tableOf hhL := vx_table (x := yL_look) B (hts _ List.mem_cons_self)
  rw [lg_entry_eq]
  have C : CallFix p m c cL_look 5 s [Value.ref (h 0), Value.int x1, Value.int x2, Value.ref q].toArray wsL_look RL := ⟨B.exec, B.bytes, hml, hown, hts⟩
  have hw : Wd D (va_A (kWu h q cI cL cF cM ((F, L, r), ou)) s.heap.size) s (cT cI cL cF cM) (kW h q cI cL cF cM F L r ou) s.heap [] := ⟨hK, hP, hD, va_S.rf, fun q h => Or.inr h, hE⟩
  have hR : ∀ (pc : Nat) (ls : Array Slot) (r' : Int32) (u : kS) (H : Heap) (locs : List Loc), decode cL_look pc = .ok (.ireturn, 1) → K r' u → Wd D (va_A (kWu h q cI cL cF cM ((F, L, r), ou)) s.heap.size) s (cT cI cL cF cM) (kWu h q cI cL cF cM u) H locs → W p l e (headSpec wsL_look rmL_look).room s m [Value.ref (h 0), Value.int x1, Value.int x2, Value.ref q].toArray below meth c H locs (0 + 1) (0 + 6) (MQ below (va_Qi K (Cpost D (cT cI cL cF cM) (kWu h q cI cL cF cM) (kWu h q cI cL cF cM ((F, L, r), ou)) s.heap.size) (va_A (kWu h q cI cL cF cM ((F, L, r), ou)) s.heap.size)) [Value.ref (h 0), Value.int x1, Value.int x2, Value.ref q].toArray s 1 6 (va_A (kWu h q cI cL cF cM ((F, L, r), ou)) s.heap.size)) (F0 m pc ls [.int r']) := by
    intro pc ls r' u H locs hd hk hw
    obtain ⟨wK, wP, wD, wS, -⟩ := hw
    exact W.zret B.exec B.bytes B.returns rfl (fun t ht hW => ⟨⟨r', u, rfl, hk, by rw [ht]; exact wP, va_K.moved hW.alike wK, wD⟩, wS.F ht⟩) wS.2.2 hd B.notSynchronized
  refine lv_aload_n C.1 C.2.1 dL_look_0 rfl (lv_at hle 3 rfl) ?_
  refine lv_iconst (v := (0 : Int32)) C.1 C.2.1 dL_look_1 (by decide) ?_
  refine lv_aload_n C.1 C.2.1 dL_look_2 rfl (lv_at hle 0 rfl) ?_
  refine lv_iload_n C.1 C.2.1 dL_look_3 rfl (lv_at hle 1 rfl) ?_
  refine lv_iload_n C.1 C.2.1 dL_look_4 rfl (lv_at hle 2 rfl) ?_
  obtain ⟨⟨hPc, hDc⟩, hFc⟩ := i_cut hw
  have hM := ctX10_lookX l hl0 D h cI cL cF cM F L r x1 x2 hh
  have cw : CallW rmL_look s [Value.ref (h 0), Value.int x1, Value.int x2, Value.ref q].toArray RL RX10 7 yX10_look cX10_look 3 (some .int) wsX10_look rmX10_lookX 1 6 2 := cwV 2 C.2.2.2.2 (gd_V wl_c wl_d wl_e wl_g wl_f) rfl rfl rfl cdX10_look ⟨Nat.le_of_ble_eq_true rfl, Nat.le_of_ble_eq_true rfl⟩
  refine vx_calli (vx_runV (As := [.int x1, .int x2]) (rest := [.int 0, .ref q]) C (hM s.heap.size) cw ⟨CpreX_blind, va_recv hw.1 hw.2.1 (ci := 10) rfl kW_x, fun U hU hW => ⟨rfl, ⟨by rw [hU], by rw [hU]; exact hPc, va_K.moved hW.alike hw.1, hDc.weaken (fun _ _ _ _ => trivial), EXs.warm hW hU hw.2.2.2.1 hFc hE⟩, EXt.warm hW hT, by rw [hU]; exact (hZ.narrow (fun q h => hFc q h)).moved hW.alike⟩⟩ rfl rfl hle.1 rfl (lv_room (Nat.le_of_ble_eq_true rfl)) dL_look_5 ⟨by decide, by decide⟩) hw.2.2.2.1 (fun q _ h => hFc q h) hFc (fun q _ h => hFc q h) (fun E ce q9 u t H1 locs1 ht hvm _ hB hz1 hk1 hS hcell hcv hcl => ?_) (fun r1 u t H1 locs1 ht hvm hk hB hz1 hk1 hS => ?_)
  · have hw1 := i_back hw ht hB.2.1 hB.2.2.2 hk1 hFc hS
    rcases hB.1 with ⟨rfl, hk⟩ | ⟨rfl, hk⟩
    · refine vx_catch (own := RL) (name := XI) hown [] ⟨0, 10, 13, 13⟩ [⟨0, 10, 17, 15⟩] htab (fun z hz => nomatch hz) rfl (by decide) (hws _ wl_a) ((hT.1 _ (by decide)).use rfl) hcell hcv hcl ?_
      refine lv_astore C.1 C.2.1 dL_look_13 hle (by decide) rfl (fun ls hl => ?_)
      refine lv_iconst (v := (1 : Int32)) C.1 C.2.1 dL_look_15 (by decide) ?_
      exact hR _ _ _ (u, ou) _ _ dL_look_16 hk hw1
    · refine vx_catch (own := RL) (name := XN) hown [⟨0, 10, 13, 13⟩] ⟨0, 10, 17, 15⟩ [] htab (fun z hz => ?_) rfl (by decide) (hws _ wl_b) ((hT.1 _ (by decide)).use rfl) hcell hcv hcl ?_
      · rcases List.mem_cons.mp hz with rfl | hz
        · exact Or.inr ⟨by decide, XI, hws _ wl_a, hT.2⟩
        · exact nomatch hz
      refine lv_astore C.1 C.2.1 dL_look_17 hle (by decide) rfl (fun ls hl => ?_)
      refine lv_iconst (v := (2 : Int32)) C.1 C.2.1 dL_look_19 (by decide) ?_
      exact hR _ _ _ (u, ou) _ _ dL_look_20 hk hw1
  · have hw1 := i_back hw ht hB.1 hB.2.2 hk1 hFc hS
    refine lv_i2l C.1 C.2.1 dL_look_8 rfl ?_
    refine wd_las C hw1 104 1 kW_out rfl (i := 0) (vin (n := 0) (by decide) (by decide)) kW_outs dL_look_9 (fun H2 locs2 hw2 => ?_)
    refine lv_goto (tgt := 21) C.1 C.2.1 dL_look_10 (by decide) ?_
    refine lv_iconst (v := (0 : Int32)) C.1 C.2.1 dL_look_21 (by decide) ?_
    exact hR _ _ _ (u, vp_updL ou 0 r1.toInt64) _ _ dL_look_22 hk hw2
