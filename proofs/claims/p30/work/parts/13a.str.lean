/-! The JDK's own methods over the two vocabularies. -/
abbrev rmJ0_coder_7d493 : Room := { frames := 0, cells := 0, slots := 0, locals := 0 }
def wsJ0_coder_7d493 : List Cond := Cond.code yJ0_coder_7d493 cJ0_coder_7d493 1 (some .byte) :: WL
theorem cdJ0_coder_7d493 : yJ0_coder_7d493.cls = RJ0 ∧ yJ0_coder_7d493.cls ≠ "java/lang/invoke/MethodHandle" ∧ yJ0_coder_7d493.cls ≠ "java/lang/invoke/VarHandle" ∧ (parseMethodDescriptor yJ0_coder_7d493.desc).map (fun d => d.parameters.length) = some 0 := by decide +kernel
abbrev rmJ0_isLatin1_aae02 : Room := { frames := 0, cells := 0, slots := 0, locals := 0 }
def wsJ0_isLatin1_aae02 : List Cond := Cond.code yJ0_isLatin1_aae02 cJ0_isLatin1_aae02 1 (some .boolean) :: WL
theorem cdJ0_isLatin1_aae02 : yJ0_isLatin1_aae02.cls = RJ0 ∧ yJ0_isLatin1_aae02.cls ≠ "java/lang/invoke/MethodHandle" ∧ yJ0_isLatin1_aae02.cls ≠ "java/lang/invoke/VarHandle" ∧ (parseMethodDescriptor yJ0_isLatin1_aae02.desc).map (fun d => d.parameters.length) = some 0 := by decide +kernel
abbrev rmJ0_length_8abf5 : Room := { frames := 1, cells := 0, slots := 0, locals := 20 }
def wsJ0_length_8abf5 : List Cond := Cond.code yJ0_length_8abf5 cJ0_length_8abf5 1 (some .int) :: WL
theorem cdJ0_length_8abf5 : yJ0_length_8abf5.cls = RJ0 ∧ yJ0_length_8abf5.cls ≠ "java/lang/invoke/MethodHandle" ∧ yJ0_length_8abf5.cls ≠ "java/lang/invoke/VarHandle" ∧ (parseMethodDescriptor yJ0_length_8abf5.desc).map (fun d => d.parameters.length) = some 0 := by decide +kernel
abbrev rmJ3_checkIndex_8e157 : Room := { frames := 0, cells := 0, slots := 0, locals := 0 }
def wsJ3_checkIndex_8e157 : List Cond := Cond.code yJ3_checkIndex_8e157 cJ3_checkIndex_8e157 3 (some .int) :: WL
theorem cdJ3_checkIndex_8e157 : yJ3_checkIndex_8e157.cls ≠ "java/lang/invoke/MethodHandle" ∧ yJ3_checkIndex_8e157.cls ≠ "java/lang/invoke/VarHandle" ∧ (parseMethodDescriptor yJ3_checkIndex_8e157.desc).map (fun d => d.parameters.length) = some 3 := by decide +kernel
abbrev rmJ0_checkIndex_df160 : Room := { frames := 1, cells := 0, slots := 0, locals := 22 }
def wsJ0_checkIndex_df160 : List Cond := Cond.code yJ0_checkIndex_df160 cJ0_checkIndex_df160 2 none :: WL
theorem cdJ0_checkIndex_df160 : yJ0_checkIndex_df160.cls ≠ "java/lang/invoke/MethodHandle" ∧ yJ0_checkIndex_df160.cls ≠ "java/lang/invoke/VarHandle" ∧ (parseMethodDescriptor yJ0_checkIndex_df160.desc).map (fun d => d.parameters.length) = some 2 := by decide +kernel
abbrev rmJ1_charAt_3b067 : Room := { frames := 2, cells := 0, slots := 0, locals := 43 }
def wsJ1_charAt_3b067 : List Cond := Cond.code yJ1_charAt_3b067 cJ1_charAt_3b067 2 (some .char) :: WL
theorem cdJ1_charAt_3b067 : yJ1_charAt_3b067.cls ≠ "java/lang/invoke/MethodHandle" ∧ yJ1_charAt_3b067.cls ≠ "java/lang/invoke/VarHandle" ∧ (parseMethodDescriptor yJ1_charAt_3b067.desc).map (fun d => d.parameters.length) = some 2 := by decide +kernel
abbrev rmJ0_charAt_5068e : Room := { frames := 3, cells := 0, slots := 0, locals := 64 }
def wsJ0_charAt_5068e : List Cond := Cond.code yJ0_charAt_5068e cJ0_charAt_5068e 2 (some .char) :: WL
theorem cdJ0_charAt_5068e : yJ0_charAt_5068e.cls = RJ0 ∧ yJ0_charAt_5068e.cls ≠ "java/lang/invoke/MethodHandle" ∧ yJ0_charAt_5068e.cls ≠ "java/lang/invoke/VarHandle" ∧ (parseMethodDescriptor yJ0_charAt_5068e.desc).map (fun d => d.parameters.length) = some 1 := by decide +kernel
section SZ
variable {p : Program} {l : Launch} {e : Env} {R : Room} {s : State} {m : MethodId} {args : Array Value} {below : List Frame} {meth : Method} {c : Code} {H : Heap} {locs : List Loc} {cells slots : Nat} {Q : State → Prop}
variable {cc : ByteArray} {pc : Nat} {ls : Array Slot} {rest : List Value} {D : va_G} {A : Nat → Prop} {tys : List (ClassId × FieldType)} {ws : va_W} {nL : Nat} {Ts : List Cond} {own : String}
variable {y : MethodName} {wsY : List Cond} {rm : Room} {As : List Value} {Cn : String} {index maxL n : Nat} {bytes : ByteArray} {ret : Option FieldType}
theorem sz_free (hw : Wd D A s tys ws H locs) : ∀ q, va_A [] H.size q → A q := fun q h => by
  rcases h with ⟨k, e, h⟩ | h
  · simp at h
  · exact hw.2.2.2.2.1 q (Nat.le_trans hw.2.2.2.1.1 h)
theorem sz_back (hw : Wd D A s tys ws H locs) {H1 : Heap} {locs1 : List Loc} (hk1 : ∀ q : Nat, q < H.size → ¬ va_A [] H.size q → H1[q]? = H[q]?) (hS : va_S A s.heap H1 locs1) : Wd D A s tys ws H1 locs1 := by
  refine ⟨hw.1, ?_, hw.2.2.1, hS, hw.2.2.2.2⟩
  refine hw.2.1.kept (fun k q h => hk1 q.1 (hw.2.1 k q h).lt (fun h2 => ?_))
  rcases h2 with ⟨k2, e2, h2⟩ | h2
  · simp at h2
  · exact absurd (hw.2.1 k q h).lt (Nat.not_lt.mpr h2)
/-- what the heap has of a vocabulary, at a point of a method -/
theorem sz_X (hw : Wd D A s tys ws H locs) : SX D A s s.heap := hw.2.2.2.2.2.2.2.2.2.2.2.2
/-- a method of a vocabulary -/
theorem wz_Vi {K : Int32 → Unit → Prop} (C : CallFix p m c cc nL s args Ts own) (hw : Wd D A s tys ws H locs) {z : Nat} (hz : z < 2) (hM : Ci l y wsY rm (.ref (D.2 1000 z) :: As) D [] (fun _ : Unit => []) () K)
    (cw : CallW R s args own RJ0 index y bytes maxL ret wsY rm 0 0 n) (hlen : As.length = n) (hsize : ls.size = nL) (hroom : (rest.map fun v => v.category).sum ≤ 8) (hdg : decode cc pc = .ok (.invokevirtual index, 3)) (hf : cells ≤ R.cells ∧ slots ≤ R.slots)
    (kk : ∀ (r : Int32) (H1 : Heap) (locs1 : List Loc), K r () → Wd D A s tys ws H1 locs1 → W p l e R s m args below meth c H1 locs1 cells slots Q (F0 m (pc + 3) ls (.int r :: rest))) {st : List Value} (hst : st = As.reverse ++ .ref (D.2 1000 z) :: rest) : W p l e R s m args below meth c H locs cells slots Q (F0 m pc ls st) := by
  subst hst
  have hFc := sz_free hw
  have hrc : ∃ cell : Cell, H[D.2 1000 z]? = some cell ∧ cell.vm.isStatics = false ∧ s.vm.findClass RJ0 = some cell.cls := by
    obtain ⟨cell, h1, h2, h3, -⟩ := ((sz_X hw).1 z hz).1.kept hw.2.2.2.1.2.1
    exact ⟨cell, h1, h2, h3⟩
  refine va_calli (va_runV (As := As) (rest := rest) C (hM H.size) cw ⟨Cpre_blind, hrc, fun U hU hW => ⟨rfl, by rw [hU], fun k q h => by simp at h, ⟨(va_K.moved hW.alike hw.1).1, fun k q h => by simp at h⟩, ⟨fun i j x y h => by simp at h, fun k q h => by simp at h⟩, EXs.warm hW hU hw.2.2.2.1 hFc hw.2.2.2.2.2⟩⟩ rfl hlen hsize rfl (lv_room hroom) hdg hf) hw.2.2.2.1 (fun q _ h => hFc q h) hFc
    (fun r u t H1 locs1 ht hvm hk hB hz1 hk1 hS => kk r H1 locs1 hk (sz_back hw hk1 hS))
/-- a static method without a world and an answer -/
theorem wd_Sv {K : Unit → Prop} (C : CallFix p m c cc nL s args Ts own) (hw : Wd D A s tys ws H locs) (hM : Cv l y wsY rm As D [] (fun _ : Unit => []) () K)
    (cw : CallB R s args own index y bytes maxL ret wsY rm 0 0 n ∧ (Cond.static y).before args s = true) (hlen : As.length = n) (hsize : ls.size = nL) (hroom : (rest.map fun v => v.category).sum ≤ 8) (hdg : decode cc pc = .ok (.invokestatic index, 3)) (hf : cells ≤ R.cells ∧ slots ≤ R.slots)
    (kk : ∀ (H1 : Heap) (locs1 : List Loc), K () → Wd D A s tys ws H1 locs1 → W p l e R s m args below meth c H1 locs1 cells slots Q (F0 m (pc + 3) ls rest)) {st : List Value} (hst : st = As.reverse ++ rest) : W p l e R s m args below meth c H locs cells slots Q (F0 m pc ls st) := by
  subst hst
  have hFc := sz_free hw
  exact va_callv (va_runS (As := As) (rest := rest) C (hM H.size) cw ⟨Cpre_blind, fun U hU hW => ⟨rfl, by rw [hU], fun k q h => by simp at h, ⟨(va_K.moved hW.alike hw.1).1, fun k q h => by simp at h⟩, ⟨fun i j x y h => by simp at h, fun k q h => by simp at h⟩, EXs.warm hW hU hw.2.2.2.1 hFc hw.2.2.2.2.2⟩⟩ rfl hlen hsize rfl (lv_room hroom) hdg hf) hw.2.2.2.1 (fun q _ h => hFc q h) hFc
    (fun u t H1 locs1 ht hvm hk hB hz1 hk1 hS => kk H1 locs1 hk (sz_back hw hk1 hS))
end SZ
theorem ctJ0_coder_7d493 (l : Launch) (D : va_G) (z : Nat) (hz : z < 2) {K : Int32 → Unit → Prop} (hh : K 0 ()) : Ci l yJ0_coder_7d493 wsJ0_coder_7d493 rmJ0_coder_7d493 [.ref (D.2 1000 z)] D [] (fun _ : Unit => []) () K := by
  refine Ci_of (cc := cJ0_coder_7d493) (maxL := 1) (by decide) rfl (Nat.le_of_ble_eq_true rfl) ?_
  intro p e s m below meth c A Q C hw hR ls hl
  refine va_gets C.1 C.2.1 (sz_X hw).2.1 hw.2.2.2.1 C.2.2.2.1 (C.2.2.2.2 _ (wc w_670)) (fun _ h => h) dJ0_coder_7d493_0 ?_
  refine lv_if_eq (tgt := 13) C.1 C.2.1 dJ0_coder_7d493_3 (by decide) (fun h => absurd h (by decide)) (fun _ => ?_)
  refine lv_aload_n C.1 C.2.1 dJ0_coder_7d493_6 rfl (lv_at hl 0 rfl) ?_
  refine vk_getf C.1 C.2.1 ((sz_X hw).1 z hz).2.1 hw.2.2.2.1 C.2.2.2.1 (C.2.2.2.2 _ (wc w_2074)) (fun _ h => h) dJ0_coder_7d493_7 ?_
  refine lv_goto (tgt := 14) C.1 C.2.1 dJ0_coder_7d493_10 (by decide) ?_
  exact hR _ _ _ () _ _ dJ0_coder_7d493_14 rfl hh hw
theorem ctJ0_isLatin1_aae02 (l : Launch) (D : va_G) (z : Nat) (hz : z < 2) {K : Int32 → Unit → Prop} (hh : K 1 ()) : Ci l yJ0_isLatin1_aae02 wsJ0_isLatin1_aae02 rmJ0_isLatin1_aae02 [.ref (D.2 1000 z)] D [] (fun _ : Unit => []) () K := by
  refine Ci_of (cc := cJ0_isLatin1_aae02) (maxL := 1) (by decide) rfl (Nat.le_of_ble_eq_true rfl) ?_
  intro p e s m below meth c A Q C hw hR ls hl
  refine va_gets C.1 C.2.1 (sz_X hw).2.1 hw.2.2.2.1 C.2.2.2.1 (C.2.2.2.2 _ (wc w_670)) (fun _ h => h) dJ0_isLatin1_aae02_0 ?_
  refine lv_if_eq (tgt := 17) C.1 C.2.1 dJ0_isLatin1_aae02_3 (by decide) (fun h => absurd h (by decide)) (fun _ => ?_)
  refine lv_aload_n C.1 C.2.1 dJ0_isLatin1_aae02_6 rfl (lv_at hl 0 rfl) ?_
  refine vk_getf C.1 C.2.1 ((sz_X hw).1 z hz).2.1 hw.2.2.2.1 C.2.2.2.1 (C.2.2.2.2 _ (wc w_2074)) (fun _ h => h) dJ0_isLatin1_aae02_7 ?_
  refine lv_if_ne (tgt := 17) C.1 C.2.1 dJ0_isLatin1_aae02_10 (by decide) (fun h => absurd rfl h) (fun _ => ?_)
  refine lv_iconst (v := (1 : Int32)) C.1 C.2.1 dJ0_isLatin1_aae02_13 (by decide) ?_
  refine lv_goto (tgt := 18) C.1 C.2.1 dJ0_isLatin1_aae02_14 (by decide) ?_
  exact hR _ _ _ () _ _ dJ0_isLatin1_aae02_18 rfl hh hw
def wpJ0_length_8abf5 (z : Nat) (K : Int32 → Unit → Prop) : Prop := K (jshr (Int32.ofNat (zl z)) 0) ()
theorem ctJ0_length_8abf5 (l : Launch) (D : va_G) (z : Nat) (hz : z < 2) {K : Int32 → Unit → Prop} (hh : wpJ0_length_8abf5 z K) : Ci l yJ0_length_8abf5 wsJ0_length_8abf5 rmJ0_length_8abf5 [.ref (D.2 1000 z)] D [] (fun _ : Unit => []) () K := by
  refine Ci_of (cc := cJ0_length_8abf5) (maxL := 1) (by decide) rfl (Nat.le_of_ble_eq_true rfl) ?_
  intro p e s m below meth c A Q C hw hR ls hl
  refine lv_aload_n C.1 C.2.1 dJ0_length_8abf5_0 rfl (lv_at hl 0 rfl) ?_
  refine vk_getf C.1 C.2.1 ((sz_X hw).1 z hz).2.2.1 hw.2.2.2.1 C.2.2.2.1 (C.2.2.2.2 _ (wc w_2073)) (fun _ h => h) dJ0_length_8abf5_1 ?_
  obtain ⟨f, hf⟩ := ((sz_X hw).1 z hz).2.2.2
  refine va_tlen C.1 C.2.1 hf hw.2.2.2.1 rfl dJ0_length_8abf5_4 ?_
  refine lv_aload_n C.1 C.2.1 dJ0_length_8abf5_5 rfl (lv_at hl 0 rfl) ?_
  refine wz_Vi C hw hz (ctJ0_coder_7d493 l D z hz (K := fun r _ => r = 0) rfl) (cwV 0 C.2.2.2.2 (gd_V w_666 w_667 w_668 w_126 w_669) rfl rfl rfl cdJ0_coder_7d493 ⟨Nat.le_of_ble_eq_true rfl, Nat.le_of_ble_eq_true rfl⟩) rfl hl.1 (Nat.le_of_ble_eq_true rfl) dJ0_length_8abf5_6 ⟨Nat.zero_le _, Nat.zero_le _⟩ (fun r6 H locs h6 hw => ?_) rfl
  subst h6
  refine g_ishr C dJ0_length_8abf5_9 ?_
  exact hR _ _ _ () _ _ dJ0_length_8abf5_10 rfl hh hw
theorem ctJ3_checkIndex_8e157_n (l : Launch) (D : va_G) (x0 x1 : Int32) (h0 : ¬ x0 < 0) (h1 : x0 < x1) {K : Int32 → Unit → Prop} (hh : K x0 ()) : Ci l yJ3_checkIndex_8e157 wsJ3_checkIndex_8e157 rmJ3_checkIndex_8e157 [.int x0, .int x1, .null] D [] (fun _ : Unit => []) () K := by
  refine Ci_of (cc := cJ3_checkIndex_8e157) (maxL := 3) (by decide) rfl (Nat.le_of_ble_eq_true rfl) ?_
  intro p e s m below meth c A Q C hw hR ls hl
  refine lv_iload_n C.1 C.2.1 dJ3_checkIndex_8e157_0 rfl (lv_at hl 0 rfl) ?_
  refine lv_if_lt (tgt := 9) C.1 C.2.1 dJ3_checkIndex_8e157_1 (by decide) (fun h => absurd h h0) (fun _ => ?_)
  refine lv_iload_n C.1 C.2.1 dJ3_checkIndex_8e157_4 rfl (lv_at hl 0 rfl) ?_
  refine lv_iload_n C.1 C.2.1 dJ3_checkIndex_8e157_5 rfl (lv_at hl 1 rfl) ?_
  refine lv_icmp_lt (tgt := 16) C.1 C.2.1 dJ3_checkIndex_8e157_6 (by decide) (fun _ => ?_) (fun h => absurd h1 h)
  refine lv_iload_n C.1 C.2.1 dJ3_checkIndex_8e157_16 rfl (lv_at hl 0 rfl) ?_
  exact hR _ _ _ () _ _ dJ3_checkIndex_8e157_17 rfl hh hw
theorem ctJ3_checkIndex_8e157_r (l : Launch) (D : va_G) (t : Nat) (x0 x1 : Int32) (h0 : ¬ x0 < 0) (h1 : x0 < x1) {K : Int32 → Unit → Prop} (hh : K x0 ()) : Ci l yJ3_checkIndex_8e157 wsJ3_checkIndex_8e157 rmJ3_checkIndex_8e157 [.int x0, .int x1, .ref t] D [] (fun _ : Unit => []) () K := by
  refine Ci_of (cc := cJ3_checkIndex_8e157) (maxL := 3) (by decide) rfl (Nat.le_of_ble_eq_true rfl) ?_
  intro p e s m below meth c A Q C hw hR ls hl
  refine lv_iload_n C.1 C.2.1 dJ3_checkIndex_8e157_0 rfl (lv_at hl 0 rfl) ?_
  refine lv_if_lt (tgt := 9) C.1 C.2.1 dJ3_checkIndex_8e157_1 (by decide) (fun h => absurd h h0) (fun _ => ?_)
  refine lv_iload_n C.1 C.2.1 dJ3_checkIndex_8e157_4 rfl (lv_at hl 0 rfl) ?_
  refine lv_iload_n C.1 C.2.1 dJ3_checkIndex_8e157_5 rfl (lv_at hl 1 rfl) ?_
  refine lv_icmp_lt (tgt := 16) C.1 C.2.1 dJ3_checkIndex_8e157_6 (by decide) (fun _ => ?_) (fun h => absurd h1 h)
  refine lv_iload_n C.1 C.2.1 dJ3_checkIndex_8e157_16 rfl (lv_at hl 0 rfl) ?_
  exact hR _ _ _ () _ _ dJ3_checkIndex_8e157_17 rfl hh hw
theorem ctJ0_checkIndex_df160 (l : Launch) (D : va_G) (x0 x1 : Int32) (h0 : ¬ x0 < 0) (h1 : x0 < x1) {K : Unit → Prop} (hh : K ()) : Cv l yJ0_checkIndex_df160 wsJ0_checkIndex_df160 rmJ0_checkIndex_df160 [.int x0, .int x1] D [] (fun _ : Unit => []) () K := by
  refine Cv_of (cc := cJ0_checkIndex_df160) (maxL := 2) (by decide) rfl (Nat.le_of_ble_eq_true rfl) ?_
  intro p e s m below meth c A Q C hw hR ls hl
  refine lv_iload_n C.1 C.2.1 dJ0_checkIndex_df160_0 rfl (lv_at hl 0 rfl) ?_
  refine lv_iload_n C.1 C.2.1 dJ0_checkIndex_df160_1 rfl (lv_at hl 1 rfl) ?_
  rcases (sz_X hw).2.2 with hq | ⟨t, hq⟩
  · refine va_gets C.1 C.2.1 hq hw.2.2.2.1 C.2.2.2.1 (C.2.2.2.2 _ (wc w_686)) (fun _ h => h) dJ0_checkIndex_df160_2 ?_
    refine wd_Si C hw (ctJ3_checkIndex_8e157_n l D x0 x1 h0 h1 (K := fun _ _ => True) trivial) (va_cwS 3 C.2.2.2.2 (gd_S w_688 w_689 (ini_cls rfl w_128) w_690) rfl rfl rfl cdJ3_checkIndex_8e157 ⟨Nat.le_of_ble_eq_true rfl, Nat.le_of_ble_eq_true rfl⟩) rfl hl.1 (Nat.le_of_ble_eq_true rfl) dJ0_checkIndex_df160_5 ⟨Nat.zero_le _, Nat.zero_le _⟩ (fun r5 H locs _ hw => ?_) rfl
    refine lv_pop C.1 C.2.1 dJ0_checkIndex_df160_8 rfl ?_
    exact hR _ _ () _ _ dJ0_checkIndex_df160_9 hh hw
  · refine va_gets C.1 C.2.1 hq hw.2.2.2.1 C.2.2.2.1 (C.2.2.2.2 _ (wc w_686)) (fun _ h => h) dJ0_checkIndex_df160_2 ?_
    refine wd_Si C hw (ctJ3_checkIndex_8e157_r l D t x0 x1 h0 h1 (K := fun _ _ => True) trivial) (va_cwS 3 C.2.2.2.2 (gd_S w_688 w_689 (ini_cls rfl w_128) w_690) rfl rfl rfl cdJ3_checkIndex_8e157 ⟨Nat.le_of_ble_eq_true rfl, Nat.le_of_ble_eq_true rfl⟩) rfl hl.1 (Nat.le_of_ble_eq_true rfl) dJ0_checkIndex_df160_5 ⟨Nat.zero_le _, Nat.zero_le _⟩ (fun r5 H locs _ hw => ?_) rfl
    refine lv_pop C.1 C.2.1 dJ0_checkIndex_df160_8 rfl ?_
    exact hR _ _ () _ _ dJ0_checkIndex_df160_9 hh hw
theorem ctJ1_charAt_3b067 (l : Launch) (D : va_G) (z : Nat) (hz : z < 2) (x : Int32) (hx : vp_in x (zl z)) (h0 : ¬ x < 0) (h1 : x < Int32.ofNat (zl z)) {K : Int32 → Unit → Prop} (hh : ∀ r, narrow .char (.int r) = .int r → K r ()) : Ci l yJ1_charAt_3b067 wsJ1_charAt_3b067 rmJ1_charAt_3b067 [.ref (D.2 1001 z), .int x] D [] (fun _ : Unit => []) () K := by
  refine Ci_of (cc := cJ1_charAt_3b067) (maxL := 2) (by decide) rfl (Nat.le_of_ble_eq_true rfl) ?_
  intro p e s m below meth c A Q C hw hR ls hl
  refine lv_iload_n C.1 C.2.1 dJ1_charAt_3b067_0 rfl (lv_at hl 1 rfl) ?_
  refine lv_aload_n C.1 C.2.1 dJ1_charAt_3b067_1 rfl (lv_at hl 0 rfl) ?_
  obtain ⟨f, hf⟩ := ((sz_X hw).1 z hz).2.2.2
  refine va_tlen C.1 C.2.1 hf hw.2.2.2.1 rfl dJ1_charAt_3b067_2 ?_
  refine wd_Sv C hw (ctJ0_checkIndex_df160 l D x (Int32.ofNat (zl z)) h0 h1 (K := fun _ => True) trivial) (va_cwS 2 C.2.2.2.2 (gd_S w_683 w_684 (ini_cls rfl w_126) w_685) rfl rfl rfl cdJ0_checkIndex_df160 ⟨Nat.le_of_ble_eq_true rfl, Nat.le_of_ble_eq_true rfl⟩) rfl hl.1 (Nat.le_of_ble_eq_true rfl) dJ1_charAt_3b067_3 ⟨Nat.zero_le _, Nat.zero_le _⟩ (fun H locs _ hw => ?_) rfl
  refine lv_aload_n C.1 C.2.1 dJ1_charAt_3b067_6 rfl (lv_at hl 0 rfl) ?_
  refine lv_iload_n C.1 C.2.1 dJ1_charAt_3b067_7 rfl (lv_at hl 1 rfl) ?_
  refine va_tb (v := .int (f x.toNatClampNeg)) C.1 C.2.1 hf hw.2.2.2.1 hx rfl dJ1_charAt_3b067_8 ?_
  refine lv_sipush (v := (255 : Int32)) C.1 C.2.1 dJ1_charAt_3b067_9 (by decide) ?_
  refine lv_iand C.1 C.2.1 dJ1_charAt_3b067_12 ?_
  refine lv_i2c (v := f x.toNatClampNeg &&& 255) C.1 C.2.1 dJ1_charAt_3b067_13 (sc_c2 _) ?_
  exact hR _ _ _ () _ _ dJ1_charAt_3b067_14 (sc_nar _) (hh _ (sc_nar _)) hw
def wpJ0_charAt_5068e (z : Nat) (x : Int32) (K : Int32 → Unit → Prop) : Prop := (vp_in x (zl z) ∧ ¬ x < 0 ∧ x < Int32.ofNat (zl z)) ∧ ∀ r, K r ()
theorem ctJ0_charAt_5068e (l : Launch) (D : va_G) (z : Nat) (hz : z < 2) (x : Int32) {K : Int32 → Unit → Prop} (hh : wpJ0_charAt_5068e z x K) : Ci l yJ0_charAt_5068e wsJ0_charAt_5068e rmJ0_charAt_5068e [.ref (D.2 1000 z), .int x] D [] (fun _ : Unit => []) () K := by
  refine Ci_of (cc := cJ0_charAt_5068e) (maxL := 2) (by decide) rfl (Nat.le_of_ble_eq_true rfl) ?_
  intro p e s m below meth c A Q C hw hR ls hl
  refine lv_aload_n C.1 C.2.1 dJ0_charAt_5068e_0 rfl (lv_at hl 0 rfl) ?_
  refine wz_Vi C hw hz (ctJ0_isLatin1_aae02 l D z hz (K := fun r _ => r = 1) rfl) (cwV 0 C.2.2.2.2 (gd_V w_676 w_677 w_678 w_126 w_679) rfl rfl rfl cdJ0_isLatin1_aae02 ⟨Nat.le_of_ble_eq_true rfl, Nat.le_of_ble_eq_true rfl⟩) rfl hl.1 (Nat.le_of_ble_eq_true rfl) dJ0_charAt_5068e_1 ⟨Nat.zero_le _, Nat.zero_le _⟩ (fun r1 H locs h1 hw => ?_) rfl
  subst h1
  refine lv_if_eq (tgt := 16) C.1 C.2.1 dJ0_charAt_5068e_4 (by decide) (fun h => absurd h (by decide)) (fun _ => ?_)
  refine lv_aload_n C.1 C.2.1 dJ0_charAt_5068e_7 rfl (lv_at hl 0 rfl) ?_
  refine vk_getf C.1 C.2.1 ((sz_X hw).1 z hz).2.2.1 hw.2.2.2.1 C.2.2.2.1 (C.2.2.2.2 _ (wc w_2073)) (fun _ h => h) dJ0_charAt_5068e_8 ?_
  refine lv_iload_n C.1 C.2.1 dJ0_charAt_5068e_11 rfl (lv_at hl 1 rfl) ?_
  refine wd_Si C hw (ctJ1_charAt_3b067 l D z hz x hh.1.1 hh.1.2.1 hh.1.2.2 (K := fun r _ => narrow .char (.int r) = .int r) (fun _ h => h)) (va_cwS 2 C.2.2.2.2 (gd_S w_680 w_681 (ini_cls rfl w_127) w_682) rfl rfl rfl cdJ1_charAt_3b067 ⟨Nat.le_of_ble_eq_true rfl, Nat.le_of_ble_eq_true rfl⟩) rfl hl.1 (Nat.le_of_ble_eq_true rfl) dJ0_charAt_5068e_12 ⟨Nat.zero_le _, Nat.zero_le _⟩ (fun r12 H locs h12 hw => ?_) rfl
  exact hR _ _ _ () _ _ dJ0_charAt_5068e_15 h12 (hh.2 _) hw
