section
variable {p : Program} {l : Launch} {e : Env} {s : State} {m : MethodId} {args : Array Value} {below : List Frame} {meth : Method} {c : Code} {D : va_G} {A : Nat → Prop} {h : Nat → Nat} {cI cL cF cM : ClassId} {Q : State → Prop}
abbrev rmX3_markYes : Room := { frames := 0, cells := 0, slots := 0, locals := 0 }
set_option maxHeartbeats 4000000 in
set_option maxRecDepth 100000 in
theorem tX3_markYes_b9 {a0 : Nat} {K : cS → Prop} (C : CallFix p m c cX3_markYes 3 s args wsX3_markYes RX3) (hR : Rtv p l e rmX3_markYes s m args below meth c cX3_markYes D A (cT cI cL cF cM) (cWu h cI cL cF cM) K Q) (ha0 : kd a0 = 3) {F : Nat → Nat → Int32} {L : Nat → Nat → Int64} {r : Nat → Nat → Nat} (hh : wpX3_markYes_b9 a0 F L r K) {H : Heap} {locs : List Loc} {ls : Array Slot} (hw : Wd D A s (cT cI cL cF cM) (cW h cI cL cF cM F L r) H locs) (hl : lv_has ls 3 [(0, .ref (h a0))]) : W p l e rmX3_markYes s m args below meth c H locs 0 0 Q (F0 m 9 ls []) := by
  unfold wpX3_markYes_b9 at hh
  exact hR _ _ (F, L, r) _ _ dX3_markYes_9 hh hw
set_option maxHeartbeats 4000000 in
set_option maxRecDepth 100000 in
theorem tX3_markYes_b62 {a0 : Nat} {K : cS → Prop} (C : CallFix p m c cX3_markYes 3 s args wsX3_markYes RX3) (hR : Rtv p l e rmX3_markYes s m args below meth c cX3_markYes D A (cT cI cL cF cM) (cWu h cI cL cF cM) K Q) (ha0 : kd a0 = 3) {F : Nat → Nat → Int32} {L : Nat → Nat → Int64} {r : Nat → Nat → Nat} (hh : wpX3_markYes_b62 a0 F L r K) {H : Heap} {locs : List Loc} {ls : Array Slot} (hw : Wd D A s (cT cI cL cF cM) (cW h cI cL cF cM F L r) H locs) (hl : lv_has ls 3 [(0, .ref (h a0))]) : W p l e rmX3_markYes s m args below meth c H locs 0 0 Q (F0 m 62 ls []) := by
  unfold wpX3_markYes_b62 at hh
  exact hR _ _ (F, L, r) _ _ dX3_markYes_62 hh hw
set_option maxHeartbeats 4000000 in
set_option maxRecDepth 100000 in
theorem tX3_markYes_b0 {a0 : Nat} {K : cS → Prop} (C : CallFix p m c cX3_markYes 3 s args wsX3_markYes RX3) (hR : Rtv p l e rmX3_markYes s m args below meth c cX3_markYes D A (cT cI cL cF cM) (cWu h cI cL cF cM) K Q) (ha0 : kd a0 = 3) {F : Nat → Nat → Int32} {L : Nat → Nat → Int64} {r : Nat → Nat → Nat} {x1 : Int32} {x2 : Int32} (hh : wpX3_markYes_b0 a0 F L r x1 x2 K) {H : Heap} {locs : List Loc} {ls : Array Slot} (hw : Wd D A s (cT cI cL cF cM) (cW h cI cL cF cM F L r) H locs) (hl : lv_has ls 3 [(0, .ref (h a0)), (1, .int x1), (2, .int x2)]) : W p l e rmX3_markYes s m args below meth c H locs 0 0 Q (F0 m 0 ls []) := by
  unfold wpX3_markYes_b0 at hh
  refine lv_iload_n C.1 C.2.1 dX3_markYes_0 rfl (lv_at hl 1 rfl) ?_
  refine lv_if_lt (tgt := 9) C.1 C.2.1 dX3_markYes_1 (by decide) (fun c1 => ?_) (fun c1 => ?_)
  · replace hh := hh.1 c1
    exact tX3_markYes_b9 C hR ha0 hh hw (lv_sub hl [0] rfl)
  · replace hh := hh.2 c1
    refine lv_iload_n C.1 C.2.1 dX3_markYes_4 rfl (lv_at hl 1 rfl) ?_
    refine lv_iconst (v := (3 : Int32)) C.1 C.2.1 dX3_markYes_5 (by decide) ?_
    refine lv_icmp_lt (tgt := 10) C.1 C.2.1 dX3_markYes_6 (by decide) (fun c6 => ?_) (fun c6 => ?_)
    · replace hh := hh.1 c6
      refine lv_iload_n C.1 C.2.1 dX3_markYes_10 rfl (lv_at hl 2 rfl) ?_
      refine lv_if_ne (tgt := 36) C.1 C.2.1 dX3_markYes_11 (by decide) (fun c11 => ?_) (fun c11 => ?_)
      · replace hh := hh.1 c11
        refine lv_aload_n C.1 C.2.1 dX3_markYes_36 rfl (lv_at hl 0 rfl) ?_
        refine c_get C hw (inC inW3) (kd_lt ha0 (by decide)) (ce3 ha0) rfl 8 (by decide) (wc w_410) (v := .int (F a0 8)) rfl dX3_markYes_37 ?_
        refine lv_iload_n C.1 C.2.1 dX3_markYes_40 rfl (lv_at hl 1 rfl) ?_
        refine g_ishr C dX3_markYes_41 ?_
        refine lv_iconst (v := (1 : Int32)) C.1 C.2.1 dX3_markYes_42 (by decide) ?_
        refine lv_iand C.1 C.2.1 dX3_markYes_43 ?_
        refine lv_if_ne (tgt := 62) C.1 C.2.1 dX3_markYes_44 (by decide) (fun c44 => ?_) (fun c44 => ?_)
        · replace hh := hh.1 c44
          exact tX3_markYes_b62 C hR ha0 hh hw (lv_sub hl [0] rfl)
        · replace hh := hh.2 c44
          refine lv_aload_n C.1 C.2.1 dX3_markYes_47 rfl (lv_at hl 0 rfl) ?_
          refine c_get C hw (inC inW3) (kd_lt ha0 (by decide)) (ce3 ha0) rfl 9 (by decide) (wc w_411) (v := .ref (h (a0 + 1))) rfl dX3_markYes_48 ?_
          refine lv_iload_n C.1 C.2.1 dX3_markYes_51 rfl (lv_at hl 1 rfl) ?_
          refine lv_dup2_11 C.1 C.2.1 dX3_markYes_52 rfl rfl ?_
          obtain ⟨hi53, hh⟩ := hh
          refine c_lal C hw (kd_lt (kd3_1 ha0) (by decide)) (ce23 (kd3_1 ha0)) hi53 dX3_markYes_53 ?_
          refine lv_lconst (v := (1 : Int64)) C.1 C.2.1 dX3_markYes_54 (by decide) ?_
          refine lv_aload_n C.1 C.2.1 dX3_markYes_55 rfl (lv_at hl 0 rfl) ?_
          refine c_get C hw (inC inW3) (kd_lt ha0 (by decide)) (ce3 ha0) rfl 0 (by decide) (wc w_392) (v := .int (F a0 0)) rfl dX3_markYes_56 ?_
          refine lv_lshl (v := jlshl (1 : Int64) (F a0 0)) C.1 C.2.1 dX3_markYes_59 rfl ?_
          refine lv_lor C.1 C.2.1 dX3_markYes_60 ?_
          obtain ⟨hi61, hh⟩ := hh
          refine c_las C hw (kd_lt (kd3_1 ha0) (by decide)) (ce23 (kd3_1 ha0)) hi61 dX3_markYes_61 (fun H locs hw => ?_)
          exact tX3_markYes_b62 C hR ha0 hh hw (lv_sub hl [0] rfl)
      · replace hh := hh.2 c11
        refine lv_aload_n C.1 C.2.1 dX3_markYes_14 rfl (lv_at hl 0 rfl) ?_
        refine c_get C hw (inC inW3) (kd_lt ha0 (by decide)) (ce3 ha0) rfl 9 (by decide) (wc w_411) (v := .ref (h (a0 + 1))) rfl dX3_markYes_15 ?_
        refine lv_iload_n C.1 C.2.1 dX3_markYes_18 rfl (lv_at hl 1 rfl) ?_
        refine lv_dup2_11 C.1 C.2.1 dX3_markYes_19 rfl rfl ?_
        obtain ⟨hi20, hh⟩ := hh
        refine c_lal C hw (kd_lt (kd3_1 ha0) (by decide)) (ce23 (kd3_1 ha0)) hi20 dX3_markYes_20 ?_
        refine lv_lconst (v := (1 : Int64)) C.1 C.2.1 dX3_markYes_21 (by decide) ?_
        refine lv_aload_n C.1 C.2.1 dX3_markYes_22 rfl (lv_at hl 0 rfl) ?_
        refine c_get C hw (inC inW3) (kd_lt ha0 (by decide)) (ce3 ha0) rfl 0 (by decide) (wc w_392) (v := .int (F a0 0)) rfl dX3_markYes_23 ?_
        refine lv_lshl (v := jlshl (1 : Int64) (F a0 0)) C.1 C.2.1 dX3_markYes_26 rfl ?_
        refine lv_ldc2 C.1 C.2.1 C.2.2.2.1 (C.2.2.2.2 _ (wc w_1025)) dX3_markYes_27 ?_
        refine lv_lxor C.1 C.2.1 dX3_markYes_30 ?_
        refine lv_land C.1 C.2.1 dX3_markYes_31 ?_
        obtain ⟨hi32, hh⟩ := hh
        refine c_las C hw (kd_lt (kd3_1 ha0) (by decide)) (ce23 (kd3_1 ha0)) hi32 dX3_markYes_32 (fun H locs hw => ?_)
        refine lv_goto (tgt := 62) C.1 C.2.1 dX3_markYes_33 (by decide) ?_
        exact tX3_markYes_b62 C hR ha0 hh hw (lv_sub hl [0] rfl)
    · replace hh := hh.2 c6
      exact tX3_markYes_b9 C hR ha0 hh hw (lv_sub hl [0] rfl)
theorem ctX3_markYes (l : Launch) (D : va_G) (h : Nat → Nat) (cI cL cF cM : ClassId) (a0 : Nat) (ha0 : kd a0 = 3) (F : Nat → Nat → Int32) (L : Nat → Nat → Int64) (r : Nat → Nat → Nat) (x1 : Int32) (x2 : Int32) {K : cS → Prop} (hh : wpX3_markYes a0 F L r x1 x2 K) : Cv l yX3_markYes wsX3_markYes rmX3_markYes [.ref (h a0), .int x1, .int x2] D (cT cI cL cF cM) (cWu h cI cL cF cM) (F, L, r) K := by
  refine Cv_of (cc := cX3_markYes) (maxL := 3) (by decide) rfl (Nat.le_of_ble_eq_true rfl) ?_
  intro p e s m below meth c A Q C hw hR ls hl
  exact tX3_markYes_b0 C hR ha0 hh hw hl
theorem cdX3_markYes : yX3_markYes.cls = RX3 ∧ yX3_markYes.cls ≠ "java/lang/invoke/MethodHandle" ∧ yX3_markYes.cls ≠ "java/lang/invoke/VarHandle" ∧ (parseMethodDescriptor yX3_markYes.desc).map (fun d => d.parameters.length) = some 2 := by decide +kernel
abbrev rmX3_perform : Room := { frames := 1, cells := 0, slots := 0, locals := 40 }
set_option maxHeartbeats 4000000 in
set_option maxRecDepth 100000 in
theorem tX3_perform_b178 {a0 : Nat} {a2 : Nat} {K : cS → Prop} (C : CallFix p m c cX3_perform 4 s args wsX3_perform RX3) (hR : Rtv p l e rmX3_perform s m args below meth c cX3_perform D A (cT cI cL cF cM) (cWu h cI cL cF cM) K Q) (ha0 : kd a0 = 3) (ha2 : kd a2 = 1) {F : Nat → Nat → Int32} {L : Nat → Nat → Int64} {r : Nat → Nat → Nat} (hh : wpX3_perform_b178 a0 a2 F L r K) {H : Heap} {locs : List Loc} {ls : Array Slot} (hw : Wd D A s (cT cI cL cF cM) (cW h cI cL cF cM F L r) H locs) (hl : lv_has ls 4 [(0, .ref (h a0))]) : W p l e rmX3_perform s m args below meth c H locs 0 0 Q (F0 m 178 ls []) := by
  unfold wpX3_perform_b178 at hh
  exact hR _ _ (F, L, r) _ _ dX3_perform_178 hh hw
set_option maxHeartbeats 4000000 in
set_option maxRecDepth 100000 in
theorem tX3_perform_b0 {a0 : Nat} {a2 : Nat} {K : cS → Prop} (C : CallFix p m c cX3_perform 4 s args wsX3_perform RX3) (hR : Rtv p l e rmX3_perform s m args below meth c cX3_perform D A (cT cI cL cF cM) (cWu h cI cL cF cM) K Q) (ha0 : kd a0 = 3) (ha2 : kd a2 = 1) {F : Nat → Nat → Int32} {L : Nat → Nat → Int64} {r : Nat → Nat → Nat} {x1 : Int32} (hh : wpX3_perform_b0 a0 a2 F L r x1 K) {H : Heap} {locs : List Loc} {ls : Array Slot} (hw : Wd D A s (cT cI cL cF cM) (cW h cI cL cF cM F L r) H locs) (hl : lv_has ls 4 [(0, .ref (h a0)), (1, .int x1), (2, .ref (h a2))]) : W p l e rmX3_perform s m args below meth c H locs 0 0 Q (F0 m 0 ls []) := by
  unfold wpX3_perform_b0 at hh
  refine lv_iload_n C.1 C.2.1 dX3_perform_0 rfl (lv_at hl 1 rfl) ?_
  refine lv_bipush (v := (15 : Int32)) C.1 C.2.1 dX3_perform_1 (by decide) ?_
  refine lv_iand C.1 C.2.1 dX3_perform_3 ?_
  refine lv_istore_n (lv' := [(3, .int (x1 &&& (15 : Int32))), (0, .ref (h a0)), (1, .int x1), (2, .ref (h a2))]) C.1 C.2.1 dX3_perform_4 rfl hl (by decide) rfl (fun ls hl => ?_)
  refine lv_iload_n C.1 C.2.1 dX3_perform_5 rfl (lv_at hl 2 rfl) ?_
  refine lv_iconst (v := (4 : Int32)) C.1 C.2.1 dX3_perform_6 (by decide) ?_
  refine g_ishr C dX3_perform_7 ?_
  refine sw_in (x := jshr x1 (4 : Int32)) (lo := 8) (hi := 18) (fun hlo hhi => ?_) (fun ho => ?_)
  · have hv : (jshr x1 (4 : Int32)).toInt = 8 ∨ (jshr x1 (4 : Int32)).toInt = 9 ∨ (jshr x1 (4 : Int32)).toInt = 10 ∨ (jshr x1 (4 : Int32)).toInt = 11 ∨ (jshr x1 (4 : Int32)).toInt = 12 ∨ (jshr x1 (4 : Int32)).toInt = 13 ∨ (jshr x1 (4 : Int32)).toInt = 14 ∨ (jshr x1 (4 : Int32)).toInt = 15 ∨ (jshr x1 (4 : Int32)).toInt = 16 ∨ (jshr x1 (4 : Int32)).toInt = 17 ∨ (jshr x1 (4 : Int32)).toInt = 18 := by omega
    rcases hv with hv | hv | hv | hv | hv | hv | hv | hv | hv | hv | hv
    · replace hh := hh.1 (sw_eq hv (by decide))
      refine lv_tableIn (off := 132) (tgt := 140) C.1 C.2.1 dX3_perform_8 hlo hhi (by rw [hv]; rfl) (by decide) ?_
      refine lv_aload_n C.1 C.2.1 dX3_perform_140 rfl (lv_at hl 1 rfl) ?_
      refine lv_iload_n C.1 C.2.1 dX3_perform_141 rfl (lv_at hl 0 rfl) ?_
      refine c_puti C hw (inC inW3) tyX3 tyX3_ok nmX3 (kd_lt ha0 (by decide)) (ce3 ha0) rfl 2 (by decide) (wc w_399) rfl (ty := .int) (by decide +kernel) rfl rfl (Nat.le_of_ble_eq_true rfl) rfl dX3_perform_142 (fun H locs hw => ?_)
      refine lv_goto (tgt := 178) C.1 C.2.1 dX3_perform_145 (by decide) ?_
      exact tX3_perform_b178 C hR ha0 ha2 hh hw (lv_sub hl [1] rfl)
    · replace hh := hh.2.1 (sw_eq hv (by decide))
      refine lv_tableIn (off := 114) (tgt := 122) C.1 C.2.1 dX3_perform_8 hlo hhi (by rw [hv]; rfl) (by decide) ?_
      refine lv_aload_n C.1 C.2.1 dX3_perform_122 rfl (lv_at hl 1 rfl) ?_
      refine lv_iload_n C.1 C.2.1 dX3_perform_123 rfl (lv_at hl 0 rfl) ?_
      refine lv_iconst (v := (1 : Int32)) C.1 C.2.1 dX3_perform_124 (by decide) ?_
      refine c_Vv C hw (ctX3_markYes l D h cI cL cF cM a0 ha0 F L r (x1 &&& (15 : Int32)) (1 : Int32) hh) (cwV 2 C.2.2.2.2 (gd_V w_1030 w_1032 w_35 w_121 w_1033) rfl rfl rfl cdX3_markYes ⟨Nat.le_of_ble_eq_true rfl, Nat.le_of_ble_eq_true rfl⟩) rfl (kd_lt ha0 (by decide)) (ce3 ha0) rfl hl.1 (Nat.le_of_ble_eq_true rfl) dX3_perform_125 ⟨Nat.zero_le _, Nat.zero_le _⟩ (fun u125 H locs hh hw => ?_) rfl
      refine lv_goto (tgt := 178) C.1 C.2.1 dX3_perform_128 (by decide) ?_
      exact tX3_perform_b178 C hR ha0 ha2 hh hw (lv_sub hl [1] rfl)
    · replace hh := hh.2.2.1 (sw_eq hv (by decide))
      refine lv_tableIn (off := 123) (tgt := 131) C.1 C.2.1 dX3_perform_8 hlo hhi (by rw [hv]; rfl) (by decide) ?_
      refine lv_aload_n C.1 C.2.1 dX3_perform_131 rfl (lv_at hl 1 rfl) ?_
      refine lv_iload_n C.1 C.2.1 dX3_perform_132 rfl (lv_at hl 0 rfl) ?_
      refine lv_iconst (v := (0 : Int32)) C.1 C.2.1 dX3_perform_133 (by decide) ?_
      refine c_Vv C hw (ctX3_markYes l D h cI cL cF cM a0 ha0 F L r (x1 &&& (15 : Int32)) (0 : Int32) hh) (cwV 2 C.2.2.2.2 (gd_V w_1030 w_1032 w_35 w_121 w_1033) rfl rfl rfl cdX3_markYes ⟨Nat.le_of_ble_eq_true rfl, Nat.le_of_ble_eq_true rfl⟩) rfl (kd_lt ha0 (by decide)) (ce3 ha0) rfl hl.1 (Nat.le_of_ble_eq_true rfl) dX3_perform_134 ⟨Nat.zero_le _, Nat.zero_le _⟩ (fun u134 H locs hh hw => ?_) rfl
      refine lv_goto (tgt := 178) C.1 C.2.1 dX3_perform_137 (by decide) ?_
      exact tX3_perform_b178 C hR ha0 ha2 hh hw (lv_sub hl [1] rfl)
    · replace hh := hh.2.2.2.1 (sw_eq hv (by decide))
      refine lv_tableIn (off := 60) (tgt := 68) C.1 C.2.1 dX3_perform_8 hlo hhi (by rw [hv]; rfl) (by decide) ?_
      refine lv_aload_n C.1 C.2.1 dX3_perform_68 rfl (lv_at hl 1 rfl) ?_
      refine lv_iconst (v := (1 : Int32)) C.1 C.2.1 dX3_perform_69 (by decide) ?_
      refine c_Vv C hw (ctX3_turn l D h cI cL cF cM a0 ha0 F L r (1 : Int32) hh) (cwV 1 C.2.2.2.2 (gd_V w_1017 w_1019 w_32 w_121 w_1020) rfl rfl rfl cdX3_turn ⟨Nat.le_of_ble_eq_true rfl, Nat.le_of_ble_eq_true rfl⟩) rfl (kd_lt ha0 (by decide)) (ce3 ha0) rfl hl.1 (Nat.le_of_ble_eq_true rfl) dX3_perform_70 ⟨Nat.zero_le _, Nat.zero_le _⟩ (fun u70 H locs hh hw => ?_) rfl
      refine lv_goto (tgt := 178) C.1 C.2.1 dX3_perform_73 (by decide) ?_
      exact tX3_perform_b178 C hR ha0 ha2 hh hw (lv_sub hl [1] rfl)
    · replace hh := hh.2.2.2.2.1 (sw_eq hv (by decide))
      refine lv_tableIn (off := 68) (tgt := 76) C.1 C.2.1 dX3_perform_8 hlo hhi (by rw [hv]; rfl) (by decide) ?_
      refine lv_aload_n C.1 C.2.1 dX3_perform_76 rfl (lv_at hl 1 rfl) ?_
      refine lv_iconst (v := (3 : Int32)) C.1 C.2.1 dX3_perform_77 (by decide) ?_
      refine c_Vv C hw (ctX3_turn l D h cI cL cF cM a0 ha0 F L r (3 : Int32) hh) (cwV 1 C.2.2.2.2 (gd_V w_1017 w_1019 w_32 w_121 w_1020) rfl rfl rfl cdX3_turn ⟨Nat.le_of_ble_eq_true rfl, Nat.le_of_ble_eq_true rfl⟩) rfl (kd_lt ha0 (by decide)) (ce3 ha0) rfl hl.1 (Nat.le_of_ble_eq_true rfl) dX3_perform_78 ⟨Nat.zero_le _, Nat.zero_le _⟩ (fun u78 H locs hh hw => ?_) rfl
      refine lv_goto (tgt := 178) C.1 C.2.1 dX3_perform_81 (by decide) ?_
      exact tX3_perform_b178 C hR ha0 ha2 hh hw (lv_sub hl [1] rfl)
    · replace hh := hh.2.2.2.2.2.1 (sw_eq hv (by decide))
      refine lv_tableIn (off := 76) (tgt := 84) C.1 C.2.1 dX3_perform_8 hlo hhi (by rw [hv]; rfl) (by decide) ?_
      refine lv_aload_n C.1 C.2.1 dX3_perform_84 rfl (lv_at hl 1 rfl) ?_
      refine lv_iconst (v := (2 : Int32)) C.1 C.2.1 dX3_perform_85 (by decide) ?_
      refine c_Vv C hw (ctX3_turn l D h cI cL cF cM a0 ha0 F L r (2 : Int32) hh) (cwV 1 C.2.2.2.2 (gd_V w_1017 w_1019 w_32 w_121 w_1020) rfl rfl rfl cdX3_turn ⟨Nat.le_of_ble_eq_true rfl, Nat.le_of_ble_eq_true rfl⟩) rfl (kd_lt ha0 (by decide)) (ce3 ha0) rfl hl.1 (Nat.le_of_ble_eq_true rfl) dX3_perform_86 ⟨Nat.zero_le _, Nat.zero_le _⟩ (fun u86 H locs hh hw => ?_) rfl
      refine lv_goto (tgt := 178) C.1 C.2.1 dX3_perform_89 (by decide) ?_
      exact tX3_perform_b178 C hR ha0 ha2 hh hw (lv_sub hl [1] rfl)
    · replace hh := hh.2.2.2.2.2.2.1 (sw_eq hv (by decide))
      refine lv_tableIn (off := 84) (tgt := 92) C.1 C.2.1 dX3_perform_8 hlo hhi (by rw [hv]; rfl) (by decide) ?_
      refine lv_aload_n C.1 C.2.1 dX3_perform_92 rfl (lv_at hl 1 rfl) ?_
      refine lv_aload_n C.1 C.2.1 dX3_perform_93 rfl (lv_at hl 1 rfl) ?_
      refine lv_aload_n C.1 C.2.1 dX3_perform_94 rfl (lv_at hl 1 rfl) ?_
      refine c_get C hw (inC inW3) (kd_lt ha0 (by decide)) (ce3 ha0) rfl 0 (by decide) (wc w_392) (v := .int (F a0 0)) rfl dX3_perform_95 ?_
      refine c_Vi C hw (ctX3_wayOf l D h cI cL cF cM a0 ha0 F L r (F a0 0) hh) (cwV 1 C.2.2.2.2 (gd_V w_1005 w_1006 w_1007 w_121 w_1008) rfl rfl rfl cdX3_wayOf ⟨Nat.le_of_ble_eq_true rfl, Nat.le_of_ble_eq_true rfl⟩) rfl (kd_lt ha0 (by decide)) (ce3 ha0) rfl hl.1 (Nat.le_of_ble_eq_true rfl) dX3_perform_98 ⟨Nat.zero_le _, Nat.zero_le _⟩ (fun r98 u98 H locs hh hw => ?_) rfl
      refine c_puti C hw (inC inW3) tyX3 tyX3_ok nmX3 (kd_lt ha0 (by decide)) (ce3 ha0) rfl 1 (by decide) (wc w_396) rfl (ty := .int) (by decide +kernel) rfl rfl (Nat.le_of_ble_eq_true rfl) rfl dX3_perform_101 (fun H locs hw => ?_)
      refine lv_goto (tgt := 178) C.1 C.2.1 dX3_perform_104 (by decide) ?_
      exact tX3_perform_b178 C hR ha0 ha2 hh hw (lv_sub hl [1] rfl)
    · replace hh := hh.2.2.2.2.2.2.2.1 (sw_eq hv (by decide))
      refine lv_tableIn (off := 99) (tgt := 107) C.1 C.2.1 dX3_perform_8 hlo hhi (by rw [hv]; rfl) (by decide) ?_
      refine lv_aload_n C.1 C.2.1 dX3_perform_107 rfl (lv_at hl 1 rfl) ?_
      refine c_Vv C hw (ctX3_markWay l D h cI cL cF cM a0 ha0 F L r hh) (cwV 0 C.2.2.2.2 (gd_V w_1021 w_1023 w_33 w_121 w_1024) rfl rfl rfl cdX3_markWay ⟨Nat.le_of_ble_eq_true rfl, Nat.le_of_ble_eq_true rfl⟩) rfl (kd_lt ha0 (by decide)) (ce3 ha0) rfl hl.1 (Nat.le_of_ble_eq_true rfl) dX3_perform_108 ⟨Nat.zero_le _, Nat.zero_le _⟩ (fun u108 H locs hh hw => ?_) rfl
      refine lv_goto (tgt := 178) C.1 C.2.1 dX3_perform_111 (by decide) ?_
      exact tX3_perform_b178 C hR ha0 ha2 hh hw (lv_sub hl [1] rfl)
    · replace hh := hh.2.2.2.2.2.2.2.2.1 (sw_eq hv (by decide))
      refine lv_tableIn (off := 106) (tgt := 114) C.1 C.2.1 dX3_perform_8 hlo hhi (by rw [hv]; rfl) (by decide) ?_
      refine lv_aload_n C.1 C.2.1 dX3_perform_114 rfl (lv_at hl 1 rfl) ?_
      refine lv_aload_n C.1 C.2.1 dX3_perform_115 rfl (lv_at hl 3 rfl) ?_
      refine c_Vv C hw (ctX3_advance l D h cI cL cF cM a0 a2 ha0 ha2 F L r hh) (cwV 1 C.2.2.2.2 (gd_V w_1026 w_1028 w_34 w_121 w_1029) rfl rfl rfl cdX3_advance ⟨Nat.le_of_ble_eq_true rfl, Nat.le_of_ble_eq_true rfl⟩) rfl (kd_lt ha0 (by decide)) (ce3 ha0) rfl hl.1 (Nat.le_of_ble_eq_true rfl) dX3_perform_116 ⟨Nat.zero_le _, Nat.zero_le _⟩ (fun u116 H locs hh hw => ?_) rfl
      refine lv_goto (tgt := 178) C.1 C.2.1 dX3_perform_119 (by decide) ?_
      exact tX3_perform_b178 C hR ha0 ha2 hh hw (lv_sub hl [1] rfl)
    · replace hh := hh.2.2.2.2.2.2.2.2.2.1 (sw_eq hv (by decide))
      refine lv_tableIn (off := 140) (tgt := 148) C.1 C.2.1 dX3_perform_8 hlo hhi (by rw [hv]; rfl) (by decide) ?_
      refine lv_aload_n C.1 C.2.1 dX3_perform_148 rfl (lv_at hl 1 rfl) ?_
      refine lv_bipush (v := (99 : Int32)) C.1 C.2.1 dX3_perform_149 (by decide) ?_
      refine lv_aload_n C.1 C.2.1 dX3_perform_151 rfl (lv_at hl 1 rfl) ?_
      refine c_get C hw (inC inW3) (kd_lt ha0 (by decide)) (ce3 ha0) rfl 3 (by decide) (wc w_401) (v := .int (F a0 3)) rfl dX3_perform_152 ?_
      refine lv_iconst (v := (1 : Int32)) C.1 C.2.1 dX3_perform_155 (by decide) ?_
      refine lv_iadd C.1 C.2.1 dX3_perform_156 ?_
      refine c_min C (wc w_1034) (wc w_722) (wc w_130) (wc w_723) hl.1 (Nat.le_of_ble_eq_true rfl) (Nat.le_of_ble_eq_true rfl) ⟨Nat.zero_le _, Nat.zero_le _⟩ dX3_perform_157 ?_
      refine c_puti C hw (inC inW3) tyX3 tyX3_ok nmX3 (kd_lt ha0 (by decide)) (ce3 ha0) rfl 3 (by decide) (wc w_401) rfl (ty := .int) (by decide +kernel) rfl rfl (Nat.le_of_ble_eq_true rfl) rfl dX3_perform_160 (fun H locs hw => ?_)
      refine lv_goto (tgt := 178) C.1 C.2.1 dX3_perform_163 (by decide) ?_
      exact tX3_perform_b178 C hR ha0 ha2 hh hw (lv_sub hl [1] rfl)
    · replace hh := hh.2.2.2.2.2.2.2.2.2.2.1 (sw_eq hv (by decide))
      refine lv_tableIn (off := 158) (tgt := 166) C.1 C.2.1 dX3_perform_8 hlo hhi (by rw [hv]; rfl) (by decide) ?_
      refine lv_aload_n C.1 C.2.1 dX3_perform_166 rfl (lv_at hl 1 rfl) ?_
      refine lv_iconst (v := (0 : Int32)) C.1 C.2.1 dX3_perform_167 (by decide) ?_
      refine c_puti C hw (inC inW3) tyX3 tyX3_ok nmX3 (kd_lt ha0 (by decide)) (ce3 ha0) rfl 3 (by decide) (wc w_401) rfl (ty := .int) (by decide +kernel) rfl rfl (Nat.le_of_ble_eq_true rfl) rfl dX3_perform_168 (fun H locs hw => ?_)
      refine lv_goto (tgt := 178) C.1 C.2.1 dX3_perform_171 (by decide) ?_
      exact tX3_perform_b178 C hR ha0 ha2 hh hw (lv_sub hl [1] rfl)
  · replace hh := hh.2.2.2.2.2.2.2.2.2.2.2 ho
    refine lv_tableOut (tgt := 174) C.1 C.2.1 dX3_perform_8 ho (by decide) ?_
    refine lv_aload_n C.1 C.2.1 dX3_perform_174 rfl (lv_at hl 1 rfl) ?_
    refine c_Vv C hw (ctX3_clearSquares l D h cI cL cF cM a0 ha0 F L r hh) (cwV 0 C.2.2.2.2 (gd_V w_921 w_922 w_923 w_121 w_924) rfl rfl rfl cdX3_clearSquares ⟨Nat.le_of_ble_eq_true rfl, Nat.le_of_ble_eq_true rfl⟩) rfl (kd_lt ha0 (by decide)) (ce3 ha0) rfl hl.1 (Nat.le_of_ble_eq_true rfl) dX3_perform_175 ⟨Nat.zero_le _, Nat.zero_le _⟩ (fun u175 H locs hh hw => ?_) rfl
    exact tX3_perform_b178 C hR ha0 ha2 hh hw (lv_sub hl [1] rfl)
theorem ctX3_perform (l : Launch) (D : va_G) (h : Nat → Nat) (cI cL cF cM : ClassId) (a0 : Nat) (a2 : Nat) (ha0 : kd a0 = 3) (ha2 : kd a2 = 1) (F : Nat → Nat → Int32) (L : Nat → Nat → Int64) (r : Nat → Nat → Nat) (x1 : Int32) {K : cS → Prop} (hh : wpX3_perform a0 a2 F L r x1 K) : Cv l yX3_perform wsX3_perform rmX3_perform [.ref (h a0), .int x1, .ref (h a2)] D (cT cI cL cF cM) (cWu h cI cL cF cM) (F, L, r) K := by
  refine Cv_of (cc := cX3_perform) (maxL := 4) (by decide) rfl (Nat.le_of_ble_eq_true rfl) ?_
  intro p e s m below meth c A Q C hw hR ls hl
  exact tX3_perform_b0 C hR ha0 ha2 hh hw hl
theorem cdX3_perform : yX3_perform.cls = RX3 ∧ yX3_perform.cls ≠ "java/lang/invoke/MethodHandle" ∧ yX3_perform.cls ≠ "java/lang/invoke/VarHandle" ∧ (parseMethodDescriptor yX3_perform.desc).map (fun d => d.parameters.length) = some 2 := by decide +kernel
abbrev rmX3_obey : Room := { frames := 2, cells := 0, slots := 0, locals := 63 }
set_option maxHeartbeats 4000000 in
set_option maxRecDepth 100000 in
theorem tX3_obey_b44_body {a0 : Nat} {a1 : Nat} {a2 : Nat} {B44 : (Nat → Nat → Int32) → (Nat → Nat → Int64) → (Nat → Nat → Nat) → Int32 → Int32 → Prop} {K : cS → Prop} (C : CallFix p m c cX3_obey 5 s args wsX3_obey RX3) (hR : Rtv p l e rmX3_obey s m args below meth c cX3_obey D A (cT cI cL cF cM) (cWu h cI cL cF cM) K Q) (ha0 : kd a0 = 3) (ha1 : kd a1 = 6) (ha2 : kd a2 = 1) (hB44 : ∀ (F : Nat → Nat → Int32) (L : Nat → Nat → Int64) (r : Nat → Nat → Nat) (x3 : Int32) (x4 : Int32) (H : Heap) (locs : List Loc) (ls : Array Slot), B44 F L r x3 x4 → Wd D A s (cT cI cL cF cM) (cW h cI cL cF cM F L r) H locs → lv_has ls 5 [(0, .ref (h a0)), (1, .ref (h a1)), (2, .ref (h a2)), (3, .int x3), (4, .int x4)] → W p l e rmX3_obey s m args below meth c H locs 0 0 Q (F0 m 44 ls [])) {F : Nat → Nat → Int32} {L : Nat → Nat → Int64} {r : Nat → Nat → Nat} {x3 : Int32} {x4 : Int32} (hh : wpX3_obey_b44_body B44 a0 a1 a2 F L r x3 x4 K) {H : Heap} {locs : List Loc} {ls : Array Slot} (hw : Wd D A s (cT cI cL cF cM) (cW h cI cL cF cM F L r) H locs) (hl : lv_has ls 5 [(0, .ref (h a0)), (1, .ref (h a1)), (2, .ref (h a2)), (3, .int x3), (4, .int x4)]) : W p l e rmX3_obey s m args below meth c H locs 0 0 Q (F0 m 44 ls []) := by
  unfold wpX3_obey_b44_body at hh
  refine lv_iload C.1 C.2.1 dX3_obey_44 (lv_at hl 4 rfl) ?_
  refine lv_iload_n C.1 C.2.1 dX3_obey_46 rfl (lv_at hl 3 rfl) ?_
  refine lv_icmp_ge (tgt := 68) C.1 C.2.1 dX3_obey_47 (by decide) (fun c47 => ?_) (fun c47 => ?_)
  · replace hh := hh.1 c47
    exact hR _ _ (F, L, r) _ _ dX3_obey_68 hh hw
  · replace hh := hh.2 c47
    refine lv_aload_n C.1 C.2.1 dX3_obey_50 rfl (lv_at hl 0 rfl) ?_
    refine lv_aload_n C.1 C.2.1 dX3_obey_51 rfl (lv_at hl 1 rfl) ?_
    refine c_get C hw (inC inW6) (kd_lt ha1 (by decide)) (ce6 ha1) rfl 1 (by decide) (wc w_231) (v := .ref (h (a1 + 1))) rfl dX3_obey_52 ?_
    refine lv_iload C.1 C.2.1 dX3_obey_55 (lv_at hl 4 rfl) ?_
    obtain ⟨hi57, hh⟩ := hh
    refine c_ial C hw (kd_lt (kd6_1 ha1) (by decide)) (ce19 (kd6_1 ha1)) hi57 dX3_obey_57 ?_
    refine lv_aload_n C.1 C.2.1 dX3_obey_58 rfl (lv_at hl 2 rfl) ?_
    refine c_Vv C hw (ctX3_perform l D h cI cL cF cM a0 a2 ha0 ha2 F L r (F (a1 + 1) (ix x4)) hh) (cwV 2 C.2.2.2.2 (gd_V w_1013 w_1015 w_31 w_121 w_1016) rfl rfl rfl cdX3_perform ⟨Nat.le_of_ble_eq_true rfl, Nat.le_of_ble_eq_true rfl⟩) rfl (kd_lt ha0 (by decide)) (ce3 ha0) rfl hl.1 (Nat.le_of_ble_eq_true rfl) dX3_obey_59 ⟨Nat.zero_le _, Nat.zero_le _⟩ (fun u59 H locs hh hw => ?_) rfl
    refine lv_iinc (v := x4 + (1 : Int32)) (lv' := [(4, .int (x4 + (1 : Int32))), (0, .ref (h a0)), (1, .ref (h a1)), (2, .ref (h a2)), (3, .int x3)]) C.1 C.2.1 dX3_obey_62 hl (k := 4) rfl rfl (by decide) rfl (fun ls hl => ?_)
    refine lv_goto (tgt := 44) C.1 C.2.1 dX3_obey_65 (by decide) ?_
    exact hB44 _ _ _ _ _ _ _ _ hh hw (lv_sub hl [1, 2, 3, 4, 0] rfl)
theorem tX3_obey_b44 {a0 : Nat} {a1 : Nat} {a2 : Nat} {K : cS → Prop} (C : CallFix p m c cX3_obey 5 s args wsX3_obey RX3) (hR : Rtv p l e rmX3_obey s m args below meth c cX3_obey D A (cT cI cL cF cM) (cWu h cI cL cF cM) K Q) (ha0 : kd a0 = 3) (ha1 : kd a1 = 6) (ha2 : kd a2 = 1) (n : Nat) : ∀ (F : Nat → Nat → Int32) (L : Nat → Nat → Int64) (r : Nat → Nat → Nat) (x3 : Int32) (x4 : Int32) (H : Heap) (locs : List Loc) (ls : Array Slot), wpX3_obey_b44 a0 a1 a2 n F L r x3 x4 K → Wd D A s (cT cI cL cF cM) (cW h cI cL cF cM F L r) H locs → lv_has ls 5 [(0, .ref (h a0)), (1, .ref (h a1)), (2, .ref (h a2)), (3, .int x3), (4, .int x4)] → W p l e rmX3_obey s m args below meth c H locs 0 0 Q (F0 m 44 ls []) := by
  induction n with
  | zero => intro F L r x3 x4 H locs ls hh; exact hh.elim
  | succ n ih => intro F L r x3 x4 H locs ls hh hw hl; exact tX3_obey_b44_body C hR ha0 ha1 ha2 ih hh hw hl
set_option maxHeartbeats 4000000 in
set_option maxRecDepth 100000 in
theorem tX3_obey_b0 {a0 : Nat} {a1 : Nat} {a2 : Nat} {K : cS → Prop} (C : CallFix p m c cX3_obey 5 s args wsX3_obey RX3) (hR : Rtv p l e rmX3_obey s m args below meth c cX3_obey D A (cT cI cL cF cM) (cWu h cI cL cF cM) K Q) (ha0 : kd a0 = 3) (ha1 : kd a1 = 6) (ha2 : kd a2 = 1) {F : Nat → Nat → Int32} {L : Nat → Nat → Int64} {r : Nat → Nat → Nat} (hh : wpX3_obey_b0 a0 a1 a2 F L r K) {H : Heap} {locs : List Loc} {ls : Array Slot} (hw : Wd D A s (cT cI cL cF cM) (cW h cI cL cF cM F L r) H locs) (hl : lv_has ls 5 [(0, .ref (h a0)), (1, .ref (h a1)), (2, .ref (h a2))]) : W p l e rmX3_obey s m args below meth c H locs 0 0 Q (F0 m 0 ls []) := by
  unfold wpX3_obey_b0 at hh
  refine lv_aload_n C.1 C.2.1 dX3_obey_0 rfl (lv_at hl 0 rfl) ?_
  refine lv_aload_n C.1 C.2.1 dX3_obey_1 rfl (lv_at hl 1 rfl) ?_
  refine lv_aload_n C.1 C.2.1 dX3_obey_2 rfl (lv_at hl 0 rfl) ?_
  refine lv_aload_n C.1 C.2.1 dX3_obey_3 rfl (lv_at hl 2 rfl) ?_
  refine c_Vi C hw (ctX3_signs l D h cI cL cF cM a0 a2 ha0 ha2 F L r hh) (cwV 1 C.2.2.2.2 (gd_V w_996 w_998 w_30 w_121 w_999) rfl rfl rfl cdX3_signs ⟨Nat.le_of_ble_eq_true rfl, Nat.le_of_ble_eq_true rfl⟩) rfl (kd_lt ha0 (by decide)) (ce3 ha0) rfl hl.1 (Nat.le_of_ble_eq_true rfl) dX3_obey_4 ⟨Nat.zero_le _, Nat.zero_le _⟩ (fun r4 u4 H locs hh hw => ?_) rfl
  refine lv_aload_n C.1 C.2.1 dX3_obey_7 rfl (lv_at hl 0 rfl) ?_
  refine c_get C hw (inC inW3) (kd_lt ha0 (by decide)) (ce3 ha0) rfl 3 (by decide) (wc w_401) (v := .int (u4.1 a0 3)) rfl dX3_obey_8 ?_
  refine c_Vi C hw (ctX6_lineFor l D h cI cL cF cM a1 ha1 u4.1 u4.2.1 u4.2.2 r4 (u4.1 a0 3) hh) (cwV 2 C.2.2.2.2 (gd_V w_1009 w_1010 w_1011 w_117 w_1012) rfl rfl rfl cdX6_lineFor ⟨Nat.le_of_ble_eq_true rfl, Nat.le_of_ble_eq_true rfl⟩) rfl (kd_lt ha1 (by decide)) (ce6 ha1) rfl hl.1 (Nat.le_of_ble_eq_true rfl) dX3_obey_11 ⟨Nat.zero_le _, Nat.zero_le _⟩ (fun r11 u11 H locs hh hw => ?_) rfl
  refine c_puti C hw (inC inW3) tyX3 tyX3_ok nmX3 (kd_lt ha0 (by decide)) (ce3 ha0) rfl 6 (by decide) (wc w_405) rfl (ty := .int) (by decide +kernel) rfl rfl (Nat.le_of_ble_eq_true rfl) rfl dX3_obey_14 (fun H locs hw => ?_)
  refine lv_aload_n C.1 C.2.1 dX3_obey_17 rfl (lv_at hl 0 rfl) ?_
  refine c_get C hw (inC inW3) (kd_lt ha0 (by decide)) (ce3 ha0) rfl 6 (by decide) (wc w_405) (v := .int ((pt u11.1 a0 6 r11) a0 6)) rfl dX3_obey_18 ?_
  refine lv_if_ge (tgt := 25) C.1 C.2.1 dX3_obey_21 (by decide) (fun c21 => ?_) (fun c21 => ?_)
  · replace hh := hh.1 c21
    refine lv_aload_n C.1 C.2.1 dX3_obey_25 rfl (lv_at hl 1 rfl) ?_
    refine c_get C hw (inC inW6) (kd_lt ha1 (by decide)) (ce6 ha1) rfl 2 (by decide) (wc w_233) (v := .ref (h (a1 + 2))) rfl dX3_obey_26 ?_
    refine lv_aload_n C.1 C.2.1 dX3_obey_29 rfl (lv_at hl 0 rfl) ?_
    refine c_get C hw (inC inW3) (kd_lt ha0 (by decide)) (ce3 ha0) rfl 6 (by decide) (wc w_405) (v := .int ((pt u11.1 a0 6 r11) a0 6)) rfl dX3_obey_30 ?_
    obtain ⟨hi33, hh⟩ := hh
    refine c_ial C hw (kd_lt (kd6_2 ha1) (by decide)) (ce20 (kd6_2 ha1)) hi33 dX3_obey_33 ?_
    refine lv_topi (fun y34 ey34 => ?_)
    replace hh := hh y34 ey34
    refine lv_istore_n (lv' := [(3, .int y34), (0, .ref (h a0)), (1, .ref (h a1)), (2, .ref (h a2))]) C.1 C.2.1 dX3_obey_34 rfl hl (by decide) rfl (fun ls hl => ?_)
    refine lv_aload_n C.1 C.2.1 dX3_obey_35 rfl (lv_at hl 1 rfl) ?_
    refine c_get C hw (inC inW3) (kd_lt ha0 (by decide)) (ce3 ha0) rfl 6 (by decide) (wc w_405) (v := .int ((pt u11.1 a0 6 r11) a0 6)) rfl dX3_obey_36 ?_
    refine lv_bipush (v := (12 : Int32)) C.1 C.2.1 dX3_obey_39 (by decide) ?_
    refine lv_imul C.1 C.2.1 dX3_obey_41 ?_
    refine lv_istore (lv' := [(4, .int (((pt u11.1 a0 6 r11) a0 6) * (12 : Int32))), (3, .int y34), (0, .ref (h a0)), (1, .ref (h a1)), (2, .ref (h a2))]) C.1 C.2.1 dX3_obey_42 hl (by decide) rfl (fun ls hl => ?_)
    obtain ⟨n, hh⟩ := hh
    exact tX3_obey_b44 C hR ha0 ha1 ha2 n _ _ _ _ _ _ _ _ hh hw (lv_sub hl [2, 3, 4, 1, 0] rfl)
  · replace hh := hh.2 c21
    exact hR _ _ (pt u11.1 a0 6 r11, u11.2.1, u11.2.2) _ _ dX3_obey_24 hh hw
theorem ctX3_obey (l : Launch) (D : va_G) (h : Nat → Nat) (cI cL cF cM : ClassId) (a0 : Nat) (a1 : Nat) (a2 : Nat) (ha0 : kd a0 = 3) (ha1 : kd a1 = 6) (ha2 : kd a2 = 1) (F : Nat → Nat → Int32) (L : Nat → Nat → Int64) (r : Nat → Nat → Nat) {K : cS → Prop} (hh : wpX3_obey a0 a1 a2 F L r K) : Cv l yX3_obey wsX3_obey rmX3_obey [.ref (h a0), .ref (h a1), .ref (h a2)] D (cT cI cL cF cM) (cWu h cI cL cF cM) (F, L, r) K := by
  refine Cv_of (cc := cX3_obey) (maxL := 5) (by decide) rfl (Nat.le_of_ble_eq_true rfl) ?_
  intro p e s m below meth c A Q C hw hR ls hl
  exact tX3_obey_b0 C hR ha0 ha1 ha2 hh hw hl
theorem cdX3_obey : yX3_obey.cls = RX3 ∧ yX3_obey.cls ≠ "java/lang/invoke/MethodHandle" ∧ yX3_obey.cls ≠ "java/lang/invoke/VarHandle" ∧ (parseMethodDescriptor yX3_obey.desc).map (fun d => d.parameters.length) = some 2 := by decide +kernel
abbrev rmX10_tick : Room := { frames := 3, cells := 0, slots := 0, locals := 87 }
set_option maxHeartbeats 4000000 in
set_option maxRecDepth 100000 in
theorem tX10_tick_b11 {K : Int32 → cS → Prop} (C : CallFix p m c cX10_tick 4 s args wsX10_tick RX10) (hR : Rti .int p l e rmX10_tick s m args below meth c cX10_tick D A (cT cI cL cF cM) (cWu h cI cL cF cM) K Q) {F : Nat → Nat → Int32} {L : Nat → Nat → Int64} {r : Nat → Nat → Nat} (hh : wpX10_tick_b11 F L r K) {H : Heap} {locs : List Loc} {ls : Array Slot} (hw : Wd D A s (cT cI cL cF cM) (cW h cI cL cF cM F L r) H locs) (hl : lv_has ls 4 [(0, .ref (h 0))]) : W p l e rmX10_tick s m args below meth c H locs 0 0 Q (F0 m 11 ls []) := by
  unfold wpX10_tick_b11 at hh
  refine lv_iconst (v := (-1 : Int32)) C.1 C.2.1 dX10_tick_11 (by decide) ?_
  exact hR _ _ _ (F, L, r) _ _ dX10_tick_12 rfl hh hw
set_option maxHeartbeats 4000000 in
set_option maxRecDepth 100000 in
theorem tX10_tick_b51 {B17 : (Nat → Nat → Int32) → (Nat → Nat → Int64) → (Nat → Nat → Nat) → Int32 → Int32 → Int32 → Prop} {K : Int32 → cS → Prop} (C : CallFix p m c cX10_tick 4 s args wsX10_tick RX10) (hR : Rti .int p l e rmX10_tick s m args below meth c cX10_tick D A (cT cI cL cF cM) (cWu h cI cL cF cM) K Q) (hB17 : ∀ (F : Nat → Nat → Int32) (L : Nat → Nat → Int64) (r : Nat → Nat → Nat) (x1 : Int32) (x2 : Int32) (x3 : Int32) (H : Heap) (locs : List Loc) (ls : Array Slot), B17 F L r x1 x2 x3 → Wd D A s (cT cI cL cF cM) (cW h cI cL cF cM F L r) H locs → lv_has ls 4 [(0, .ref (h 0)), (1, .int x1), (2, .int x2), (3, .int x3)] → W p l e rmX10_tick s m args below meth c H locs 0 0 Q (F0 m 17 ls [])) {F : Nat → Nat → Int32} {L : Nat → Nat → Int64} {r : Nat → Nat → Nat} {x1 : Int32} {x2 : Int32} {x3 : Int32} (hh : wpX10_tick_b51 B17 F L r x1 x2 x3 K) {H : Heap} {locs : List Loc} {ls : Array Slot} (hw : Wd D A s (cT cI cL cF cM) (cW h cI cL cF cM F L r) H locs) (hl : lv_has ls 4 [(0, .ref (h 0)), (1, .int x1), (2, .int x2), (3, .int x3)]) : W p l e rmX10_tick s m args below meth c H locs 0 0 Q (F0 m 51 ls []) := by
  unfold wpX10_tick_b51 at hh
  refine lv_iinc (v := x3 + (1 : Int32)) (lv' := [(3, .int (x3 + (1 : Int32))), (0, .ref (h 0)), (1, .int x1), (2, .int x2)]) C.1 C.2.1 dX10_tick_51 hl (k := 3) rfl rfl (by decide) rfl (fun ls hl => ?_)
  refine lv_goto (tgt := 17) C.1 C.2.1 dX10_tick_54 (by decide) ?_
  exact hB17 _ _ _ _ _ _ _ _ _ hh hw (lv_sub hl [1, 2, 3, 0] rfl)
set_option maxHeartbeats 4000000 in
set_option maxRecDepth 100000 in
theorem tX10_tick_b17_body {B17 : (Nat → Nat → Int32) → (Nat → Nat → Int64) → (Nat → Nat → Nat) → Int32 → Int32 → Int32 → Prop} {K : Int32 → cS → Prop} (C : CallFix p m c cX10_tick 4 s args wsX10_tick RX10) (hR : Rti .int p l e rmX10_tick s m args below meth c cX10_tick D A (cT cI cL cF cM) (cWu h cI cL cF cM) K Q) (hB17 : ∀ (F : Nat → Nat → Int32) (L : Nat → Nat → Int64) (r : Nat → Nat → Nat) (x1 : Int32) (x2 : Int32) (x3 : Int32) (H : Heap) (locs : List Loc) (ls : Array Slot), B17 F L r x1 x2 x3 → Wd D A s (cT cI cL cF cM) (cW h cI cL cF cM F L r) H locs → lv_has ls 4 [(0, .ref (h 0)), (1, .int x1), (2, .int x2), (3, .int x3)] → W p l e rmX10_tick s m args below meth c H locs 0 0 Q (F0 m 17 ls [])) {F : Nat → Nat → Int32} {L : Nat → Nat → Int64} {r : Nat → Nat → Nat} {x1 : Int32} {x2 : Int32} {x3 : Int32} (hh : wpX10_tick_b17_body B17 F L r x1 x2 x3 K) {H : Heap} {locs : List Loc} {ls : Array Slot} (hw : Wd D A s (cT cI cL cF cM) (cW h cI cL cF cM F L r) H locs) (hl : lv_has ls 4 [(0, .ref (h 0)), (1, .int x1), (2, .int x2), (3, .int x3)]) : W p l e rmX10_tick s m args below meth c H locs 0 0 Q (F0 m 17 ls []) := by
  unfold wpX10_tick_b17_body at hh
  refine lv_iload_n C.1 C.2.1 dX10_tick_17 rfl (lv_at hl 3 rfl) ?_
  refine lv_iload_n C.1 C.2.1 dX10_tick_18 rfl (lv_at hl 1 rfl) ?_
  refine lv_icmp_ge (tgt := 57) C.1 C.2.1 dX10_tick_19 (by decide) (fun c19 => ?_) (fun c19 => ?_)
  · replace hh := hh.1 c19
    refine lv_iload_n C.1 C.2.1 dX10_tick_57 rfl (lv_at hl 2 rfl) ?_
    exact hR _ _ _ (F, L, r) _ _ dX10_tick_58 rfl hh hw
  · replace hh := hh.2 c19
    refine lv_aload_n C.1 C.2.1 dX10_tick_22 rfl (lv_at hl 0 rfl) ?_
    refine c_get C hw (inC inW10) (kd_lt kp0 (by decide)) (ce10 kp0) rfl 6 (by decide) (wc w_576) (v := .ref (h 74)) rfl dX10_tick_23 ?_
    refine lv_aload_n C.1 C.2.1 dX10_tick_26 rfl (lv_at hl 0 rfl) ?_
    refine c_get C hw (inC inW10) (kd_lt kp0 (by decide)) (ce10 kp0) rfl 3 (by decide) (wc w_573) (v := .ref (h (r 0 3))) rfl dX10_tick_27 ?_
    refine lv_aload_n C.1 C.2.1 dX10_tick_30 rfl (lv_at hl 0 rfl) ?_
    refine c_get C hw (inC inW10) (kd_lt kp0 (by decide)) (ce10 kp0) rfl 5 (by decide) (wc w_575) (v := .ref (h 46)) rfl dX10_tick_31 ?_
    obtain ⟨hk0, hh⟩ := hh
    refine c_Vv C hw (ctX3_obey l D h cI cL cF cM 74 (r 0 3) 46 kp74 hk0 kp46 F L r hh) (cwV 2 C.2.2.2.2 (gd_V w_992 w_993 w_994 w_121 w_995) rfl rfl rfl cdX3_obey ⟨Nat.le_of_ble_eq_true rfl, Nat.le_of_ble_eq_true rfl⟩) rfl (kd_lt kp74 (by decide)) (ce3 kp74) rfl hl.1 (Nat.le_of_ble_eq_true rfl) dX10_tick_34 ⟨Nat.zero_le _, Nat.zero_le _⟩ (fun u34 H locs hh hw => ?_) rfl
    refine lv_aload_n C.1 C.2.1 dX10_tick_37 rfl (lv_at hl 0 rfl) ?_
    refine c_get C hw (inC inW10) (kd_lt kp0 (by decide)) (ce10 kp0) rfl 6 (by decide) (wc w_576) (v := .ref (h 74)) rfl dX10_tick_38 ?_
    refine c_get C hw (inC inW3) (kd_lt kp74 (by decide)) (ce3 kp74) rfl 6 (by decide) (wc w_406) (v := .int (u34.1 74 6)) rfl dX10_tick_41 ?_
    refine lv_iconst (v := (-1 : Int32)) C.1 C.2.1 dX10_tick_44 (by decide) ?_
    refine lv_icmp_eq (tgt := 51) C.1 C.2.1 dX10_tick_45 (by decide) (fun c45 => ?_) (fun c45 => ?_)
    · replace hh := hh.1 c45
      exact tX10_tick_b51 C hR hB17 hh hw hl
    · replace hh := hh.2 c45
      refine lv_iinc (v := x2 + (1 : Int32)) (lv' := [(2, .int (x2 + (1 : Int32))), (0, .ref (h 0)), (1, .int x1), (3, .int x3)]) C.1 C.2.1 dX10_tick_48 hl (k := 2) rfl rfl (by decide) rfl (fun ls hl => ?_)
      exact tX10_tick_b51 C hR hB17 hh hw (lv_sub hl [1, 2, 0, 3] rfl)
theorem tX10_tick_b17 {K : Int32 → cS → Prop} (C : CallFix p m c cX10_tick 4 s args wsX10_tick RX10) (hR : Rti .int p l e rmX10_tick s m args below meth c cX10_tick D A (cT cI cL cF cM) (cWu h cI cL cF cM) K Q) (n : Nat) : ∀ (F : Nat → Nat → Int32) (L : Nat → Nat → Int64) (r : Nat → Nat → Nat) (x1 : Int32) (x2 : Int32) (x3 : Int32) (H : Heap) (locs : List Loc) (ls : Array Slot), wpX10_tick_b17 n F L r x1 x2 x3 K → Wd D A s (cT cI cL cF cM) (cW h cI cL cF cM F L r) H locs → lv_has ls 4 [(0, .ref (h 0)), (1, .int x1), (2, .int x2), (3, .int x3)] → W p l e rmX10_tick s m args below meth c H locs 0 0 Q (F0 m 17 ls []) := by
  induction n with
  | zero => intro F L r x1 x2 x3 H locs ls hh; exact hh.elim
  | succ n ih => intro F L r x1 x2 x3 H locs ls hh hw hl; exact tX10_tick_b17_body C hR ih hh hw hl
set_option maxHeartbeats 4000000 in
set_option maxRecDepth 100000 in
theorem tX10_tick_b0 {K : Int32 → cS → Prop} (C : CallFix p m c cX10_tick 4 s args wsX10_tick RX10) (hR : Rti .int p l e rmX10_tick s m args below meth c cX10_tick D A (cT cI cL cF cM) (cWu h cI cL cF cM) K Q) {F : Nat → Nat → Int32} {L : Nat → Nat → Int64} {r : Nat → Nat → Nat} {x1 : Int32} (hh : wpX10_tick_b0 F L r x1 K) {H : Heap} {locs : List Loc} {ls : Array Slot} (hw : Wd D A s (cT cI cL cF cM) (cW h cI cL cF cM F L r) H locs) (hl : lv_has ls 4 [(0, .ref (h 0)), (1, .int x1)]) : W p l e rmX10_tick s m args below meth c H locs 0 0 Q (F0 m 0 ls []) := by
  unfold wpX10_tick_b0 at hh
  refine lv_iload_n C.1 C.2.1 dX10_tick_0 rfl (lv_at hl 1 rfl) ?_
  refine lv_if_lt (tgt := 11) C.1 C.2.1 dX10_tick_1 (by decide) (fun c1 => ?_) (fun c1 => ?_)
  · replace hh := hh.1 c1
    exact tX10_tick_b11 C hR hh hw (lv_sub hl [0] rfl)
  · replace hh := hh.2 c1
    refine lv_iload_n C.1 C.2.1 dX10_tick_4 rfl (lv_at hl 1 rfl) ?_
    refine lv_sipush (v := (5000 : Int32)) C.1 C.2.1 dX10_tick_5 (by decide) ?_
    refine lv_icmp_le (tgt := 13) C.1 C.2.1 dX10_tick_8 (by decide) (fun c8 => ?_) (fun c8 => ?_)
    · replace hh := hh.1 c8
      refine lv_iconst (v := (0 : Int32)) C.1 C.2.1 dX10_tick_13 (by decide) ?_
      refine lv_istore_n (lv' := [(2, .int (0 : Int32)), (0, .ref (h 0)), (1, .int x1)]) C.1 C.2.1 dX10_tick_14 rfl hl (by decide) rfl (fun ls hl => ?_)
      refine lv_iconst (v := (0 : Int32)) C.1 C.2.1 dX10_tick_15 (by decide) ?_
      refine lv_istore_n (lv' := [(3, .int (0 : Int32)), (2, .int (0 : Int32)), (0, .ref (h 0)), (1, .int x1)]) C.1 C.2.1 dX10_tick_16 rfl hl (by decide) rfl (fun ls hl => ?_)
      obtain ⟨n, hh⟩ := hh
      exact tX10_tick_b17 C hR n _ _ _ _ _ _ _ _ _ hh hw (lv_sub hl [2, 3, 1, 0] rfl)
    · replace hh := hh.2 c8
      exact tX10_tick_b11 C hR hh hw (lv_sub hl [0] rfl)
theorem ctX10_tick (l : Launch) (D : va_G) (h : Nat → Nat) (cI cL cF cM : ClassId) (F : Nat → Nat → Int32) (L : Nat → Nat → Int64) (r : Nat → Nat → Nat) (x1 : Int32) {K : Int32 → cS → Prop} (hh : wpX10_tick F L r x1 K) : Ci l yX10_tick wsX10_tick rmX10_tick [.ref (h 0), .int x1] D (cT cI cL cF cM) (cWu h cI cL cF cM) (F, L, r) K := by
  refine Ci_of (cc := cX10_tick) (maxL := 4) (by decide) rfl (Nat.le_of_ble_eq_true rfl) ?_
  intro p e s m below meth c A Q C hw hR ls hl
  exact tX10_tick_b0 C hR hh hw hl
theorem cdX10_tick : yX10_tick.cls = RX10 ∧ yX10_tick.cls ≠ "java/lang/invoke/MethodHandle" ∧ yX10_tick.cls ≠ "java/lang/invoke/VarHandle" ∧ (parseMethodDescriptor yX10_tick.desc).map (fun d => d.parameters.length) = some 1 := by decide +kernel
abbrev rmX3_arrive : Room := { frames := 3, cells := 0, slots := 0, locals := 87 }
set_option maxHeartbeats 4000000 in
set_option maxRecDepth 100000 in
theorem tX3_arrive_b63 {a0 : Nat} {a1 : Nat} {a2 : Nat} {K : Int32 → cS → Prop} (C : CallFix p m c cX3_arrive 5 s args wsX3_arrive RX3) (hR : Rti .int p l e rmX3_arrive s m args below meth c cX3_arrive D A (cT cI cL cF cM) (cWu h cI cL cF cM) K Q) (ha0 : kd a0 = 3) (ha1 : kd a1 = 6) (ha2 : kd a2 = 1) {F : Nat → Nat → Int32} {L : Nat → Nat → Int64} {r : Nat → Nat → Nat} {k0 : Int32} (hh : wpX3_arrive_b63 a0 a1 a2 F L r k0 K) {H : Heap} {locs : List Loc} {ls : Array Slot} (hw : Wd D A s (cT cI cL cF cM) (cW h cI cL cF cM F L r) H locs) (hl : lv_has ls 5 [(0, .ref (h a0))]) : W p l e rmX3_arrive s m args below meth c H locs 0 0 Q (F0 m 63 ls [.int k0]) := by
  unfold wpX3_arrive_b63 at hh
  exact hR _ _ _ (F, L, r) _ _ dX3_arrive_63 rfl hh hw
set_option maxHeartbeats 4000000 in
set_option maxRecDepth 100000 in
theorem tX3_arrive_b3_body {a0 : Nat} {a1 : Nat} {a2 : Nat} {B3 : (Nat → Nat → Int32) → (Nat → Nat → Int64) → (Nat → Nat → Nat) → Int32 → Int32 → Prop} {K : Int32 → cS → Prop} (C : CallFix p m c cX3_arrive 5 s args wsX3_arrive RX3) (hR : Rti .int p l e rmX3_arrive s m args below meth c cX3_arrive D A (cT cI cL cF cM) (cWu h cI cL cF cM) K Q) (ha0 : kd a0 = 3) (ha1 : kd a1 = 6) (ha2 : kd a2 = 1) (hB3 : ∀ (F : Nat → Nat → Int32) (L : Nat → Nat → Int64) (r : Nat → Nat → Nat) (x3 : Int32) (x4 : Int32) (H : Heap) (locs : List Loc) (ls : Array Slot), B3 F L r x3 x4 → Wd D A s (cT cI cL cF cM) (cW h cI cL cF cM F L r) H locs → lv_has ls 5 [(0, .ref (h a0)), (1, .ref (h a1)), (2, .ref (h a2)), (3, .int x3), (4, .int x4)] → W p l e rmX3_arrive s m args below meth c H locs 0 0 Q (F0 m 3 ls [])) {F : Nat → Nat → Int32} {L : Nat → Nat → Int64} {r : Nat → Nat → Nat} {x3 : Int32} {x4 : Int32} (hh : wpX3_arrive_b3_body B3 a0 a1 a2 F L r x3 x4 K) {H : Heap} {locs : List Loc} {ls : Array Slot} (hw : Wd D A s (cT cI cL cF cM) (cW h cI cL cF cM F L r) H locs) (hl : lv_has ls 5 [(0, .ref (h a0)), (1, .ref (h a1)), (2, .ref (h a2)), (3, .int x3), (4, .int x4)]) : W p l e rmX3_arrive s m args below meth c H locs 0 0 Q (F0 m 3 ls []) := by
  unfold wpX3_arrive_b3_body at hh
  refine lv_iload C.1 C.2.1 dX3_arrive_3 (lv_at hl 4 rfl) ?_
  refine lv_iload_n C.1 C.2.1 dX3_arrive_5 rfl (lv_at hl 3 rfl) ?_
  refine lv_icmp_ge (tgt := 46) C.1 C.2.1 dX3_arrive_6 (by decide) (fun c6 => ?_) (fun c6 => ?_)
  · replace hh := hh.1 c6
    refine lv_aload_n C.1 C.2.1 dX3_arrive_46 rfl (lv_at hl 0 rfl) ?_
    refine c_get C hw (inC inW3) (kd_lt ha0 (by decide)) (ce3 ha0) rfl 0 (by decide) (wc w_392) (v := .int (F a0 0)) rfl dX3_arrive_47 ?_
    refine lv_aload_n C.1 C.2.1 dX3_arrive_50 rfl (lv_at hl 2 rfl) ?_
    refine c_get C hw (inC inW1) (kd_lt ha2 (by decide)) (ce1 ha2) rfl 3 (by decide) (wc w_364) (v := .int (F a2 3)) rfl dX3_arrive_51 ?_
    refine lv_icmp_ne (tgt := 61) C.1 C.2.1 dX3_arrive_54 (by decide) (fun c54 => ?_) (fun c54 => ?_)
    · replace hh := hh.1 c54
      refine lv_bipush (v := (-2 : Int32)) C.1 C.2.1 dX3_arrive_61 (by decide) ?_
      exact tX3_arrive_b63 C hR ha0 ha1 ha2 hh hw (lv_sub hl [0] rfl)
    · replace hh := hh.2 c54
      refine lv_iload_n C.1 C.2.1 dX3_arrive_57 rfl (lv_at hl 3 rfl) ?_
      refine lv_goto (tgt := 63) C.1 C.2.1 dX3_arrive_58 (by decide) ?_
      exact tX3_arrive_b63 C hR ha0 ha1 ha2 hh hw (lv_sub hl [0] rfl)
  · replace hh := hh.2 c6
    refine lv_aload_n C.1 C.2.1 dX3_arrive_9 rfl (lv_at hl 0 rfl) ?_
    refine c_get C hw (inC inW3) (kd_lt ha0 (by decide)) (ce3 ha0) rfl 0 (by decide) (wc w_392) (v := .int (F a0 0)) rfl dX3_arrive_10 ?_
    refine lv_aload_n C.1 C.2.1 dX3_arrive_13 rfl (lv_at hl 2 rfl) ?_
    refine c_get C hw (inC inW1) (kd_lt ha2 (by decide)) (ce1 ha2) rfl 3 (by decide) (wc w_364) (v := .int (F a2 3)) rfl dX3_arrive_14 ?_
    refine lv_icmp_ne (tgt := 23) C.1 C.2.1 dX3_arrive_17 (by decide) (fun c17 => ?_) (fun c17 => ?_)
    · replace hh := hh.1 c17
      refine lv_aload_n C.1 C.2.1 dX3_arrive_23 rfl (lv_at hl 0 rfl) ?_
      refine lv_aload_n C.1 C.2.1 dX3_arrive_24 rfl (lv_at hl 1 rfl) ?_
      refine lv_aload_n C.1 C.2.1 dX3_arrive_25 rfl (lv_at hl 2 rfl) ?_
      refine c_Vv C hw (ctX3_obey l D h cI cL cF cM a0 a1 a2 ha0 ha1 ha2 F L r hh) (cwV 2 C.2.2.2.2 (gd_V w_1043 w_993 w_994 w_121 w_995) rfl rfl rfl cdX3_obey ⟨Nat.le_of_ble_eq_true rfl, Nat.le_of_ble_eq_true rfl⟩) rfl (kd_lt ha0 (by decide)) (ce3 ha0) rfl hl.1 (Nat.le_of_ble_eq_true rfl) dX3_arrive_26 ⟨Nat.zero_le _, Nat.zero_le _⟩ (fun u26 H locs hh hw => ?_) rfl
      refine lv_aload_n C.1 C.2.1 dX3_arrive_29 rfl (lv_at hl 0 rfl) ?_
      refine c_get C hw (inC inW3) (kd_lt ha0 (by decide)) (ce3 ha0) rfl 6 (by decide) (wc w_405) (v := .int (u26.1 a0 6)) rfl dX3_arrive_30 ?_
      refine lv_iconst (v := (-1 : Int32)) C.1 C.2.1 dX3_arrive_33 (by decide) ?_
      refine lv_icmp_ne (tgt := 40) C.1 C.2.1 dX3_arrive_34 (by decide) (fun c34 => ?_) (fun c34 => ?_)
      · replace hh := hh.1 c34
        refine lv_iinc (v := x4 + (1 : Int32)) (lv' := [(4, .int (x4 + (1 : Int32))), (0, .ref (h a0)), (1, .ref (h a1)), (2, .ref (h a2)), (3, .int x3)]) C.1 C.2.1 dX3_arrive_40 hl (k := 4) rfl rfl (by decide) rfl (fun ls hl => ?_)
        refine lv_goto (tgt := 3) C.1 C.2.1 dX3_arrive_43 (by decide) ?_
        exact hB3 _ _ _ _ _ _ _ _ hh hw (lv_sub hl [1, 2, 3, 4, 0] rfl)
      · replace hh := hh.2 c34
        refine lv_bipush (v := (-2 : Int32)) C.1 C.2.1 dX3_arrive_37 (by decide) ?_
        exact hR _ _ _ (u26.1, u26.2.1, u26.2.2) _ _ dX3_arrive_39 rfl hh hw
    · replace hh := hh.2 c17
      refine lv_iload C.1 C.2.1 dX3_arrive_20 (lv_at hl 4 rfl) ?_
      exact hR _ _ _ (F, L, r) _ _ dX3_arrive_22 rfl hh hw
theorem tX3_arrive_b3 {a0 : Nat} {a1 : Nat} {a2 : Nat} {K : Int32 → cS → Prop} (C : CallFix p m c cX3_arrive 5 s args wsX3_arrive RX3) (hR : Rti .int p l e rmX3_arrive s m args below meth c cX3_arrive D A (cT cI cL cF cM) (cWu h cI cL cF cM) K Q) (ha0 : kd a0 = 3) (ha1 : kd a1 = 6) (ha2 : kd a2 = 1) (n : Nat) : ∀ (F : Nat → Nat → Int32) (L : Nat → Nat → Int64) (r : Nat → Nat → Nat) (x3 : Int32) (x4 : Int32) (H : Heap) (locs : List Loc) (ls : Array Slot), wpX3_arrive_b3 a0 a1 a2 n F L r x3 x4 K → Wd D A s (cT cI cL cF cM) (cW h cI cL cF cM F L r) H locs → lv_has ls 5 [(0, .ref (h a0)), (1, .ref (h a1)), (2, .ref (h a2)), (3, .int x3), (4, .int x4)] → W p l e rmX3_arrive s m args below meth c H locs 0 0 Q (F0 m 3 ls []) := by
  induction n with
  | zero => intro F L r x3 x4 H locs ls hh; exact hh.elim
  | succ n ih => intro F L r x3 x4 H locs ls hh hw hl; exact tX3_arrive_b3_body C hR ha0 ha1 ha2 ih hh hw hl
set_option maxHeartbeats 4000000 in
set_option maxRecDepth 100000 in
theorem tX3_arrive_b0 {a0 : Nat} {a1 : Nat} {a2 : Nat} {K : Int32 → cS → Prop} (C : CallFix p m c cX3_arrive 5 s args wsX3_arrive RX3) (hR : Rti .int p l e rmX3_arrive s m args below meth c cX3_arrive D A (cT cI cL cF cM) (cWu h cI cL cF cM) K Q) (ha0 : kd a0 = 3) (ha1 : kd a1 = 6) (ha2 : kd a2 = 1) {F : Nat → Nat → Int32} {L : Nat → Nat → Int64} {r : Nat → Nat → Nat} {x3 : Int32} (hh : wpX3_arrive_b0 a0 a1 a2 F L r x3 K) {H : Heap} {locs : List Loc} {ls : Array Slot} (hw : Wd D A s (cT cI cL cF cM) (cW h cI cL cF cM F L r) H locs) (hl : lv_has ls 5 [(0, .ref (h a0)), (1, .ref (h a1)), (2, .ref (h a2)), (3, .int x3)]) : W p l e rmX3_arrive s m args below meth c H locs 0 0 Q (F0 m 0 ls []) := by
  unfold wpX3_arrive_b0 at hh
  refine lv_iconst (v := (0 : Int32)) C.1 C.2.1 dX3_arrive_0 (by decide) ?_
  refine lv_istore (lv' := [(4, .int (0 : Int32)), (0, .ref (h a0)), (1, .ref (h a1)), (2, .ref (h a2)), (3, .int x3)]) C.1 C.2.1 dX3_arrive_1 hl (by decide) rfl (fun ls hl => ?_)
  obtain ⟨n, hh⟩ := hh
  exact tX3_arrive_b3 C hR ha0 ha1 ha2 n _ _ _ _ _ _ _ _ hh hw (lv_sub hl [1, 2, 3, 4, 0] rfl)
theorem ctX3_arrive (l : Launch) (D : va_G) (h : Nat → Nat) (cI cL cF cM : ClassId) (a0 : Nat) (a1 : Nat) (a2 : Nat) (ha0 : kd a0 = 3) (ha1 : kd a1 = 6) (ha2 : kd a2 = 1) (F : Nat → Nat → Int32) (L : Nat → Nat → Int64) (r : Nat → Nat → Nat) (x3 : Int32) {K : Int32 → cS → Prop} (hh : wpX3_arrive a0 a1 a2 F L r x3 K) : Ci l yX3_arrive wsX3_arrive rmX3_arrive [.ref (h a0), .ref (h a1), .ref (h a2), .int x3] D (cT cI cL cF cM) (cWu h cI cL cF cM) (F, L, r) K := by
  refine Ci_of (cc := cX3_arrive) (maxL := 5) (by decide) rfl (Nat.le_of_ble_eq_true rfl) ?_
  intro p e s m below meth c A Q C hw hR ls hl
  exact tX3_arrive_b0 C hR ha0 ha1 ha2 hh hw hl
theorem cdX3_arrive : yX3_arrive.cls = RX3 ∧ yX3_arrive.cls ≠ "java/lang/invoke/MethodHandle" ∧ yX3_arrive.cls ≠ "java/lang/invoke/VarHandle" ∧ (parseMethodDescriptor yX3_arrive.desc).map (fun d => d.parameters.length) = some 3 := by decide +kernel
abbrev rmX10_run : Room := { frames := 4, cells := 0, slots := 0, locals := 111 }
set_option maxHeartbeats 4000000 in
set_option maxRecDepth 100000 in
theorem tX10_run_b11 {K : Int32 → cS → Prop} (C : CallFix p m c cX10_run 2 s args wsX10_run RX10) (hR : Rti .int p l e rmX10_run s m args below meth c cX10_run D A (cT cI cL cF cM) (cWu h cI cL cF cM) K Q) {F : Nat → Nat → Int32} {L : Nat → Nat → Int64} {r : Nat → Nat → Nat} (hh : wpX10_run_b11 F L r K) {H : Heap} {locs : List Loc} {ls : Array Slot} (hw : Wd D A s (cT cI cL cF cM) (cW h cI cL cF cM F L r) H locs) (hl : lv_has ls 2 [(0, .ref (h 0))]) : W p l e rmX10_run s m args below meth c H locs 0 0 Q (F0 m 11 ls []) := by
  unfold wpX10_run_b11 at hh
  refine lv_iconst (v := (-1 : Int32)) C.1 C.2.1 dX10_run_11 (by decide) ?_
  exact hR _ _ _ (F, L, r) _ _ dX10_run_12 rfl hh hw
set_option maxHeartbeats 4000000 in
set_option maxRecDepth 100000 in
theorem tX10_run_b0 {K : Int32 → cS → Prop} (C : CallFix p m c cX10_run 2 s args wsX10_run RX10) (hR : Rti .int p l e rmX10_run s m args below meth c cX10_run D A (cT cI cL cF cM) (cWu h cI cL cF cM) K Q) {F : Nat → Nat → Int32} {L : Nat → Nat → Int64} {r : Nat → Nat → Nat} {x1 : Int32} (hh : wpX10_run_b0 F L r x1 K) {H : Heap} {locs : List Loc} {ls : Array Slot} (hw : Wd D A s (cT cI cL cF cM) (cW h cI cL cF cM F L r) H locs) (hl : lv_has ls 2 [(0, .ref (h 0)), (1, .int x1)]) : W p l e rmX10_run s m args below meth c H locs 0 0 Q (F0 m 0 ls []) := by
  unfold wpX10_run_b0 at hh
  refine lv_iload_n C.1 C.2.1 dX10_run_0 rfl (lv_at hl 1 rfl) ?_
  refine lv_if_lt (tgt := 11) C.1 C.2.1 dX10_run_1 (by decide) (fun c1 => ?_) (fun c1 => ?_)
  · replace hh := hh.1 c1
    exact tX10_run_b11 C hR hh hw (lv_sub hl [0] rfl)
  · replace hh := hh.2 c1
    refine lv_iload_n C.1 C.2.1 dX10_run_4 rfl (lv_at hl 1 rfl) ?_
    refine lv_sipush (v := (5000 : Int32)) C.1 C.2.1 dX10_run_5 (by decide) ?_
    refine lv_icmp_le (tgt := 13) C.1 C.2.1 dX10_run_8 (by decide) (fun c8 => ?_) (fun c8 => ?_)
    · replace hh := hh.1 c8
      refine lv_aload_n C.1 C.2.1 dX10_run_13 rfl (lv_at hl 0 rfl) ?_
      refine c_get C hw (inC inW10) (kd_lt kp0 (by decide)) (ce10 kp0) rfl 6 (by decide) (wc w_576) (v := .ref (h 74)) rfl dX10_run_14 ?_
      refine lv_aload_n C.1 C.2.1 dX10_run_17 rfl (lv_at hl 0 rfl) ?_
      refine c_get C hw (inC inW10) (kd_lt kp0 (by decide)) (ce10 kp0) rfl 3 (by decide) (wc w_573) (v := .ref (h (r 0 3))) rfl dX10_run_18 ?_
      refine lv_aload_n C.1 C.2.1 dX10_run_21 rfl (lv_at hl 0 rfl) ?_
      refine c_get C hw (inC inW10) (kd_lt kp0 (by decide)) (ce10 kp0) rfl 5 (by decide) (wc w_575) (v := .ref (h 46)) rfl dX10_run_22 ?_
      refine lv_iload_n C.1 C.2.1 dX10_run_25 rfl (lv_at hl 1 rfl) ?_
      obtain ⟨hk0, hh⟩ := hh
      refine c_Vi C hw (ctX3_arrive l D h cI cL cF cM 74 (r 0 3) 46 kp74 hk0 kp46 F L r x1 hh) (cwV 3 C.2.2.2.2 (gd_V w_1039 w_1040 w_1041 w_121 w_1042) rfl rfl rfl cdX3_arrive ⟨Nat.le_of_ble_eq_true rfl, Nat.le_of_ble_eq_true rfl⟩) rfl (kd_lt kp74 (by decide)) (ce3 kp74) rfl hl.1 (Nat.le_of_ble_eq_true rfl) dX10_run_26 ⟨Nat.zero_le _, Nat.zero_le _⟩ (fun r26 u26 H locs hh hw => ?_) rfl
      exact hR _ _ _ (u26.1, u26.2.1, u26.2.2) _ _ dX10_run_29 rfl hh hw
    · replace hh := hh.2 c8
      exact tX10_run_b11 C hR hh hw (lv_sub hl [0] rfl)
theorem ctX10_run (l : Launch) (D : va_G) (h : Nat → Nat) (cI cL cF cM : ClassId) (F : Nat → Nat → Int32) (L : Nat → Nat → Int64) (r : Nat → Nat → Nat) (x1 : Int32) {K : Int32 → cS → Prop} (hh : wpX10_run F L r x1 K) : Ci l yX10_run wsX10_run rmX10_run [.ref (h 0), .int x1] D (cT cI cL cF cM) (cWu h cI cL cF cM) (F, L, r) K := by
  refine Ci_of (cc := cX10_run) (maxL := 2) (by decide) rfl (Nat.le_of_ble_eq_true rfl) ?_
  intro p e s m below meth c A Q C hw hR ls hl
  exact tX10_run_b0 C hR hh hw hl
theorem cdX10_run : yX10_run.cls = RX10 ∧ yX10_run.cls ≠ "java/lang/invoke/MethodHandle" ∧ yX10_run.cls ≠ "java/lang/invoke/VarHandle" ∧ (parseMethodDescriptor yX10_run.desc).map (fun d => d.parameters.length) = some 1 := by decide +kernel
abbrev rmX10_mouse : Room := { frames := 0, cells := 0, slots := 0, locals := 0 }
set_option maxHeartbeats 4000000 in
set_option maxRecDepth 100000 in
theorem tX10_mouse_b0 {K : Int32 → cS → Prop} (C : CallFix p m c cX10_mouse 2 s args wsX10_mouse RX10) (hR : Rti .int p l e rmX10_mouse s m args below meth c cX10_mouse D A (cT cI cL cF cM) (cWu h cI cL cF cM) K Q) {F : Nat → Nat → Int32} {L : Nat → Nat → Int64} {r : Nat → Nat → Nat} {x1 : Int32} (hh : wpX10_mouse_b0 F L r x1 K) {H : Heap} {locs : List Loc} {ls : Array Slot} (hw : Wd D A s (cT cI cL cF cM) (cW h cI cL cF cM F L r) H locs) (hl : lv_has ls 2 [(0, .ref (h 0)), (1, .int x1)]) : W p l e rmX10_mouse s m args below meth c H locs 0 0 Q (F0 m 0 ls []) := by
  unfold wpX10_mouse_b0 at hh
  refine lv_iload_n C.1 C.2.1 dX10_mouse_0 rfl (lv_at hl 1 rfl) ?_
  refine sw_in (x := x1) (lo := 0) (hi := 4) (fun hlo hhi => ?_) (fun ho => ?_)
  · have hv : (x1).toInt = 0 ∨ (x1).toInt = 1 ∨ (x1).toInt = 2 ∨ (x1).toInt = 3 ∨ (x1).toInt = 4 := by omega
    rcases hv with hv | hv | hv | hv | hv
    · replace hh := hh.1 (sw_eq hv (by decide))
      refine lv_tableIn (off := 35) (tgt := 36) C.1 C.2.1 dX10_mouse_1 hlo hhi (by rw [hv]; rfl) (by decide) ?_
      refine lv_aload_n C.1 C.2.1 dX10_mouse_36 rfl (lv_at hl 0 rfl) ?_
      refine c_get C hw (inC inW10) (kd_lt kp0 (by decide)) (ce10 kp0) rfl 6 (by decide) (wc w_576) (v := .ref (h 74)) rfl dX10_mouse_37 ?_
      refine c_get C hw (inC inW3) (kd_lt kp74 (by decide)) (ce3 kp74) rfl 0 (by decide) (wc w_393) (v := .int (F 74 0)) rfl dX10_mouse_40 ?_
      exact hR _ _ _ (F, L, r) _ _ dX10_mouse_43 rfl hh hw
    · replace hh := hh.2.1 (sw_eq hv (by decide))
      refine lv_tableIn (off := 43) (tgt := 44) C.1 C.2.1 dX10_mouse_1 hlo hhi (by rw [hv]; rfl) (by decide) ?_
      refine lv_aload_n C.1 C.2.1 dX10_mouse_44 rfl (lv_at hl 0 rfl) ?_
      refine c_get C hw (inC inW10) (kd_lt kp0 (by decide)) (ce10 kp0) rfl 6 (by decide) (wc w_576) (v := .ref (h 74)) rfl dX10_mouse_45 ?_
      refine c_get C hw (inC inW3) (kd_lt kp74 (by decide)) (ce3 kp74) rfl 1 (by decide) (wc w_397) (v := .int (F 74 1)) rfl dX10_mouse_48 ?_
      exact hR _ _ _ (F, L, r) _ _ dX10_mouse_51 rfl hh hw
    · replace hh := hh.2.2.1 (sw_eq hv (by decide))
      refine lv_tableIn (off := 51) (tgt := 52) C.1 C.2.1 dX10_mouse_1 hlo hhi (by rw [hv]; rfl) (by decide) ?_
      refine lv_aload_n C.1 C.2.1 dX10_mouse_52 rfl (lv_at hl 0 rfl) ?_
      refine c_get C hw (inC inW10) (kd_lt kp0 (by decide)) (ce10 kp0) rfl 6 (by decide) (wc w_576) (v := .ref (h 74)) rfl dX10_mouse_53 ?_
      refine c_get C hw (inC inW3) (kd_lt kp74 (by decide)) (ce3 kp74) rfl 2 (by decide) (wc w_400) (v := .int (F 74 2)) rfl dX10_mouse_56 ?_
      exact hR _ _ _ (F, L, r) _ _ dX10_mouse_59 rfl hh hw
    · replace hh := hh.2.2.2.1 (sw_eq hv (by decide))
      refine lv_tableIn (off := 59) (tgt := 60) C.1 C.2.1 dX10_mouse_1 hlo hhi (by rw [hv]; rfl) (by decide) ?_
      refine lv_aload_n C.1 C.2.1 dX10_mouse_60 rfl (lv_at hl 0 rfl) ?_
      refine c_get C hw (inC inW10) (kd_lt kp0 (by decide)) (ce10 kp0) rfl 6 (by decide) (wc w_576) (v := .ref (h 74)) rfl dX10_mouse_61 ?_
      refine c_get C hw (inC inW3) (kd_lt kp74 (by decide)) (ce3 kp74) rfl 3 (by decide) (wc w_402) (v := .int (F 74 3)) rfl dX10_mouse_64 ?_
      exact hR _ _ _ (F, L, r) _ _ dX10_mouse_67 rfl hh hw
    · replace hh := hh.2.2.2.2.1 (sw_eq hv (by decide))
      refine lv_tableIn (off := 67) (tgt := 68) C.1 C.2.1 dX10_mouse_1 hlo hhi (by rw [hv]; rfl) (by decide) ?_
      refine lv_aload_n C.1 C.2.1 dX10_mouse_68 rfl (lv_at hl 0 rfl) ?_
      refine c_get C hw (inC inW10) (kd_lt kp0 (by decide)) (ce10 kp0) rfl 6 (by decide) (wc w_576) (v := .ref (h 74)) rfl dX10_mouse_69 ?_
      refine c_get C hw (inC inW3) (kd_lt kp74 (by decide)) (ce3 kp74) rfl 6 (by decide) (wc w_406) (v := .int (F 74 6)) rfl dX10_mouse_72 ?_
      exact hR _ _ _ (F, L, r) _ _ dX10_mouse_75 rfl hh hw
  · replace hh := hh.2.2.2.2.2 ho
    refine lv_tableOut (tgt := 76) C.1 C.2.1 dX10_mouse_1 ho (by decide) ?_
    refine lv_iconst (v := (-1 : Int32)) C.1 C.2.1 dX10_mouse_76 (by decide) ?_
    exact hR _ _ _ (F, L, r) _ _ dX10_mouse_77 rfl hh hw
theorem ctX10_mouse (l : Launch) (D : va_G) (h : Nat → Nat) (cI cL cF cM : ClassId) (F : Nat → Nat → Int32) (L : Nat → Nat → Int64) (r : Nat → Nat → Nat) (x1 : Int32) {K : Int32 → cS → Prop} (hh : wpX10_mouse F L r x1 K) : Ci l yX10_mouse wsX10_mouse rmX10_mouse [.ref (h 0), .int x1] D (cT cI cL cF cM) (cWu h cI cL cF cM) (F, L, r) K := by
  refine Ci_of (cc := cX10_mouse) (maxL := 2) (by decide) rfl (Nat.le_of_ble_eq_true rfl) ?_
  intro p e s m below meth c A Q C hw hR ls hl
  exact tX10_mouse_b0 C hR hh hw hl
theorem cdX10_mouse : yX10_mouse.cls = RX10 ∧ yX10_mouse.cls ≠ "java/lang/invoke/MethodHandle" ∧ yX10_mouse.cls ≠ "java/lang/invoke/VarHandle" ∧ (parseMethodDescriptor yX10_mouse.desc).map (fun d => d.parameters.length) = some 1 := by decide +kernel
abbrev rmX1_wallsOf : Room := { frames := 1, cells := 0, slots := 0, locals := 22 }
set_option maxHeartbeats 4000000 in
set_option maxRecDepth 100000 in
theorem tX1_wallsOf_b24 {a0 : Nat} {B4 : (Nat → Nat → Int32) → (Nat → Nat → Int64) → (Nat → Nat → Nat) → Int32 → Int32 → Int32 → Prop} {K : Int32 → cS → Prop} (C : CallFix p m c cX1_wallsOf 4 s args wsX1_wallsOf RX1) (hR : Rti .int p l e rmX1_wallsOf s m args below meth c cX1_wallsOf D A (cT cI cL cF cM) (cWu h cI cL cF cM) K Q) (ha0 : kd a0 = 1) (hB4 : ∀ (F : Nat → Nat → Int32) (L : Nat → Nat → Int64) (r : Nat → Nat → Nat) (x1 : Int32) (x2 : Int32) (x3 : Int32) (H : Heap) (locs : List Loc) (ls : Array Slot), B4 F L r x1 x2 x3 → Wd D A s (cT cI cL cF cM) (cW h cI cL cF cM F L r) H locs → lv_has ls 4 [(0, .ref (h a0)), (1, .int x1), (2, .int x2), (3, .int x3)] → W p l e rmX1_wallsOf s m args below meth c H locs 0 0 Q (F0 m 4 ls [])) {F : Nat → Nat → Int32} {L : Nat → Nat → Int64} {r : Nat → Nat → Nat} {x1 : Int32} {x2 : Int32} {x3 : Int32} (hh : wpX1_wallsOf_b24 B4 a0 F L r x1 x2 x3 K) {H : Heap} {locs : List Loc} {ls : Array Slot} (hw : Wd D A s (cT cI cL cF cM) (cW h cI cL cF cM F L r) H locs) (hl : lv_has ls 4 [(0, .ref (h a0)), (1, .int x1), (2, .int x2), (3, .int x3)]) : W p l e rmX1_wallsOf s m args below meth c H locs 0 0 Q (F0 m 24 ls []) := by
  unfold wpX1_wallsOf_b24 at hh
  refine lv_iinc (v := x3 + (1 : Int32)) (lv' := [(3, .int (x3 + (1 : Int32))), (0, .ref (h a0)), (1, .int x1), (2, .int x2)]) C.1 C.2.1 dX1_wallsOf_24 hl (k := 3) rfl rfl (by decide) rfl (fun ls hl => ?_)
  refine lv_goto (tgt := 4) C.1 C.2.1 dX1_wallsOf_27 (by decide) ?_
  exact hB4 _ _ _ _ _ _ _ _ _ hh hw (lv_sub hl [1, 2, 3, 0] rfl)
set_option maxHeartbeats 4000000 in
set_option maxRecDepth 100000 in
theorem tX1_wallsOf_b4_body {a0 : Nat} {B4 : (Nat → Nat → Int32) → (Nat → Nat → Int64) → (Nat → Nat → Nat) → Int32 → Int32 → Int32 → Prop} {K : Int32 → cS → Prop} (C : CallFix p m c cX1_wallsOf 4 s args wsX1_wallsOf RX1) (hR : Rti .int p l e rmX1_wallsOf s m args below meth c cX1_wallsOf D A (cT cI cL cF cM) (cWu h cI cL cF cM) K Q) (ha0 : kd a0 = 1) (hB4 : ∀ (F : Nat → Nat → Int32) (L : Nat → Nat → Int64) (r : Nat → Nat → Nat) (x1 : Int32) (x2 : Int32) (x3 : Int32) (H : Heap) (locs : List Loc) (ls : Array Slot), B4 F L r x1 x2 x3 → Wd D A s (cT cI cL cF cM) (cW h cI cL cF cM F L r) H locs → lv_has ls 4 [(0, .ref (h a0)), (1, .int x1), (2, .int x2), (3, .int x3)] → W p l e rmX1_wallsOf s m args below meth c H locs 0 0 Q (F0 m 4 ls [])) {F : Nat → Nat → Int32} {L : Nat → Nat → Int64} {r : Nat → Nat → Nat} {x1 : Int32} {x2 : Int32} {x3 : Int32} (hh : wpX1_wallsOf_b4_body B4 a0 F L r x1 x2 x3 K) {H : Heap} {locs : List Loc} {ls : Array Slot} (hw : Wd D A s (cT cI cL cF cM) (cW h cI cL cF cM F L r) H locs) (hl : lv_has ls 4 [(0, .ref (h a0)), (1, .int x1), (2, .int x2), (3, .int x3)]) : W p l e rmX1_wallsOf s m args below meth c H locs 0 0 Q (F0 m 4 ls []) := by
  unfold wpX1_wallsOf_b4_body at hh
  refine lv_iload_n C.1 C.2.1 dX1_wallsOf_4 rfl (lv_at hl 3 rfl) ?_
  refine lv_iconst (v := (4 : Int32)) C.1 C.2.1 dX1_wallsOf_5 (by decide) ?_
  refine lv_icmp_ge (tgt := 30) C.1 C.2.1 dX1_wallsOf_6 (by decide) (fun c6 => ?_) (fun c6 => ?_)
  · replace hh := hh.1 c6
    refine lv_iload_n C.1 C.2.1 dX1_wallsOf_30 rfl (lv_at hl 2 rfl) ?_
    exact hR _ _ _ (F, L, r) _ _ dX1_wallsOf_31 rfl hh hw
  · replace hh := hh.2 c6
    refine lv_aload_n C.1 C.2.1 dX1_wallsOf_9 rfl (lv_at hl 0 rfl) ?_
    refine lv_iload_n C.1 C.2.1 dX1_wallsOf_10 rfl (lv_at hl 1 rfl) ?_
    refine lv_iload_n C.1 C.2.1 dX1_wallsOf_11 rfl (lv_at hl 3 rfl) ?_
    refine c_Vi C hw (ctX1_isWalled l D h cI cL cF cM a0 ha0 F L r x1 x3 hh) (cwV 2 C.2.2.2.2 (gd_V w_1314 w_949 w_950 w_120 w_951) rfl rfl rfl cdX1_isWalled ⟨Nat.le_of_ble_eq_true rfl, Nat.le_of_ble_eq_true rfl⟩) rfl (kd_lt ha0 (by decide)) (ce1 ha0) rfl hl.1 (Nat.le_of_ble_eq_true rfl) dX1_wallsOf_12 ⟨Nat.zero_le _, Nat.zero_le _⟩ (fun r12 u12 H locs hh hw => ?_) rfl
    refine lv_if_eq (tgt := 24) C.1 C.2.1 dX1_wallsOf_15 (by decide) (fun c15 => ?_) (fun c15 => ?_)
    · replace hh := hh.1 c15
      exact tX1_wallsOf_b24 C hR ha0 hB4 hh hw hl
    · replace hh := hh.2 c15
      refine lv_iload_n C.1 C.2.1 dX1_wallsOf_18 rfl (lv_at hl 2 rfl) ?_
      refine lv_iconst (v := (1 : Int32)) C.1 C.2.1 dX1_wallsOf_19 (by decide) ?_
      refine lv_iload_n C.1 C.2.1 dX1_wallsOf_20 rfl (lv_at hl 3 rfl) ?_
      refine g_ishl C dX1_wallsOf_21 ?_
      refine lv_ior C.1 C.2.1 dX1_wallsOf_22 ?_
      refine lv_istore_n (lv' := [(2, .int (x2 ||| (jshl (1 : Int32) x3))), (0, .ref (h a0)), (1, .int x1), (3, .int x3)]) C.1 C.2.1 dX1_wallsOf_23 rfl hl (by decide) rfl (fun ls hl => ?_)
      exact tX1_wallsOf_b24 C hR ha0 hB4 hh hw (lv_sub hl [1, 2, 0, 3] rfl)
theorem tX1_wallsOf_b4 {a0 : Nat} {K : Int32 → cS → Prop} (C : CallFix p m c cX1_wallsOf 4 s args wsX1_wallsOf RX1) (hR : Rti .int p l e rmX1_wallsOf s m args below meth c cX1_wallsOf D A (cT cI cL cF cM) (cWu h cI cL cF cM) K Q) (ha0 : kd a0 = 1) (n : Nat) : ∀ (F : Nat → Nat → Int32) (L : Nat → Nat → Int64) (r : Nat → Nat → Nat) (x1 : Int32) (x2 : Int32) (x3 : Int32) (H : Heap) (locs : List Loc) (ls : Array Slot), wpX1_wallsOf_b4 a0 n F L r x1 x2 x3 K → Wd D A s (cT cI cL cF cM) (cW h cI cL cF cM F L r) H locs → lv_has ls 4 [(0, .ref (h a0)), (1, .int x1), (2, .int x2), (3, .int x3)] → W p l e rmX1_wallsOf s m args below meth c H locs 0 0 Q (F0 m 4 ls []) := by
  induction n with
  | zero => intro F L r x1 x2 x3 H locs ls hh; exact hh.elim
  | succ n ih => intro F L r x1 x2 x3 H locs ls hh hw hl; exact tX1_wallsOf_b4_body C hR ha0 ih hh hw hl
set_option maxHeartbeats 4000000 in
set_option maxRecDepth 100000 in
theorem tX1_wallsOf_b0 {a0 : Nat} {K : Int32 → cS → Prop} (C : CallFix p m c cX1_wallsOf 4 s args wsX1_wallsOf RX1) (hR : Rti .int p l e rmX1_wallsOf s m args below meth c cX1_wallsOf D A (cT cI cL cF cM) (cWu h cI cL cF cM) K Q) (ha0 : kd a0 = 1) {F : Nat → Nat → Int32} {L : Nat → Nat → Int64} {r : Nat → Nat → Nat} {x1 : Int32} (hh : wpX1_wallsOf_b0 a0 F L r x1 K) {H : Heap} {locs : List Loc} {ls : Array Slot} (hw : Wd D A s (cT cI cL cF cM) (cW h cI cL cF cM F L r) H locs) (hl : lv_has ls 4 [(0, .ref (h a0)), (1, .int x1)]) : W p l e rmX1_wallsOf s m args below meth c H locs 0 0 Q (F0 m 0 ls []) := by
  unfold wpX1_wallsOf_b0 at hh
  refine lv_iconst (v := (0 : Int32)) C.1 C.2.1 dX1_wallsOf_0 (by decide) ?_
  refine lv_istore_n (lv' := [(2, .int (0 : Int32)), (0, .ref (h a0)), (1, .int x1)]) C.1 C.2.1 dX1_wallsOf_1 rfl hl (by decide) rfl (fun ls hl => ?_)
  refine lv_iconst (v := (0 : Int32)) C.1 C.2.1 dX1_wallsOf_2 (by decide) ?_
  refine lv_istore_n (lv' := [(3, .int (0 : Int32)), (2, .int (0 : Int32)), (0, .ref (h a0)), (1, .int x1)]) C.1 C.2.1 dX1_wallsOf_3 rfl hl (by decide) rfl (fun ls hl => ?_)
  obtain ⟨n, hh⟩ := hh
  exact tX1_wallsOf_b4 C hR ha0 n _ _ _ _ _ _ _ _ _ hh hw (lv_sub hl [2, 3, 1, 0] rfl)
theorem ctX1_wallsOf (l : Launch) (D : va_G) (h : Nat → Nat) (cI cL cF cM : ClassId) (a0 : Nat) (ha0 : kd a0 = 1) (F : Nat → Nat → Int32) (L : Nat → Nat → Int64) (r : Nat → Nat → Nat) (x1 : Int32) {K : Int32 → cS → Prop} (hh : wpX1_wallsOf a0 F L r x1 K) : Ci l yX1_wallsOf wsX1_wallsOf rmX1_wallsOf [.ref (h a0), .int x1] D (cT cI cL cF cM) (cWu h cI cL cF cM) (F, L, r) K := by
  refine Ci_of (cc := cX1_wallsOf) (maxL := 4) (by decide) rfl (Nat.le_of_ble_eq_true rfl) ?_
  intro p e s m below meth c A Q C hw hR ls hl
  exact tX1_wallsOf_b0 C hR ha0 hh hw hl
theorem cdX1_wallsOf : yX1_wallsOf.cls = RX1 ∧ yX1_wallsOf.cls ≠ "java/lang/invoke/MethodHandle" ∧ yX1_wallsOf.cls ≠ "java/lang/invoke/VarHandle" ∧ (parseMethodDescriptor yX1_wallsOf.desc).map (fun d => d.parameters.length) = some 1 := by decide +kernel
abbrev rmX1_spread : Room := { frames := 0, cells := 0, slots := 0, locals := 0 }
set_option maxHeartbeats 4000000 in
set_option maxRecDepth 100000 in
theorem tX1_spread_b0 {a0 : Nat} {K : Int64 → cS → Prop} (C : CallFix p m c cX1_spread 3 s args wsX1_spread RX1) (hR : Rtl p l e rmX1_spread s m args below meth c cX1_spread D A (cT cI cL cF cM) (cWu h cI cL cF cM) K Q) (ha0 : kd a0 = 1) {F : Nat → Nat → Int32} {L : Nat → Nat → Int64} {r : Nat → Nat → Nat} {x1 : Int64} (hh : wpX1_spread_b0 a0 F L r x1 K) {H : Heap} {locs : List Loc} {ls : Array Slot} (hw : Wd D A s (cT cI cL cF cM) (cW h cI cL cF cM F L r) H locs) (hl : lv_has ls 3 [(0, .ref (h a0)), (1, .long x1)]) : W p l e rmX1_spread s m args below meth c H locs 0 0 Q (F0 m 0 ls []) := by
  unfold wpX1_spread_b0 at hh
  refine lv_lload_n C.1 C.2.1 dX1_spread_0 rfl (lv_at hl 1 rfl) ?_
  refine lv_lload_n C.1 C.2.1 dX1_spread_1 rfl (lv_at hl 1 rfl) ?_
  refine lv_aload_n C.1 C.2.1 dX1_spread_2 rfl (lv_at hl 0 rfl) ?_
  refine c_get C hw (inC inW1) (kd_lt ha0 (by decide)) (ce1 ha0) rfl 4 (by decide) (wc w_365) (v := .ref (h (a0 + 1))) rfl dX1_spread_3 ?_
  refine lv_iconst (v := (0 : Int32)) C.1 C.2.1 dX1_spread_6 (by decide) ?_
  obtain ⟨hi7, hh⟩ := hh
  refine c_lal C hw (kd_lt (kd1_1 ha0) (by decide)) (ce22 (kd1_1 ha0)) hi7 dX1_spread_7 ?_
  refine lv_ldc2 C.1 C.2.1 C.2.2.2.1 (C.2.2.2.2 _ (wc w_960)) dX1_spread_8 ?_
  refine lv_lxor C.1 C.2.1 dX1_spread_11 ?_
  refine lv_land C.1 C.2.1 dX1_spread_12 ?_
  refine lv_aload_n C.1 C.2.1 dX1_spread_13 rfl (lv_at hl 0 rfl) ?_
  refine c_get C hw (inC inW1) (kd_lt ha0 (by decide)) (ce1 ha0) rfl 0 (by decide) (wc w_356) (v := .int (F a0 0)) rfl dX1_spread_14 ?_
  refine lv_lushr (v := jlushr (x1 &&& ((L (a0 + 1) (ix (0 : Int32))) ^^^ (-1 : Int64))) (F a0 0)) C.1 C.2.1 dX1_spread_17 rfl ?_
  refine lv_lor C.1 C.2.1 dX1_spread_18 ?_
  refine lv_lload_n C.1 C.2.1 dX1_spread_19 rfl (lv_at hl 1 rfl) ?_
  refine lv_aload_n C.1 C.2.1 dX1_spread_20 rfl (lv_at hl 0 rfl) ?_
  refine c_get C hw (inC inW1) (kd_lt ha0 (by decide)) (ce1 ha0) rfl 4 (by decide) (wc w_365) (v := .ref (h (a0 + 1))) rfl dX1_spread_21 ?_
  refine lv_iconst (v := (1 : Int32)) C.1 C.2.1 dX1_spread_24 (by decide) ?_
  obtain ⟨hi25, hh⟩ := hh
  refine c_lal C hw (kd_lt (kd1_1 ha0) (by decide)) (ce22 (kd1_1 ha0)) hi25 dX1_spread_25 ?_
  refine lv_ldc2 C.1 C.2.1 C.2.2.2.1 (C.2.2.2.2 _ (wc w_960)) dX1_spread_26 ?_
  refine lv_lxor C.1 C.2.1 dX1_spread_29 ?_
  refine lv_land C.1 C.2.1 dX1_spread_30 ?_
  refine lv_iconst (v := (1 : Int32)) C.1 C.2.1 dX1_spread_31 (by decide) ?_
  refine lv_lshl (v := jlshl (x1 &&& ((L (a0 + 1) (ix (1 : Int32))) ^^^ (-1 : Int64))) (1 : Int32)) C.1 C.2.1 dX1_spread_32 rfl ?_
  refine lv_lor C.1 C.2.1 dX1_spread_33 ?_
  refine lv_lload_n C.1 C.2.1 dX1_spread_34 rfl (lv_at hl 1 rfl) ?_
  refine lv_aload_n C.1 C.2.1 dX1_spread_35 rfl (lv_at hl 0 rfl) ?_
  refine c_get C hw (inC inW1) (kd_lt ha0 (by decide)) (ce1 ha0) rfl 4 (by decide) (wc w_365) (v := .ref (h (a0 + 1))) rfl dX1_spread_36 ?_
  refine lv_iconst (v := (2 : Int32)) C.1 C.2.1 dX1_spread_39 (by decide) ?_
  obtain ⟨hi40, hh⟩ := hh
  refine c_lal C hw (kd_lt (kd1_1 ha0) (by decide)) (ce22 (kd1_1 ha0)) hi40 dX1_spread_40 ?_
  refine lv_ldc2 C.1 C.2.1 C.2.2.2.1 (C.2.2.2.2 _ (wc w_960)) dX1_spread_41 ?_
  refine lv_lxor C.1 C.2.1 dX1_spread_44 ?_
  refine lv_land C.1 C.2.1 dX1_spread_45 ?_
  refine lv_aload_n C.1 C.2.1 dX1_spread_46 rfl (lv_at hl 0 rfl) ?_
  refine c_get C hw (inC inW1) (kd_lt ha0 (by decide)) (ce1 ha0) rfl 0 (by decide) (wc w_356) (v := .int (F a0 0)) rfl dX1_spread_47 ?_
  refine lv_lshl (v := jlshl (x1 &&& ((L (a0 + 1) (ix (2 : Int32))) ^^^ (-1 : Int64))) (F a0 0)) C.1 C.2.1 dX1_spread_50 rfl ?_
  refine lv_lor C.1 C.2.1 dX1_spread_51 ?_
  refine lv_lload_n C.1 C.2.1 dX1_spread_52 rfl (lv_at hl 1 rfl) ?_
  refine lv_aload_n C.1 C.2.1 dX1_spread_53 rfl (lv_at hl 0 rfl) ?_
  refine c_get C hw (inC inW1) (kd_lt ha0 (by decide)) (ce1 ha0) rfl 4 (by decide) (wc w_365) (v := .ref (h (a0 + 1))) rfl dX1_spread_54 ?_
  refine lv_iconst (v := (3 : Int32)) C.1 C.2.1 dX1_spread_57 (by decide) ?_
  obtain ⟨hi58, hh⟩ := hh
  refine c_lal C hw (kd_lt (kd1_1 ha0) (by decide)) (ce22 (kd1_1 ha0)) hi58 dX1_spread_58 ?_
  refine lv_ldc2 C.1 C.2.1 C.2.2.2.1 (C.2.2.2.2 _ (wc w_960)) dX1_spread_59 ?_
  refine lv_lxor C.1 C.2.1 dX1_spread_62 ?_
  refine lv_land C.1 C.2.1 dX1_spread_63 ?_
  refine lv_iconst (v := (1 : Int32)) C.1 C.2.1 dX1_spread_64 (by decide) ?_
  refine lv_lushr (v := jlushr (x1 &&& ((L (a0 + 1) (ix (3 : Int32))) ^^^ (-1 : Int64))) (1 : Int32)) C.1 C.2.1 dX1_spread_65 rfl ?_
  refine lv_lor C.1 C.2.1 dX1_spread_66 ?_
  exact hR _ _ _ (F, L, r) _ _ dX1_spread_67 hh hw
theorem ctX1_spread (l : Launch) (D : va_G) (h : Nat → Nat) (cI cL cF cM : ClassId) (a0 : Nat) (ha0 : kd a0 = 1) (F : Nat → Nat → Int32) (L : Nat → Nat → Int64) (r : Nat → Nat → Nat) (x1 : Int64) {K : Int64 → cS → Prop} (hh : wpX1_spread a0 F L r x1 K) : Cl l yX1_spread wsX1_spread rmX1_spread [.ref (h a0), .long x1] D (cT cI cL cF cM) (cWu h cI cL cF cM) (F, L, r) K := by
  refine Cl_of (cc := cX1_spread) (maxL := 3) (by decide) rfl (Nat.le_of_ble_eq_true rfl) ?_
  intro p e s m below meth c A Q C hw hR ls hl
  exact tX1_spread_b0 C hR ha0 hh hw hl
theorem cdX1_spread : yX1_spread.cls = RX1 ∧ yX1_spread.cls ≠ "java/lang/invoke/MethodHandle" ∧ yX1_spread.cls ≠ "java/lang/invoke/VarHandle" ∧ (parseMethodDescriptor yX1_spread.desc).map (fun d => d.parameters.length) = some 1 := by decide +kernel
abbrev rmX1_far : Room := { frames := 1, cells := 0, slots := 0, locals := 22 }
set_option maxHeartbeats 4000000 in
set_option maxRecDepth 100000 in
theorem tX1_far_b7_body {a0 : Nat} {B7 : (Nat → Nat → Int32) → (Nat → Nat → Int64) → (Nat → Nat → Nat) → Int64 → Int32 → Prop} {K : Int32 → cS → Prop} (C : CallFix p m c cX1_far 5 s args wsX1_far RX1) (hR : Rti .int p l e rmX1_far s m args below meth c cX1_far D A (cT cI cL cF cM) (cWu h cI cL cF cM) K Q) (ha0 : kd a0 = 1) (hB7 : ∀ (F : Nat → Nat → Int32) (L : Nat → Nat → Int64) (r : Nat → Nat → Nat) (x2 : Int64) (x4 : Int32) (H : Heap) (locs : List Loc) (ls : Array Slot), B7 F L r x2 x4 → Wd D A s (cT cI cL cF cM) (cW h cI cL cF cM F L r) H locs → lv_has ls 5 [(0, .ref (h a0)), (2, .long x2), (4, .int x4)] → W p l e rmX1_far s m args below meth c H locs 0 0 Q (F0 m 7 ls [])) {F : Nat → Nat → Int32} {L : Nat → Nat → Int64} {r : Nat → Nat → Nat} {x2 : Int64} {x4 : Int32} (hh : wpX1_far_b7_body B7 a0 F L r x2 x4 K) {H : Heap} {locs : List Loc} {ls : Array Slot} (hw : Wd D A s (cT cI cL cF cM) (cW h cI cL cF cM F L r) H locs) (hl : lv_has ls 5 [(0, .ref (h a0)), (2, .long x2), (4, .int x4)]) : W p l e rmX1_far s m args below meth c H locs 0 0 Q (F0 m 7 ls []) := by
  unfold wpX1_far_b7_body at hh
  refine lv_iload C.1 C.2.1 dX1_far_7 (lv_at hl 2 rfl) ?_
  refine lv_aload_n C.1 C.2.1 dX1_far_9 rfl (lv_at hl 0 rfl) ?_
  refine c_get C hw (inC inW1) (kd_lt ha0 (by decide)) (ce1 ha0) rfl 2 (by decide) (wc w_358) (v := .int (F a0 2)) rfl dX1_far_10 ?_
  refine lv_icmp_ge (tgt := 44) C.1 C.2.1 dX1_far_13 (by decide) (fun c13 => ?_) (fun c13 => ?_)
  · replace hh := hh.1 c13
    refine lv_iconst (v := (-1 : Int32)) C.1 C.2.1 dX1_far_44 (by decide) ?_
    exact hR _ _ _ (F, L, r) _ _ dX1_far_45 rfl hh hw
  · replace hh := hh.2 c13
    refine lv_lload_n C.1 C.2.1 dX1_far_16 rfl (lv_at hl 1 rfl) ?_
    refine lv_aload_n C.1 C.2.1 dX1_far_17 rfl (lv_at hl 0 rfl) ?_
    refine c_get C hw (inC inW1) (kd_lt ha0 (by decide)) (ce1 ha0) rfl 3 (by decide) (wc w_361) (v := .int (F a0 3)) rfl dX1_far_18 ?_
    refine lv_lushr (v := jlushr x2 (F a0 3)) C.1 C.2.1 dX1_far_21 rfl ?_
    refine lv_lconst (v := (1 : Int64)) C.1 C.2.1 dX1_far_22 (by decide) ?_
    refine lv_land C.1 C.2.1 dX1_far_23 ?_
    refine lv_lconst (v := (0 : Int64)) C.1 C.2.1 dX1_far_24 (by decide) ?_
    refine W.lcmp C.1 C.2.1 dX1_far_25 ?_
    refine lv_if_eq (tgt := 32) C.1 C.2.1 dX1_far_26 (by decide) (fun c26 => ?_) (fun c26 => ?_)
    · replace hh := hh.1 c26
      refine lv_aload_n C.1 C.2.1 dX1_far_32 rfl (lv_at hl 0 rfl) ?_
      refine lv_lload_n C.1 C.2.1 dX1_far_33 rfl (lv_at hl 1 rfl) ?_
      refine c_Vl C hw (ctX1_spread l D h cI cL cF cM a0 ha0 F L r x2 hh) (cwV 1 C.2.2.2.2 (gd_V w_1056 w_1058 w_36 w_120 w_1059) rfl rfl rfl cdX1_spread ⟨Nat.le_of_ble_eq_true rfl, Nat.le_of_ble_eq_true rfl⟩) rfl (kd_lt ha0 (by decide)) (ce1 ha0) rfl hl.1 (Nat.le_of_ble_eq_true rfl) dX1_far_34 ⟨Nat.zero_le _, Nat.zero_le _⟩ (fun r34 u34 H locs hh hw => ?_) rfl
      refine lv_lstore_n (lv' := [(2, .long r34), (0, .ref (h a0)), (4, .int x4)]) C.1 C.2.1 dX1_far_37 rfl hl (by decide) rfl (fun ls hl => ?_)
      refine lv_iinc (v := x4 + (1 : Int32)) (lv' := [(4, .int (x4 + (1 : Int32))), (2, .long r34), (0, .ref (h a0))]) C.1 C.2.1 dX1_far_38 hl (k := 2) rfl rfl (by decide) rfl (fun ls hl => ?_)
      refine lv_goto (tgt := 7) C.1 C.2.1 dX1_far_41 (by decide) ?_
      exact hB7 _ _ _ _ _ _ _ _ hh hw (lv_sub hl [2, 1, 0] rfl)
    · replace hh := hh.2 c26
      refine lv_iload C.1 C.2.1 dX1_far_29 (lv_at hl 2 rfl) ?_
      exact hR _ _ _ (F, L, r) _ _ dX1_far_31 rfl hh hw
theorem tX1_far_b7 {a0 : Nat} {K : Int32 → cS → Prop} (C : CallFix p m c cX1_far 5 s args wsX1_far RX1) (hR : Rti .int p l e rmX1_far s m args below meth c cX1_far D A (cT cI cL cF cM) (cWu h cI cL cF cM) K Q) (ha0 : kd a0 = 1) (n : Nat) : ∀ (F : Nat → Nat → Int32) (L : Nat → Nat → Int64) (r : Nat → Nat → Nat) (x2 : Int64) (x4 : Int32) (H : Heap) (locs : List Loc) (ls : Array Slot), wpX1_far_b7 a0 n F L r x2 x4 K → Wd D A s (cT cI cL cF cM) (cW h cI cL cF cM F L r) H locs → lv_has ls 5 [(0, .ref (h a0)), (2, .long x2), (4, .int x4)] → W p l e rmX1_far s m args below meth c H locs 0 0 Q (F0 m 7 ls []) := by
  induction n with
  | zero => intro F L r x2 x4 H locs ls hh; exact hh.elim
  | succ n ih => intro F L r x2 x4 H locs ls hh hw hl; exact tX1_far_b7_body C hR ha0 ih hh hw hl
set_option maxHeartbeats 4000000 in
set_option maxRecDepth 100000 in
theorem tX1_far_b0 {a0 : Nat} {K : Int32 → cS → Prop} (C : CallFix p m c cX1_far 5 s args wsX1_far RX1) (hR : Rti .int p l e rmX1_far s m args below meth c cX1_far D A (cT cI cL cF cM) (cWu h cI cL cF cM) K Q) (ha0 : kd a0 = 1) {F : Nat → Nat → Int32} {L : Nat → Nat → Int64} {r : Nat → Nat → Nat} {x1 : Int32} (hh : wpX1_far_b0 a0 F L r x1 K) {H : Heap} {locs : List Loc} {ls : Array Slot} (hw : Wd D A s (cT cI cL cF cM) (cW h cI cL cF cM F L r) H locs) (hl : lv_has ls 5 [(0, .ref (h a0)), (1, .int x1)]) : W p l e rmX1_far s m args below meth c H locs 0 0 Q (F0 m 0 ls []) := by
  unfold wpX1_far_b0 at hh
  refine lv_lconst (v := (1 : Int64)) C.1 C.2.1 dX1_far_0 (by decide) ?_
  refine lv_iload_n C.1 C.2.1 dX1_far_1 rfl (lv_at hl 1 rfl) ?_
  refine lv_lshl (v := jlshl (1 : Int64) x1) C.1 C.2.1 dX1_far_2 rfl ?_
  refine lv_lstore_n (lv' := [(2, .long (jlshl (1 : Int64) x1)), (0, .ref (h a0)), (1, .int x1)]) C.1 C.2.1 dX1_far_3 rfl hl (by decide) rfl (fun ls hl => ?_)
  refine lv_iconst (v := (0 : Int32)) C.1 C.2.1 dX1_far_4 (by decide) ?_
  refine lv_istore (lv' := [(4, .int (0 : Int32)), (2, .long (jlshl (1 : Int64) x1)), (0, .ref (h a0)), (1, .int x1)]) C.1 C.2.1 dX1_far_5 hl (by decide) rfl (fun ls hl => ?_)
  obtain ⟨n, hh⟩ := hh
  exact tX1_far_b7 C hR ha0 n _ _ _ _ _ _ _ _ hh hw (lv_sub hl [2, 1, 0] rfl)
theorem ctX1_far (l : Launch) (D : va_G) (h : Nat → Nat) (cI cL cF cM : ClassId) (a0 : Nat) (ha0 : kd a0 = 1) (F : Nat → Nat → Int32) (L : Nat → Nat → Int64) (r : Nat → Nat → Nat) (x1 : Int32) {K : Int32 → cS → Prop} (hh : wpX1_far a0 F L r x1 K) : Ci l yX1_far wsX1_far rmX1_far [.ref (h a0), .int x1] D (cT cI cL cF cM) (cWu h cI cL cF cM) (F, L, r) K := by
  refine Ci_of (cc := cX1_far) (maxL := 5) (by decide) rfl (Nat.le_of_ble_eq_true rfl) ?_
  intro p e s m below meth c A Q C hw hR ls hl
  exact tX1_far_b0 C hR ha0 hh hw hl
theorem cdX1_far : yX1_far.cls = RX1 ∧ yX1_far.cls ≠ "java/lang/invoke/MethodHandle" ∧ yX1_far.cls ≠ "java/lang/invoke/VarHandle" ∧ (parseMethodDescriptor yX1_far.desc).map (fun d => d.parameters.length) = some 1 := by decide +kernel
abbrev rmX10_look : Room := { frames := 2, cells := 0, slots := 0, locals := 46 }
set_option maxHeartbeats 4000000 in
set_option maxRecDepth 100000 in
theorem tX10_look_b0 {K : Int32 → cS → Prop} (C : CallFix p m c cX10_look 3 s args wsX10_look RX10) (hR : Rti .int p l e rmX10_look s m args below meth c cX10_look D A (cT cI cL cF cM) (cWu h cI cL cF cM) K Q) {F : Nat → Nat → Int32} {L : Nat → Nat → Int64} {r : Nat → Nat → Nat} {x1 : Int32} {x2 : Int32} (hh : wpX10_look_b0 F L r x1 x2 K) {H : Heap} {locs : List Loc} {ls : Array Slot} (hw : Wd D A s (cT cI cL cF cM) (cW h cI cL cF cM F L r) H locs) (hl : lv_has ls 3 [(0, .ref (h 0)), (1, .int x1), (2, .int x2)]) : W p l e rmX10_look s m args below meth c H locs 0 0 Q (F0 m 0 ls []) := by
  unfold wpX10_look_b0 at hh
  refine lv_aload_n C.1 C.2.1 dX10_look_0 rfl (lv_at hl 0 rfl) ?_
  refine c_get C hw (inC inW10) (kd_lt kp0 (by decide)) (ce10 kp0) rfl 5 (by decide) (wc w_575) (v := .ref (h 46)) rfl dX10_look_1 ?_
  refine lv_iload_n C.1 C.2.1 dX10_look_4 rfl (lv_at hl 1 rfl) ?_
  refine c_Vi C hw (ctX1_has l D h cI cL cF cM 46 kp46 F L r x1 hh) (cwV 1 C.2.2.2.2 (gd_V w_937 w_938 w_939 w_120 w_940) rfl rfl rfl cdX1_has ⟨Nat.le_of_ble_eq_true rfl, Nat.le_of_ble_eq_true rfl⟩) rfl (kd_lt kp46 (by decide)) (ce1 kp46) rfl hl.1 (Nat.le_of_ble_eq_true rfl) dX10_look_5 ⟨Nat.zero_le _, Nat.zero_le _⟩ (fun r5 u5 H locs hh hw => ?_) rfl
  refine lv_if_ne (tgt := 21) C.1 C.2.1 dX10_look_8 (by decide) (fun c8 => ?_) (fun c8 => ?_)
  · replace hh := hh.1 c8
    refine lv_iload_n C.1 C.2.1 dX10_look_21 rfl (lv_at hl 2 rfl) ?_
    refine sw_in (x := x2) (lo := 0) (hi := 3) (fun hlo hhi => ?_) (fun ho => ?_)
    · have hv : (x2).toInt = 0 ∨ (x2).toInt = 1 ∨ (x2).toInt = 2 ∨ (x2).toInt = 3 := by omega
      rcases hv with hv | hv | hv | hv
      · replace hh := hh.1 (sw_eq hv (by decide))
        refine lv_tableIn (off := 30) (tgt := 52) C.1 C.2.1 dX10_look_22 hlo hhi (by rw [hv]; rfl) (by decide) ?_
        refine lv_aload_n C.1 C.2.1 dX10_look_52 rfl (lv_at hl 0 rfl) ?_
        refine c_get C hw (inC inW10) (kd_lt kp0 (by decide)) (ce10 kp0) rfl 6 (by decide) (wc w_576) (v := .ref (h 74)) rfl dX10_look_53 ?_
        refine lv_iload_n C.1 C.2.1 dX10_look_56 rfl (lv_at hl 1 rfl) ?_
        refine c_Vi C hw (ctX3_wayOf l D h cI cL cF cM 74 kp74 u5.1 u5.2.1 u5.2.2 x1 hh) (cwV 1 C.2.2.2.2 (gd_V w_1157 w_1006 w_1007 w_121 w_1008) rfl rfl rfl cdX3_wayOf ⟨Nat.le_of_ble_eq_true rfl, Nat.le_of_ble_eq_true rfl⟩) rfl (kd_lt kp74 (by decide)) (ce3 kp74) rfl hl.1 (Nat.le_of_ble_eq_true rfl) dX10_look_57 ⟨Nat.zero_le _, Nat.zero_le _⟩ (fun r57 u57 H locs hh hw => ?_) rfl
        exact hR _ _ _ (u57.1, u57.2.1, u57.2.2) _ _ dX10_look_60 rfl hh hw
      · replace hh := hh.2.1 (sw_eq hv (by decide))
        refine lv_tableIn (off := 39) (tgt := 61) C.1 C.2.1 dX10_look_22 hlo hhi (by rw [hv]; rfl) (by decide) ?_
        refine lv_aload_n C.1 C.2.1 dX10_look_61 rfl (lv_at hl 0 rfl) ?_
        refine c_get C hw (inC inW10) (kd_lt kp0 (by decide)) (ce10 kp0) rfl 6 (by decide) (wc w_576) (v := .ref (h 74)) rfl dX10_look_62 ?_
        refine lv_iload_n C.1 C.2.1 dX10_look_65 rfl (lv_at hl 1 rfl) ?_
        refine c_Vi C hw (ctX3_yesesOf l D h cI cL cF cM 74 kp74 u5.1 u5.2.1 u5.2.2 x1 hh) (cwV 1 C.2.2.2.2 (gd_V w_1415 w_1001 w_1002 w_121 w_1003) rfl rfl rfl cdX3_yesesOf ⟨Nat.le_of_ble_eq_true rfl, Nat.le_of_ble_eq_true rfl⟩) rfl (kd_lt kp74 (by decide)) (ce3 kp74) rfl hl.1 (Nat.le_of_ble_eq_true rfl) dX10_look_66 ⟨Nat.zero_le _, Nat.zero_le _⟩ (fun r66 u66 H locs hh hw => ?_) rfl
        exact hR _ _ _ (u66.1, u66.2.1, u66.2.2) _ _ dX10_look_69 rfl hh hw
      · replace hh := hh.2.2.1 (sw_eq hv (by decide))
        refine lv_tableIn (off := 48) (tgt := 70) C.1 C.2.1 dX10_look_22 hlo hhi (by rw [hv]; rfl) (by decide) ?_
        refine lv_aload_n C.1 C.2.1 dX10_look_70 rfl (lv_at hl 0 rfl) ?_
        refine c_get C hw (inC inW10) (kd_lt kp0 (by decide)) (ce10 kp0) rfl 5 (by decide) (wc w_575) (v := .ref (h 46)) rfl dX10_look_71 ?_
        refine lv_iload_n C.1 C.2.1 dX10_look_74 rfl (lv_at hl 1 rfl) ?_
        refine c_Vi C hw (ctX1_wallsOf l D h cI cL cF cM 46 kp46 u5.1 u5.2.1 u5.2.2 x1 hh) (cwV 1 C.2.2.2.2 (gd_V w_1416 w_1417 w_1418 w_120 w_1419) rfl rfl rfl cdX1_wallsOf ⟨Nat.le_of_ble_eq_true rfl, Nat.le_of_ble_eq_true rfl⟩) rfl (kd_lt kp46 (by decide)) (ce1 kp46) rfl hl.1 (Nat.le_of_ble_eq_true rfl) dX10_look_75 ⟨Nat.zero_le _, Nat.zero_le _⟩ (fun r75 u75 H locs hh hw => ?_) rfl
        exact hR _ _ _ (u75.1, u75.2.1, u75.2.2) _ _ dX10_look_78 rfl hh hw
      · replace hh := hh.2.2.2.1 (sw_eq hv (by decide))
        refine lv_tableIn (off := 57) (tgt := 79) C.1 C.2.1 dX10_look_22 hlo hhi (by rw [hv]; rfl) (by decide) ?_
        refine lv_aload_n C.1 C.2.1 dX10_look_79 rfl (lv_at hl 0 rfl) ?_
        refine c_get C hw (inC inW10) (kd_lt kp0 (by decide)) (ce10 kp0) rfl 5 (by decide) (wc w_575) (v := .ref (h 46)) rfl dX10_look_80 ?_
        refine lv_iload_n C.1 C.2.1 dX10_look_83 rfl (lv_at hl 1 rfl) ?_
        refine c_Vi C hw (ctX1_far l D h cI cL cF cM 46 kp46 u5.1 u5.2.1 u5.2.2 x1 hh) (cwV 1 C.2.2.2.2 (gd_V w_1420 w_1421 w_1422 w_120 w_1423) rfl rfl rfl cdX1_far ⟨Nat.le_of_ble_eq_true rfl, Nat.le_of_ble_eq_true rfl⟩) rfl (kd_lt kp46 (by decide)) (ce1 kp46) rfl hl.1 (Nat.le_of_ble_eq_true rfl) dX10_look_84 ⟨Nat.zero_le _, Nat.zero_le _⟩ (fun r84 u84 H locs hh hw => ?_) rfl
        exact hR _ _ _ (u84.1, u84.2.1, u84.2.2) _ _ dX10_look_87 rfl hh hw
    · replace hh := hh.2.2.2.2 ho
      refine lv_tableOut (tgt := 88) C.1 C.2.1 dX10_look_22 ho (by decide) ?_
      exact hh.elim
  · replace hh := hh.2 c8
    exact hh.elim
theorem ctX10_look (l : Launch) (D : va_G) (h : Nat → Nat) (cI cL cF cM : ClassId) (F : Nat → Nat → Int32) (L : Nat → Nat → Int64) (r : Nat → Nat → Nat) (x1 : Int32) (x2 : Int32) {K : Int32 → cS → Prop} (hh : wpX10_look F L r x1 x2 K) : Ci l yX10_look wsX10_look rmX10_look [.ref (h 0), .int x1, .int x2] D (cT cI cL cF cM) (cWu h cI cL cF cM) (F, L, r) K := by
  refine Ci_of (cc := cX10_look) (maxL := 3) (by decide) rfl (Nat.le_of_ble_eq_true rfl) ?_
  intro p e s m below meth c A Q C hw hR ls hl
  exact tX10_look_b0 C hR hh hw hl
theorem cdX10_look : yX10_look.cls = RX10 ∧ yX10_look.cls ≠ "java/lang/invoke/MethodHandle" ∧ yX10_look.cls ≠ "java/lang/invoke/VarHandle" ∧ (parseMethodDescriptor yX10_look.desc).map (fun d => d.parameters.length) = some 2 := by decide +kernel
abbrev rmX1_reach : Room := { frames := 1, cells := 0, slots := 0, locals := 22 }
set_option maxHeartbeats 4000000 in
set_option maxRecDepth 100000 in
theorem tX1_reach_b9_body {a0 : Nat} {B9 : (Nat → Nat → Int32) → (Nat → Nat → Int64) → (Nat → Nat → Nat) → Int64 → Int32 → Prop} {K : Int64 → cS → Prop} (C : CallFix p m c cX1_reach 4 s args wsX1_reach RX1) (hR : Rtl p l e rmX1_reach s m args below meth c cX1_reach D A (cT cI cL cF cM) (cWu h cI cL cF cM) K Q) (ha0 : kd a0 = 1) (hB9 : ∀ (F : Nat → Nat → Int32) (L : Nat → Nat → Int64) (r : Nat → Nat → Nat) (x1 : Int64) (x3 : Int32) (H : Heap) (locs : List Loc) (ls : Array Slot), B9 F L r x1 x3 → Wd D A s (cT cI cL cF cM) (cW h cI cL cF cM F L r) H locs → lv_has ls 4 [(0, .ref (h a0)), (1, .long x1), (3, .int x3)] → W p l e rmX1_reach s m args below meth c H locs 0 0 Q (F0 m 9 ls [])) {F : Nat → Nat → Int32} {L : Nat → Nat → Int64} {r : Nat → Nat → Nat} {x1 : Int64} {x3 : Int32} (hh : wpX1_reach_b9_body B9 a0 F L r x1 x3 K) {H : Heap} {locs : List Loc} {ls : Array Slot} (hw : Wd D A s (cT cI cL cF cM) (cW h cI cL cF cM F L r) H locs) (hl : lv_has ls 4 [(0, .ref (h a0)), (1, .long x1), (3, .int x3)]) : W p l e rmX1_reach s m args below meth c H locs 0 0 Q (F0 m 9 ls []) := by
  unfold wpX1_reach_b9_body at hh
  refine lv_iload_n C.1 C.2.1 dX1_reach_9 rfl (lv_at hl 2 rfl) ?_
  refine lv_aload_n C.1 C.2.1 dX1_reach_10 rfl (lv_at hl 0 rfl) ?_
  refine c_get C hw (inC inW1) (kd_lt ha0 (by decide)) (ce1 ha0) rfl 2 (by decide) (wc w_358) (v := .int (F a0 2)) rfl dX1_reach_11 ?_
  refine lv_icmp_ge (tgt := 29) C.1 C.2.1 dX1_reach_14 (by decide) (fun c14 => ?_) (fun c14 => ?_)
  · replace hh := hh.1 c14
    refine lv_lload_n C.1 C.2.1 dX1_reach_29 rfl (lv_at hl 1 rfl) ?_
    exact hR _ _ _ (F, L, r) _ _ dX1_reach_30 hh hw
  · replace hh := hh.2 c14
    refine lv_aload_n C.1 C.2.1 dX1_reach_17 rfl (lv_at hl 0 rfl) ?_
    refine lv_lload_n C.1 C.2.1 dX1_reach_18 rfl (lv_at hl 1 rfl) ?_
    refine c_Vl C hw (ctX1_spread l D h cI cL cF cM a0 ha0 F L r x1 hh) (cwV 1 C.2.2.2.2 (gd_V w_1056 w_1058 w_36 w_120 w_1059) rfl rfl rfl cdX1_spread ⟨Nat.le_of_ble_eq_true rfl, Nat.le_of_ble_eq_true rfl⟩) rfl (kd_lt ha0 (by decide)) (ce1 ha0) rfl hl.1 (Nat.le_of_ble_eq_true rfl) dX1_reach_19 ⟨Nat.zero_le _, Nat.zero_le _⟩ (fun r19 u19 H locs hh hw => ?_) rfl
    refine lv_lstore_n (lv' := [(1, .long r19), (0, .ref (h a0)), (3, .int x3)]) C.1 C.2.1 dX1_reach_22 rfl hl (by decide) rfl (fun ls hl => ?_)
    refine lv_iinc (v := x3 + (1 : Int32)) (lv' := [(3, .int (x3 + (1 : Int32))), (1, .long r19), (0, .ref (h a0))]) C.1 C.2.1 dX1_reach_23 hl (k := 2) rfl rfl (by decide) rfl (fun ls hl => ?_)
    refine lv_goto (tgt := 9) C.1 C.2.1 dX1_reach_26 (by decide) ?_
    exact hB9 _ _ _ _ _ _ _ _ hh hw (lv_sub hl [2, 1, 0] rfl)
theorem tX1_reach_b9 {a0 : Nat} {K : Int64 → cS → Prop} (C : CallFix p m c cX1_reach 4 s args wsX1_reach RX1) (hR : Rtl p l e rmX1_reach s m args below meth c cX1_reach D A (cT cI cL cF cM) (cWu h cI cL cF cM) K Q) (ha0 : kd a0 = 1) (n : Nat) : ∀ (F : Nat → Nat → Int32) (L : Nat → Nat → Int64) (r : Nat → Nat → Nat) (x1 : Int64) (x3 : Int32) (H : Heap) (locs : List Loc) (ls : Array Slot), wpX1_reach_b9 a0 n F L r x1 x3 K → Wd D A s (cT cI cL cF cM) (cW h cI cL cF cM F L r) H locs → lv_has ls 4 [(0, .ref (h a0)), (1, .long x1), (3, .int x3)] → W p l e rmX1_reach s m args below meth c H locs 0 0 Q (F0 m 9 ls []) := by
  induction n with
  | zero => intro F L r x1 x3 H locs ls hh; exact hh.elim
  | succ n ih => intro F L r x1 x3 H locs ls hh hw hl; exact tX1_reach_b9_body C hR ha0 ih hh hw hl
set_option maxHeartbeats 4000000 in
set_option maxRecDepth 100000 in
theorem tX1_reach_b0 {a0 : Nat} {K : Int64 → cS → Prop} (C : CallFix p m c cX1_reach 4 s args wsX1_reach RX1) (hR : Rtl p l e rmX1_reach s m args below meth c cX1_reach D A (cT cI cL cF cM) (cWu h cI cL cF cM) K Q) (ha0 : kd a0 = 1) {F : Nat → Nat → Int32} {L : Nat → Nat → Int64} {r : Nat → Nat → Nat} (hh : wpX1_reach_b0 a0 F L r K) {H : Heap} {locs : List Loc} {ls : Array Slot} (hw : Wd D A s (cT cI cL cF cM) (cW h cI cL cF cM F L r) H locs) (hl : lv_has ls 4 [(0, .ref (h a0))]) : W p l e rmX1_reach s m args below meth c H locs 0 0 Q (F0 m 0 ls []) := by
  unfold wpX1_reach_b0 at hh
  refine lv_lconst (v := (1 : Int64)) C.1 C.2.1 dX1_reach_0 (by decide) ?_
  refine lv_aload_n C.1 C.2.1 dX1_reach_1 rfl (lv_at hl 0 rfl) ?_
  refine c_get C hw (inC inW1) (kd_lt ha0 (by decide)) (ce1 ha0) rfl 3 (by decide) (wc w_361) (v := .int (F a0 3)) rfl dX1_reach_2 ?_
  refine lv_lshl (v := jlshl (1 : Int64) (F a0 3)) C.1 C.2.1 dX1_reach_5 rfl ?_
  refine lv_lstore_n (lv' := [(1, .long (jlshl (1 : Int64) (F a0 3))), (0, .ref (h a0))]) C.1 C.2.1 dX1_reach_6 rfl hl (by decide) rfl (fun ls hl => ?_)
  refine lv_iconst (v := (1 : Int32)) C.1 C.2.1 dX1_reach_7 (by decide) ?_
  refine lv_istore_n (lv' := [(3, .int (1 : Int32)), (1, .long (jlshl (1 : Int64) (F a0 3))), (0, .ref (h a0))]) C.1 C.2.1 dX1_reach_8 rfl hl (by decide) rfl (fun ls hl => ?_)
  obtain ⟨n, hh⟩ := hh
  exact tX1_reach_b9 C hR ha0 n _ _ _ _ _ _ _ _ hh hw (lv_sub hl [2, 1, 0] rfl)
theorem ctX1_reach (l : Launch) (D : va_G) (h : Nat → Nat) (cI cL cF cM : ClassId) (a0 : Nat) (ha0 : kd a0 = 1) (F : Nat → Nat → Int32) (L : Nat → Nat → Int64) (r : Nat → Nat → Nat) {K : Int64 → cS → Prop} (hh : wpX1_reach a0 F L r K) : Cl l yX1_reach wsX1_reach rmX1_reach [.ref (h a0)] D (cT cI cL cF cM) (cWu h cI cL cF cM) (F, L, r) K := by
  refine Cl_of (cc := cX1_reach) (maxL := 4) (by decide) rfl (Nat.le_of_ble_eq_true rfl) ?_
  intro p e s m below meth c A Q C hw hR ls hl
  exact tX1_reach_b0 C hR ha0 hh hw hl
theorem cdX1_reach : yX1_reach.cls = RX1 ∧ yX1_reach.cls ≠ "java/lang/invoke/MethodHandle" ∧ yX1_reach.cls ≠ "java/lang/invoke/VarHandle" ∧ (parseMethodDescriptor yX1_reach.desc).map (fun d => d.parameters.length) = some 0 := by decide +kernel
abbrev rmX10_scoutRun : Room := { frames := 4, cells := 0, slots := 0, locals := 111 }
set_option maxHeartbeats 4000000 in
set_option maxRecDepth 100000 in
theorem tX10_scoutRun_b23 {K : Int32 → cS → Prop} (C : CallFix p m c cX10_scoutRun 3 s args wsX10_scoutRun RX10) (hR : Rti .int p l e rmX10_scoutRun s m args below meth c cX10_scoutRun D A (cT cI cL cF cM) (cWu h cI cL cF cM) K Q) {F : Nat → Nat → Int32} {L : Nat → Nat → Int64} {r : Nat → Nat → Nat} (hh : wpX10_scoutRun_b23 F L r K) {H : Heap} {locs : List Loc} {ls : Array Slot} (hw : Wd D A s (cT cI cL cF cM) (cW h cI cL cF cM F L r) H locs) (hl : lv_has ls 3 [(0, .ref (h 0))]) : W p l e rmX10_scoutRun s m args below meth c H locs 0 0 Q (F0 m 23 ls []) := by
  unfold wpX10_scoutRun_b23 at hh
  refine lv_aload_n C.1 C.2.1 dX10_scoutRun_23 rfl (lv_at hl 0 rfl) ?_
  refine c_get C hw (inC inW10) (kd_lt kp0 (by decide)) (ce10 kp0) rfl 12 (by decide) (wc w_582) (v := .ref (h 84)) rfl dX10_scoutRun_24 ?_
  refine lv_iconst (v := (0 : Int32)) C.1 C.2.1 dX10_scoutRun_27 (by decide) ?_
  refine c_puti C hw (inC inW3) tyX3 tyX3_ok nmX3 (kd_lt kp84 (by decide)) (ce3 kp84) rfl 7 (by decide) (wc w_408) rfl (ty := .int) (by decide +kernel) rfl rfl (Nat.le_of_ble_eq_true rfl) rfl dX10_scoutRun_28 (fun H locs hw => ?_)
  refine lv_aload_n C.1 C.2.1 dX10_scoutRun_31 rfl (lv_at hl 0 rfl) ?_
  refine c_get C hw (inC inW10) (kd_lt kp0 (by decide)) (ce10 kp0) rfl 12 (by decide) (wc w_582) (v := .ref (h 84)) rfl dX10_scoutRun_32 ?_
  refine lv_aload_n C.1 C.2.1 dX10_scoutRun_35 rfl (lv_at hl 0 rfl) ?_
  refine c_get C hw (inC inW10) (kd_lt kp0 (by decide)) (ce10 kp0) rfl 3 (by decide) (wc w_573) (v := .ref (h (r 0 3))) rfl dX10_scoutRun_36 ?_
  refine lv_aload_n C.1 C.2.1 dX10_scoutRun_39 rfl (lv_at hl 0 rfl) ?_
  refine c_get C hw (inC inW10) (kd_lt kp0 (by decide)) (ce10 kp0) rfl 5 (by decide) (wc w_575) (v := .ref (h 46)) rfl dX10_scoutRun_40 ?_
  refine lv_sipush (v := (2000 : Int32)) C.1 C.2.1 dX10_scoutRun_43 (by decide) ?_
  obtain ⟨hk0, hh⟩ := hh
  refine c_Vi C hw (ctX3_arrive l D h cI cL cF cM 84 (r 0 3) 46 kp84 hk0 kp46 (pt F 84 7 (0 : Int32)) L r (2000 : Int32) hh) (cwV 3 C.2.2.2.2 (gd_V w_1039 w_1040 w_1041 w_121 w_1042) rfl rfl rfl cdX3_arrive ⟨Nat.le_of_ble_eq_true rfl, Nat.le_of_ble_eq_true rfl⟩) rfl (kd_lt kp84 (by decide)) (ce3 kp84) rfl hl.1 (Nat.le_of_ble_eq_true rfl) dX10_scoutRun_46 ⟨Nat.zero_le _, Nat.zero_le _⟩ (fun r46 u46 H locs hh hw => ?_) rfl
  exact hR _ _ _ (u46.1, u46.2.1, u46.2.2) _ _ dX10_scoutRun_49 rfl hh hw
set_option maxHeartbeats 4000000 in
set_option maxRecDepth 100000 in
theorem tX10_scoutRun_b0 {K : Int32 → cS → Prop} (C : CallFix p m c cX10_scoutRun 3 s args wsX10_scoutRun RX10) (hR : Rti .int p l e rmX10_scoutRun s m args below meth c cX10_scoutRun D A (cT cI cL cF cM) (cWu h cI cL cF cM) K Q) {F : Nat → Nat → Int32} {L : Nat → Nat → Int64} {r : Nat → Nat → Nat} {x1 : Int32} {x2 : Int32} (hh : wpX10_scoutRun_b0 F L r x1 x2 K) {H : Heap} {locs : List Loc} {ls : Array Slot} (hw : Wd D A s (cT cI cL cF cM) (cW h cI cL cF cM F L r) H locs) (hl : lv_has ls 3 [(0, .ref (h 0)), (1, .int x1), (2, .int x2)]) : W p l e rmX10_scoutRun s m args below meth c H locs 0 0 Q (F0 m 0 ls []) := by
  unfold wpX10_scoutRun_b0 at hh
  refine lv_iload_n C.1 C.2.1 dX10_scoutRun_0 rfl (lv_at hl 2 rfl) ?_
  refine lv_if_eq (tgt := 15) C.1 C.2.1 dX10_scoutRun_1 (by decide) (fun c1 => ?_) (fun c1 => ?_)
  · replace hh := hh.1 c1
    refine lv_aload_n C.1 C.2.1 dX10_scoutRun_15 rfl (lv_at hl 0 rfl) ?_
    refine c_get C hw (inC inW10) (kd_lt kp0 (by decide)) (ce10 kp0) rfl 12 (by decide) (wc w_582) (v := .ref (h 84)) rfl dX10_scoutRun_16 ?_
    refine lv_iload_n C.1 C.2.1 dX10_scoutRun_19 rfl (lv_at hl 1 rfl) ?_
    refine c_Vv C hw (ctX3_setDown l D h cI cL cF cM 84 kp84 F L r x1 hh) (cwV 1 C.2.2.2.2 (gd_V w_1064 w_918 w_919 w_121 w_920) rfl rfl rfl cdX3_setDown ⟨Nat.le_of_ble_eq_true rfl, Nat.le_of_ble_eq_true rfl⟩) rfl (kd_lt kp84 (by decide)) (ce3 kp84) rfl hl.1 (Nat.le_of_ble_eq_true rfl) dX10_scoutRun_20 ⟨Nat.zero_le _, Nat.zero_le _⟩ (fun u20 H locs hh hw => ?_) rfl
    exact tX10_scoutRun_b23 C hR hh hw (lv_sub hl [0] rfl)
  · replace hh := hh.2 c1
    refine lv_aload_n C.1 C.2.1 dX10_scoutRun_4 rfl (lv_at hl 0 rfl) ?_
    refine c_get C hw (inC inW10) (kd_lt kp0 (by decide)) (ce10 kp0) rfl 12 (by decide) (wc w_582) (v := .ref (h 84)) rfl dX10_scoutRun_5 ?_
    refine lv_iload_n C.1 C.2.1 dX10_scoutRun_8 rfl (lv_at hl 1 rfl) ?_
    refine c_Vv C hw (ctX3_setDownWiped l D h cI cL cF cM 84 kp84 F L r x1 hh) (cwV 1 C.2.2.2.2 (gd_V w_913 w_914 w_915 w_121 w_916) rfl rfl rfl cdX3_setDownWiped ⟨Nat.le_of_ble_eq_true rfl, Nat.le_of_ble_eq_true rfl⟩) rfl (kd_lt kp84 (by decide)) (ce3 kp84) rfl hl.1 (Nat.le_of_ble_eq_true rfl) dX10_scoutRun_9 ⟨Nat.zero_le _, Nat.zero_le _⟩ (fun u9 H locs hh hw => ?_) rfl
    refine lv_goto (tgt := 23) C.1 C.2.1 dX10_scoutRun_12 (by decide) ?_
    exact tX10_scoutRun_b23 C hR hh hw (lv_sub hl [0] rfl)
theorem ctX10_scoutRun (l : Launch) (D : va_G) (h : Nat → Nat) (cI cL cF cM : ClassId) (F : Nat → Nat → Int32) (L : Nat → Nat → Int64) (r : Nat → Nat → Nat) (x1 : Int32) (x2 : Int32) {K : Int32 → cS → Prop} (hh : wpX10_scoutRun F L r x1 x2 K) : Ci l yX10_scoutRun wsX10_scoutRun rmX10_scoutRun [.ref (h 0), .int x1, .int x2] D (cT cI cL cF cM) (cWu h cI cL cF cM) (F, L, r) K := by
  refine Ci_of (cc := cX10_scoutRun) (maxL := 3) (by decide) rfl (Nat.le_of_ble_eq_true rfl) ?_
  intro p e s m below meth c A Q C hw hR ls hl
  exact tX10_scoutRun_b0 C hR hh hw hl
theorem cdX10_scoutRun : yX10_scoutRun.cls = RX10 ∧ yX10_scoutRun.cls ≠ "java/lang/invoke/MethodHandle" ∧ yX10_scoutRun.cls ≠ "java/lang/invoke/VarHandle" ∧ (parseMethodDescriptor yX10_scoutRun.desc).map (fun d => d.parameters.length) = some 2 := by decide +kernel
abbrev rmX10_comes : Room := { frames := 5, cells := 0, slots := 0, locals := 133 }
set_option maxHeartbeats 4000000 in
set_option maxRecDepth 100000 in
theorem tX10_comes_b9 {K : Int32 → cS → Prop} (C : CallFix p m c cX10_comes 7 s args wsX10_comes RX10) (hR : Rti .int p l e rmX10_comes s m args below meth c cX10_comes D A (cT cI cL cF cM) (cWu h cI cL cF cM) K Q) {F : Nat → Nat → Int32} {L : Nat → Nat → Int64} {r : Nat → Nat → Nat} (hh : wpX10_comes_b9 F L r K) {H : Heap} {locs : List Loc} {ls : Array Slot} (hw : Wd D A s (cT cI cL cF cM) (cW h cI cL cF cM F L r) H locs) (hl : lv_has ls 7 [(0, .ref (h 0))]) : W p l e rmX10_comes s m args below meth c H locs 0 0 Q (F0 m 9 ls []) := by
  unfold wpX10_comes_b9 at hh
  refine lv_iconst (v := (-1 : Int32)) C.1 C.2.1 dX10_comes_9 (by decide) ?_
  exact hR _ _ _ (F, L, r) _ _ dX10_comes_10 rfl hh hw
set_option maxHeartbeats 4000000 in
set_option maxRecDepth 100000 in
theorem tX10_comes_b93 {K : Int32 → cS → Prop} (C : CallFix p m c cX10_comes 7 s args wsX10_comes RX10) (hR : Rti .int p l e rmX10_comes s m args below meth c cX10_comes D A (cT cI cL cF cM) (cWu h cI cL cF cM) K Q) {F : Nat → Nat → Int32} {L : Nat → Nat → Int64} {r : Nat → Nat → Nat} {k0 : Int32} (hh : wpX10_comes_b93 F L r k0 K) {H : Heap} {locs : List Loc} {ls : Array Slot} (hw : Wd D A s (cT cI cL cF cM) (cW h cI cL cF cM F L r) H locs) (hl : lv_has ls 7 [(0, .ref (h 0))]) : W p l e rmX10_comes s m args below meth c H locs 0 0 Q (F0 m 93 ls [.int k0]) := by
  unfold wpX10_comes_b93 at hh
  exact hR _ _ _ (F, L, r) _ _ dX10_comes_93 rfl hh hw
set_option maxHeartbeats 4000000 in
set_option maxRecDepth 100000 in
theorem tX10_comes_b76 {B28 : (Nat → Nat → Int32) → (Nat → Nat → Int64) → (Nat → Nat → Nat) → Int32 → Int64 → Int32 → Int32 → Int32 → Prop} {K : Int32 → cS → Prop} (C : CallFix p m c cX10_comes 7 s args wsX10_comes RX10) (hR : Rti .int p l e rmX10_comes s m args below meth c cX10_comes D A (cT cI cL cF cM) (cWu h cI cL cF cM) K Q) (hB28 : ∀ (F : Nat → Nat → Int32) (L : Nat → Nat → Int64) (r : Nat → Nat → Nat) (x1 : Int32) (x2 : Int64) (x4 : Int32) (x5 : Int32) (x6 : Int32) (H : Heap) (locs : List Loc) (ls : Array Slot), B28 F L r x1 x2 x4 x5 x6 → Wd D A s (cT cI cL cF cM) (cW h cI cL cF cM F L r) H locs → lv_has ls 7 [(0, .ref (h 0)), (1, .int x1), (2, .long x2), (4, .int x4), (5, .int x5), (6, .int x6)] → W p l e rmX10_comes s m args below meth c H locs 0 0 Q (F0 m 28 ls [])) {F : Nat → Nat → Int32} {L : Nat → Nat → Int64} {r : Nat → Nat → Nat} {x1 : Int32} {x2 : Int64} {x4 : Int32} {x5 : Int32} {x6 : Int32} (hh : wpX10_comes_b76 B28 F L r x1 x2 x4 x5 x6 K) {H : Heap} {locs : List Loc} {ls : Array Slot} (hw : Wd D A s (cT cI cL cF cM) (cW h cI cL cF cM F L r) H locs) (hl : lv_has ls 7 [(0, .ref (h 0)), (1, .int x1), (2, .long x2), (4, .int x4), (5, .int x5), (6, .int x6)]) : W p l e rmX10_comes s m args below meth c H locs 0 0 Q (F0 m 76 ls []) := by
  unfold wpX10_comes_b76 at hh
  refine lv_iinc (v := x6 + (1 : Int32)) (lv' := [(6, .int (x6 + (1 : Int32))), (0, .ref (h 0)), (1, .int x1), (2, .long x2), (4, .int x4), (5, .int x5)]) C.1 C.2.1 dX10_comes_76 hl (k := 5) rfl rfl (by decide) rfl (fun ls hl => ?_)
  refine lv_goto (tgt := 28) C.1 C.2.1 dX10_comes_79 (by decide) ?_
  exact hB28 _ _ _ _ _ _ _ _ _ _ _ hh hw (lv_sub hl [1, 2, 3, 4, 5, 0] rfl)
set_option maxHeartbeats 4000000 in
set_option maxRecDepth 100000 in
theorem tX10_comes_b28_body {B28 : (Nat → Nat → Int32) → (Nat → Nat → Int64) → (Nat → Nat → Nat) → Int32 → Int64 → Int32 → Int32 → Int32 → Prop} {K : Int32 → cS → Prop} (C : CallFix p m c cX10_comes 7 s args wsX10_comes RX10) (hR : Rti .int p l e rmX10_comes s m args below meth c cX10_comes D A (cT cI cL cF cM) (cWu h cI cL cF cM) K Q) (hB28 : ∀ (F : Nat → Nat → Int32) (L : Nat → Nat → Int64) (r : Nat → Nat → Nat) (x1 : Int32) (x2 : Int64) (x4 : Int32) (x5 : Int32) (x6 : Int32) (H : Heap) (locs : List Loc) (ls : Array Slot), B28 F L r x1 x2 x4 x5 x6 → Wd D A s (cT cI cL cF cM) (cW h cI cL cF cM F L r) H locs → lv_has ls 7 [(0, .ref (h 0)), (1, .int x1), (2, .long x2), (4, .int x4), (5, .int x5), (6, .int x6)] → W p l e rmX10_comes s m args below meth c H locs 0 0 Q (F0 m 28 ls [])) {F : Nat → Nat → Int32} {L : Nat → Nat → Int64} {r : Nat → Nat → Nat} {x1 : Int32} {x2 : Int64} {x4 : Int32} {x5 : Int32} {x6 : Int32} (hh : wpX10_comes_b28_body B28 F L r x1 x2 x4 x5 x6 K) {H : Heap} {locs : List Loc} {ls : Array Slot} (hw : Wd D A s (cT cI cL cF cM) (cW h cI cL cF cM F L r) H locs) (hl : lv_has ls 7 [(0, .ref (h 0)), (1, .int x1), (2, .long x2), (4, .int x4), (5, .int x5), (6, .int x6)]) : W p l e rmX10_comes s m args below meth c H locs 0 0 Q (F0 m 28 ls []) := by
  unfold wpX10_comes_b28_body at hh
  refine lv_iload C.1 C.2.1 dX10_comes_28 (lv_at hl 5 rfl) ?_
  refine lv_aload_n C.1 C.2.1 dX10_comes_30 rfl (lv_at hl 0 rfl) ?_
  refine c_get C hw (inC inW10) (kd_lt kp0 (by decide)) (ce10 kp0) rfl 5 (by decide) (wc w_575) (v := .ref (h 46)) rfl dX10_comes_31 ?_
  refine c_get C hw (inC inW1) (kd_lt kp46 (by decide)) (ce1 kp46) rfl 2 (by decide) (wc w_360) (v := .int (F 46 2)) rfl dX10_comes_34 ?_
  refine lv_icmp_ge (tgt := 82) C.1 C.2.1 dX10_comes_37 (by decide) (fun c37 => ?_) (fun c37 => ?_)
  · replace hh := hh.1 c37
    refine lv_iload_n C.1 C.2.1 dX10_comes_82 rfl (lv_at hl 1 rfl) ?_
    refine lv_if_ne (tgt := 91) C.1 C.2.1 dX10_comes_83 (by decide) (fun c83 => ?_) (fun c83 => ?_)
    · replace hh := hh.1 c83
      refine lv_iload C.1 C.2.1 dX10_comes_91 (lv_at hl 4 rfl) ?_
      exact tX10_comes_b93 C hR hh hw (lv_sub hl [0] rfl)
    · replace hh := hh.2 c83
      refine lv_iload C.1 C.2.1 dX10_comes_86 (lv_at hl 3 rfl) ?_
      refine lv_goto (tgt := 93) C.1 C.2.1 dX10_comes_88 (by decide) ?_
      exact tX10_comes_b93 C hR hh hw (lv_sub hl [0] rfl)
  · replace hh := hh.2 c37
    refine lv_lload_n C.1 C.2.1 dX10_comes_40 rfl (lv_at hl 2 rfl) ?_
    refine lv_iload C.1 C.2.1 dX10_comes_41 (lv_at hl 5 rfl) ?_
    refine lv_lushr (v := jlushr x2 x6) C.1 C.2.1 dX10_comes_43 rfl ?_
    refine lv_lconst (v := (1 : Int64)) C.1 C.2.1 dX10_comes_44 (by decide) ?_
    refine lv_land C.1 C.2.1 dX10_comes_45 ?_
    refine lv_lconst (v := (0 : Int64)) C.1 C.2.1 dX10_comes_46 (by decide) ?_
    refine W.lcmp C.1 C.2.1 dX10_comes_47 ?_
    refine lv_if_eq (tgt := 76) C.1 C.2.1 dX10_comes_48 (by decide) (fun c48 => ?_) (fun c48 => ?_)
    · replace hh := hh.1 c48
      exact tX10_comes_b76 C hR hB28 hh hw hl
    · replace hh := hh.2 c48
      refine lv_aload_n C.1 C.2.1 dX10_comes_51 rfl (lv_at hl 0 rfl) ?_
      refine lv_iload C.1 C.2.1 dX10_comes_52 (lv_at hl 5 rfl) ?_
      refine lv_iconst (v := (1 : Int32)) C.1 C.2.1 dX10_comes_54 (by decide) ?_
      refine c_Vi C hw (ctX10_scoutRun l D h cI cL cF cM F L r x6 (1 : Int32) hh) (cwV 2 C.2.2.2.2 (gd_V w_1060 w_1062 w_37 w_114 w_1063) rfl rfl rfl cdX10_scoutRun ⟨Nat.le_of_ble_eq_true rfl, Nat.le_of_ble_eq_true rfl⟩) rfl (kd_lt kp0 (by decide)) (ce10 kp0) rfl hl.1 (Nat.le_of_ble_eq_true rfl) dX10_comes_55 ⟨Nat.zero_le _, Nat.zero_le _⟩ (fun r55 u55 H locs hh hw => ?_) rfl
      refine lv_bipush (v := (-2 : Int32)) C.1 C.2.1 dX10_comes_58 (by decide) ?_
      refine lv_icmp_ne (tgt := 76) C.1 C.2.1 dX10_comes_60 (by decide) (fun c60 => ?_) (fun c60 => ?_)
      · replace hh := hh.1 c60
        exact tX10_comes_b76 C hR hB28 hh hw hl
      · replace hh := hh.2 c60
        refine lv_iinc (v := x4 + (1 : Int32)) (lv' := [(4, .int (x4 + (1 : Int32))), (0, .ref (h 0)), (1, .int x1), (2, .long x2), (5, .int x5), (6, .int x6)]) C.1 C.2.1 dX10_comes_63 hl (k := 3) rfl rfl (by decide) rfl (fun ls hl => ?_)
        refine lv_iload C.1 C.2.1 dX10_comes_66 (lv_at hl 4 rfl) ?_
        refine lv_iconst (v := (-1 : Int32)) C.1 C.2.1 dX10_comes_68 (by decide) ?_
        refine lv_icmp_ne (tgt := 76) C.1 C.2.1 dX10_comes_69 (by decide) (fun c69 => ?_) (fun c69 => ?_)
        · replace hh := hh.1 c69
          exact tX10_comes_b76 C hR hB28 hh hw (lv_sub hl [1, 2, 3, 0, 4, 5] rfl)
        · replace hh := hh.2 c69
          refine lv_iload C.1 C.2.1 dX10_comes_72 (lv_at hl 5 rfl) ?_
          refine lv_istore (lv' := [(5, .int x6), (4, .int (x4 + (1 : Int32))), (0, .ref (h 0)), (1, .int x1), (2, .long x2), (6, .int x6)]) C.1 C.2.1 dX10_comes_74 hl (by decide) rfl (fun ls hl => ?_)
          exact tX10_comes_b76 C hR hB28 hh hw (lv_sub hl [2, 3, 4, 1, 0, 5] rfl)
theorem tX10_comes_b28 {K : Int32 → cS → Prop} (C : CallFix p m c cX10_comes 7 s args wsX10_comes RX10) (hR : Rti .int p l e rmX10_comes s m args below meth c cX10_comes D A (cT cI cL cF cM) (cWu h cI cL cF cM) K Q) (n : Nat) : ∀ (F : Nat → Nat → Int32) (L : Nat → Nat → Int64) (r : Nat → Nat → Nat) (x1 : Int32) (x2 : Int64) (x4 : Int32) (x5 : Int32) (x6 : Int32) (H : Heap) (locs : List Loc) (ls : Array Slot), wpX10_comes_b28 n F L r x1 x2 x4 x5 x6 K → Wd D A s (cT cI cL cF cM) (cW h cI cL cF cM F L r) H locs → lv_has ls 7 [(0, .ref (h 0)), (1, .int x1), (2, .long x2), (4, .int x4), (5, .int x5), (6, .int x6)] → W p l e rmX10_comes s m args below meth c H locs 0 0 Q (F0 m 28 ls []) := by
  induction n with
  | zero => intro F L r x1 x2 x4 x5 x6 H locs ls hh; exact hh.elim
  | succ n ih => intro F L r x1 x2 x4 x5 x6 H locs ls hh hw hl; exact tX10_comes_b28_body C hR ih hh hw hl
set_option maxHeartbeats 4000000 in
set_option maxRecDepth 100000 in
theorem tX10_comes_b0 {K : Int32 → cS → Prop} (C : CallFix p m c cX10_comes 7 s args wsX10_comes RX10) (hR : Rti .int p l e rmX10_comes s m args below meth c cX10_comes D A (cT cI cL cF cM) (cWu h cI cL cF cM) K Q) {F : Nat → Nat → Int32} {L : Nat → Nat → Int64} {r : Nat → Nat → Nat} {x1 : Int32} (hh : wpX10_comes_b0 F L r x1 K) {H : Heap} {locs : List Loc} {ls : Array Slot} (hw : Wd D A s (cT cI cL cF cM) (cW h cI cL cF cM F L r) H locs) (hl : lv_has ls 7 [(0, .ref (h 0)), (1, .int x1)]) : W p l e rmX10_comes s m args below meth c H locs 0 0 Q (F0 m 0 ls []) := by
  unfold wpX10_comes_b0 at hh
  refine lv_iload_n C.1 C.2.1 dX10_comes_0 rfl (lv_at hl 1 rfl) ?_
  refine lv_if_lt (tgt := 9) C.1 C.2.1 dX10_comes_1 (by decide) (fun c1 => ?_) (fun c1 => ?_)
  · replace hh := hh.1 c1
    exact tX10_comes_b9 C hR hh hw (lv_sub hl [0] rfl)
  · replace hh := hh.2 c1
    refine lv_iload_n C.1 C.2.1 dX10_comes_4 rfl (lv_at hl 1 rfl) ?_
    refine lv_iconst (v := (1 : Int32)) C.1 C.2.1 dX10_comes_5 (by decide) ?_
    refine lv_icmp_le (tgt := 11) C.1 C.2.1 dX10_comes_6 (by decide) (fun c6 => ?_) (fun c6 => ?_)
    · replace hh := hh.1 c6
      refine lv_aload_n C.1 C.2.1 dX10_comes_11 rfl (lv_at hl 0 rfl) ?_
      refine c_get C hw (inC inW10) (kd_lt kp0 (by decide)) (ce10 kp0) rfl 5 (by decide) (wc w_575) (v := .ref (h 46)) rfl dX10_comes_12 ?_
      refine c_Vl C hw (ctX1_reach l D h cI cL cF cM 46 kp46 F L r hh) (cwV 0 C.2.2.2.2 (gd_V w_1052 w_1053 w_1054 w_120 w_1055) rfl rfl rfl cdX1_reach ⟨Nat.le_of_ble_eq_true rfl, Nat.le_of_ble_eq_true rfl⟩) rfl (kd_lt kp46 (by decide)) (ce1 kp46) rfl hl.1 (Nat.le_of_ble_eq_true rfl) dX10_comes_15 ⟨Nat.zero_le _, Nat.zero_le _⟩ (fun r15 u15 H locs hh hw => ?_) rfl
      refine lv_lstore_n (lv' := [(2, .long r15), (0, .ref (h 0)), (1, .int x1)]) C.1 C.2.1 dX10_comes_18 rfl hl (by decide) rfl (fun ls hl => ?_)
      refine lv_iconst (v := (0 : Int32)) C.1 C.2.1 dX10_comes_19 (by decide) ?_
      refine lv_istore (lv' := [(4, .int (0 : Int32)), (2, .long r15), (0, .ref (h 0)), (1, .int x1)]) C.1 C.2.1 dX10_comes_20 hl (by decide) rfl (fun ls hl => ?_)
      refine lv_iconst (v := (-1 : Int32)) C.1 C.2.1 dX10_comes_22 (by decide) ?_
      refine lv_istore (lv' := [(5, .int (-1 : Int32)), (4, .int (0 : Int32)), (2, .long r15), (0, .ref (h 0)), (1, .int x1)]) C.1 C.2.1 dX10_comes_23 hl (by decide) rfl (fun ls hl => ?_)
      refine lv_iconst (v := (0 : Int32)) C.1 C.2.1 dX10_comes_25 (by decide) ?_
      refine lv_istore (lv' := [(6, .int (0 : Int32)), (5, .int (-1 : Int32)), (4, .int (0 : Int32)), (2, .long r15), (0, .ref (h 0)), (1, .int x1)]) C.1 C.2.1 dX10_comes_26 hl (by decide) rfl (fun ls hl => ?_)
      obtain ⟨n, hh⟩ := hh
      exact tX10_comes_b28 C hR n _ _ _ _ _ _ _ _ _ _ _ hh hw (lv_sub hl [4, 5, 3, 2, 1, 0] rfl)
    · replace hh := hh.2 c6
      exact tX10_comes_b9 C hR hh hw (lv_sub hl [0] rfl)
theorem ctX10_comes (l : Launch) (D : va_G) (h : Nat → Nat) (cI cL cF cM : ClassId) (F : Nat → Nat → Int32) (L : Nat → Nat → Int64) (r : Nat → Nat → Nat) (x1 : Int32) {K : Int32 → cS → Prop} (hh : wpX10_comes F L r x1 K) : Ci l yX10_comes wsX10_comes rmX10_comes [.ref (h 0), .int x1] D (cT cI cL cF cM) (cWu h cI cL cF cM) (F, L, r) K := by
  refine Ci_of (cc := cX10_comes) (maxL := 7) (by decide) rfl (Nat.le_of_ble_eq_true rfl) ?_
  intro p e s m below meth c A Q C hw hR ls hl
  exact tX10_comes_b0 C hR hh hw hl
theorem cdX10_comes : yX10_comes.cls = RX10 ∧ yX10_comes.cls ≠ "java/lang/invoke/MethodHandle" ∧ yX10_comes.cls ≠ "java/lang/invoke/VarHandle" ∧ (parseMethodDescriptor yX10_comes.desc).map (fun d => d.parameters.length) = some 1 := by decide +kernel
abbrev rmX10_second : Room := { frames := 5, cells := 0, slots := 0, locals := 133 }
set_option maxHeartbeats 4000000 in
set_option maxRecDepth 100000 in
theorem tX10_second_b20 {K : Int32 → cS → Prop} (C : CallFix p m c cX10_second 5 s args wsX10_second RX10) (hR : Rti .int p l e rmX10_second s m args below meth c cX10_second D A (cT cI cL cF cM) (cWu h cI cL cF cM) K Q) {F : Nat → Nat → Int32} {L : Nat → Nat → Int64} {r : Nat → Nat → Nat} (hh : wpX10_second_b20 F L r K) {H : Heap} {locs : List Loc} {ls : Array Slot} (hw : Wd D A s (cT cI cL cF cM) (cW h cI cL cF cM F L r) H locs) (hl : lv_has ls 5 [(0, .ref (h 0))]) : W p l e rmX10_second s m args below meth c H locs 0 0 Q (F0 m 20 ls []) := by
  unfold wpX10_second_b20 at hh
  refine lv_iconst (v := (-1 : Int32)) C.1 C.2.1 dX10_second_20 (by decide) ?_
  exact hR _ _ _ (F, L, r) _ _ dX10_second_21 rfl hh hw
set_option maxHeartbeats 4000000 in
set_option maxRecDepth 100000 in
theorem tX10_second_b89 {K : Int32 → cS → Prop} (C : CallFix p m c cX10_second 5 s args wsX10_second RX10) (hR : Rti .int p l e rmX10_second s m args below meth c cX10_second D A (cT cI cL cF cM) (cWu h cI cL cF cM) K Q) {F : Nat → Nat → Int32} {L : Nat → Nat → Int64} {r : Nat → Nat → Nat} {k0 : Int32} (hh : wpX10_second_b89 F L r k0 K) {H : Heap} {locs : List Loc} {ls : Array Slot} (hw : Wd D A s (cT cI cL cF cM) (cW h cI cL cF cM F L r) H locs) (hl : lv_has ls 5 [(0, .ref (h 0))]) : W p l e rmX10_second s m args below meth c H locs 0 0 Q (F0 m 89 ls [.int k0]) := by
  unfold wpX10_second_b89 at hh
  exact hR _ _ _ (F, L, r) _ _ dX10_second_89 rfl hh hw
set_option maxHeartbeats 4000000 in
set_option maxRecDepth 100000 in
theorem tX10_second_b64 {K : Int32 → cS → Prop} (C : CallFix p m c cX10_second 5 s args wsX10_second RX10) (hR : Rti .int p l e rmX10_second s m args below meth c cX10_second D A (cT cI cL cF cM) (cWu h cI cL cF cM) K Q) {F : Nat → Nat → Int32} {L : Nat → Nat → Int64} {r : Nat → Nat → Nat} {x2 : Int32} {x3 : Int32} (hh : wpX10_second_b64 F L r x2 x3 K) {H : Heap} {locs : List Loc} {ls : Array Slot} (hw : Wd D A s (cT cI cL cF cM) (cW h cI cL cF cM F L r) H locs) (hl : lv_has ls 5 [(0, .ref (h 0)), (2, .int x2), (3, .int x3)]) : W p l e rmX10_second s m args below meth c H locs 0 0 Q (F0 m 64 ls []) := by
  unfold wpX10_second_b64 at hh
  refine lv_iload_n C.1 C.2.1 dX10_second_64 rfl (lv_at hl 2 rfl) ?_
  refine lv_bipush (v := (-2 : Int32)) C.1 C.2.1 dX10_second_65 (by decide) ?_
  refine lv_icmp_ne (tgt := 73) C.1 C.2.1 dX10_second_67 (by decide) (fun c67 => ?_) (fun c67 => ?_)
  · replace hh := hh.1 c67
    refine lv_iload_n C.1 C.2.1 dX10_second_73 rfl (lv_at hl 1 rfl) ?_
    refine lv_iconst (v := (2 : Int32)) C.1 C.2.1 dX10_second_74 (by decide) ?_
    refine lv_icmp_ge (tgt := 82) C.1 C.2.1 dX10_second_75 (by decide) (fun c75 => ?_) (fun c75 => ?_)
    · replace hh := hh.1 c75
      refine lv_aload_n C.1 C.2.1 dX10_second_82 rfl (lv_at hl 0 rfl) ?_
      refine c_get C hw (inC inW10) (kd_lt kp0 (by decide)) (ce10 kp0) rfl 12 (by decide) (wc w_582) (v := .ref (h 84)) rfl dX10_second_83 ?_
      refine c_get C hw (inC inW3) (kd_lt kp84 (by decide)) (ce3 kp84) rfl 7 (by decide) (wc w_408) (v := .int (F 84 7)) rfl dX10_second_86 ?_
      exact tX10_second_b89 C hR hh hw (lv_sub hl [0] rfl)
    · replace hh := hh.2 c75
      refine lv_iload_n C.1 C.2.1 dX10_second_78 rfl (lv_at hl 2 rfl) ?_
      refine lv_goto (tgt := 89) C.1 C.2.1 dX10_second_79 (by decide) ?_
      exact tX10_second_b89 C hR hh hw (lv_sub hl [0] rfl)
  · replace hh := hh.2 c67
    refine lv_bipush (v := (-2 : Int32)) C.1 C.2.1 dX10_second_70 (by decide) ?_
    exact hR _ _ _ (F, L, r) _ _ dX10_second_72 rfl hh hw
set_option maxHeartbeats 4000000 in
set_option maxRecDepth 100000 in
theorem tX10_second_b44 {K : Int32 → cS → Prop} (C : CallFix p m c cX10_second 5 s args wsX10_second RX10) (hR : Rti .int p l e rmX10_second s m args below meth c cX10_second D A (cT cI cL cF cM) (cWu h cI cL cF cM) K Q) {F : Nat → Nat → Int32} {L : Nat → Nat → Int64} {r : Nat → Nat → Nat} {k0 : Int32} {x1 : Int32} {x2 : Int32} {x3 : Int32} (hh : wpX10_second_b44 F L r k0 x1 x2 x3 K) {H : Heap} {locs : List Loc} {ls : Array Slot} (hw : Wd D A s (cT cI cL cF cM) (cW h cI cL cF cM F L r) H locs) (hl : lv_has ls 5 [(0, .ref (h 0)), (1, .int x1), (2, .int x2), (3, .int x3)]) : W p l e rmX10_second s m args below meth c H locs 0 0 Q (F0 m 44 ls [.int k0]) := by
  unfold wpX10_second_b44 at hh
  refine lv_istore (lv' := [(4, .int k0), (0, .ref (h 0)), (1, .int x1), (2, .int x2), (3, .int x3)]) C.1 C.2.1 dX10_second_44 hl (by decide) rfl (fun ls hl => ?_)
  refine lv_iload C.1 C.2.1 dX10_second_46 (lv_at hl 0 rfl) ?_
  refine lv_if_eq (tgt := 64) C.1 C.2.1 dX10_second_48 (by decide) (fun c48 => ?_) (fun c48 => ?_)
  · replace hh := hh.1 c48
    exact tX10_second_b64 C hR hh hw (lv_sub hl [1, 3, 4] rfl)
  · replace hh := hh.2 c48
    refine lv_iload_n C.1 C.2.1 dX10_second_51 rfl (lv_at hl 4 rfl) ?_
    refine lv_bipush (v := (-2 : Int32)) C.1 C.2.1 dX10_second_52 (by decide) ?_
    refine lv_icmp_eq (tgt := 64) C.1 C.2.1 dX10_second_54 (by decide) (fun c54 => ?_) (fun c54 => ?_)
    · replace hh := hh.1 c54
      exact tX10_second_b64 C hR hh hw (lv_sub hl [1, 3, 4] rfl)
    · replace hh := hh.2 c54
      refine lv_aload_n C.1 C.2.1 dX10_second_57 rfl (lv_at hl 1 rfl) ?_
      refine lv_iload_n C.1 C.2.1 dX10_second_58 rfl (lv_at hl 2 rfl) ?_
      refine lv_iconst (v := (0 : Int32)) C.1 C.2.1 dX10_second_59 (by decide) ?_
      refine c_Vi C hw (ctX10_scoutRun l D h cI cL cF cM F L r x1 (0 : Int32) hh) (cwV 2 C.2.2.2.2 (gd_V w_1060 w_1062 w_37 w_114 w_1063) rfl rfl rfl cdX10_scoutRun ⟨Nat.le_of_ble_eq_true rfl, Nat.le_of_ble_eq_true rfl⟩) rfl (kd_lt kp0 (by decide)) (ce10 kp0) rfl hl.1 (Nat.le_of_ble_eq_true rfl) dX10_second_60 ⟨Nat.zero_le _, Nat.zero_le _⟩ (fun r60 u60 H locs hh hw => ?_) rfl
      refine lv_istore_n (lv' := [(3, .int r60), (4, .int k0), (0, .ref (h 0)), (1, .int x1), (2, .int x2)]) C.1 C.2.1 dX10_second_63 rfl hl (by decide) rfl (fun ls hl => ?_)
      exact tX10_second_b64 C hR hh hw (lv_sub hl [2, 4, 0] rfl)
set_option maxHeartbeats 4000000 in
set_option maxRecDepth 100000 in
theorem tX10_second_b39 {K : Int32 → cS → Prop} (C : CallFix p m c cX10_second 5 s args wsX10_second RX10) (hR : Rti .int p l e rmX10_second s m args below meth c cX10_second D A (cT cI cL cF cM) (cWu h cI cL cF cM) K Q) {F : Nat → Nat → Int32} {L : Nat → Nat → Int64} {r : Nat → Nat → Nat} {x1 : Int32} {x2 : Int32} {x3 : Int32} (hh : wpX10_second_b39 F L r x1 x2 x3 K) {H : Heap} {locs : List Loc} {ls : Array Slot} (hw : Wd D A s (cT cI cL cF cM) (cW h cI cL cF cM F L r) H locs) (hl : lv_has ls 5 [(0, .ref (h 0)), (1, .int x1), (2, .int x2), (3, .int x3)]) : W p l e rmX10_second s m args below meth c H locs 0 0 Q (F0 m 39 ls []) := by
  unfold wpX10_second_b39 at hh
  refine lv_iconst (v := (1 : Int32)) C.1 C.2.1 dX10_second_39 (by decide) ?_
  refine lv_goto (tgt := 44) C.1 C.2.1 dX10_second_40 (by decide) ?_
  exact tX10_second_b44 C hR hh hw hl
set_option maxHeartbeats 4000000 in
set_option maxRecDepth 100000 in
theorem tX10_second_b0 {K : Int32 → cS → Prop} (C : CallFix p m c cX10_second 5 s args wsX10_second RX10) (hR : Rti .int p l e rmX10_second s m args below meth c cX10_second D A (cT cI cL cF cM) (cWu h cI cL cF cM) K Q) {F : Nat → Nat → Int32} {L : Nat → Nat → Int64} {r : Nat → Nat → Nat} {x1 : Int32} {x2 : Int32} (hh : wpX10_second_b0 F L r x1 x2 K) {H : Heap} {locs : List Loc} {ls : Array Slot} (hw : Wd D A s (cT cI cL cF cM) (cW h cI cL cF cM F L r) H locs) (hl : lv_has ls 5 [(0, .ref (h 0)), (1, .int x1), (2, .int x2)]) : W p l e rmX10_second s m args below meth c H locs 0 0 Q (F0 m 0 ls []) := by
  unfold wpX10_second_b0 at hh
  refine lv_aload_n C.1 C.2.1 dX10_second_0 rfl (lv_at hl 0 rfl) ?_
  refine c_get C hw (inC inW10) (kd_lt kp0 (by decide)) (ce10 kp0) rfl 5 (by decide) (wc w_575) (v := .ref (h 46)) rfl dX10_second_1 ?_
  refine lv_iload_n C.1 C.2.1 dX10_second_4 rfl (lv_at hl 1 rfl) ?_
  refine c_Vi C hw (ctX1_has l D h cI cL cF cM 46 kp46 F L r x1 hh) (cwV 1 C.2.2.2.2 (gd_V w_937 w_938 w_939 w_120 w_940) rfl rfl rfl cdX1_has ⟨Nat.le_of_ble_eq_true rfl, Nat.le_of_ble_eq_true rfl⟩) rfl (kd_lt kp46 (by decide)) (ce1 kp46) rfl hl.1 (Nat.le_of_ble_eq_true rfl) dX10_second_5 ⟨Nat.zero_le _, Nat.zero_le _⟩ (fun r5 u5 H locs hh hw => ?_) rfl
  refine lv_if_eq (tgt := 20) C.1 C.2.1 dX10_second_8 (by decide) (fun c8 => ?_) (fun c8 => ?_)
  · replace hh := hh.1 c8
    exact tX10_second_b20 C hR hh hw (lv_sub hl [0] rfl)
  · replace hh := hh.2 c8
    refine lv_iload_n C.1 C.2.1 dX10_second_11 rfl (lv_at hl 2 rfl) ?_
    refine lv_if_lt (tgt := 20) C.1 C.2.1 dX10_second_12 (by decide) (fun c12 => ?_) (fun c12 => ?_)
    · replace hh := hh.1 c12
      exact tX10_second_b20 C hR hh hw (lv_sub hl [0] rfl)
    · replace hh := hh.2 c12
      refine lv_iload_n C.1 C.2.1 dX10_second_15 rfl (lv_at hl 2 rfl) ?_
      refine lv_iconst (v := (3 : Int32)) C.1 C.2.1 dX10_second_16 (by decide) ?_
      refine lv_icmp_le (tgt := 22) C.1 C.2.1 dX10_second_17 (by decide) (fun c17 => ?_) (fun c17 => ?_)
      · replace hh := hh.1 c17
        refine lv_aload_n C.1 C.2.1 dX10_second_22 rfl (lv_at hl 0 rfl) ?_
        refine lv_iload_n C.1 C.2.1 dX10_second_23 rfl (lv_at hl 1 rfl) ?_
        refine lv_iconst (v := (1 : Int32)) C.1 C.2.1 dX10_second_24 (by decide) ?_
        refine c_Vi C hw (ctX10_scoutRun l D h cI cL cF cM u5.1 u5.2.1 u5.2.2 x1 (1 : Int32) hh) (cwV 2 C.2.2.2.2 (gd_V w_1060 w_1062 w_37 w_114 w_1063) rfl rfl rfl cdX10_scoutRun ⟨Nat.le_of_ble_eq_true rfl, Nat.le_of_ble_eq_true rfl⟩) rfl (kd_lt kp0 (by decide)) (ce10 kp0) rfl hl.1 (Nat.le_of_ble_eq_true rfl) dX10_second_25 ⟨Nat.zero_le _, Nat.zero_le _⟩ (fun r25 u25 H locs hh hw => ?_) rfl
        refine lv_istore_n (lv' := [(3, .int r25), (0, .ref (h 0)), (1, .int x1), (2, .int x2)]) C.1 C.2.1 dX10_second_28 rfl hl (by decide) rfl (fun ls hl => ?_)
        refine lv_iload_n C.1 C.2.1 dX10_second_29 rfl (lv_at hl 3 rfl) ?_
        refine lv_iconst (v := (1 : Int32)) C.1 C.2.1 dX10_second_30 (by decide) ?_
        refine lv_icmp_eq (tgt := 39) C.1 C.2.1 dX10_second_31 (by decide) (fun c31 => ?_) (fun c31 => ?_)
        · replace hh := hh.1 c31
          exact tX10_second_b39 C hR hh hw (lv_sub hl [1, 2, 3, 0] rfl)
        · replace hh := hh.2 c31
          refine lv_iload_n C.1 C.2.1 dX10_second_34 rfl (lv_at hl 3 rfl) ?_
          refine lv_iconst (v := (3 : Int32)) C.1 C.2.1 dX10_second_35 (by decide) ?_
          refine lv_icmp_ne (tgt := 43) C.1 C.2.1 dX10_second_36 (by decide) (fun c36 => ?_) (fun c36 => ?_)
          · replace hh := hh.1 c36
            refine lv_iconst (v := (0 : Int32)) C.1 C.2.1 dX10_second_43 (by decide) ?_
            exact tX10_second_b44 C hR hh hw (lv_sub hl [1, 2, 3, 0] rfl)
          · replace hh := hh.2 c36
            exact tX10_second_b39 C hR hh hw (lv_sub hl [1, 2, 3, 0] rfl)
      · replace hh := hh.2 c17
        exact tX10_second_b20 C hR hh hw (lv_sub hl [0] rfl)
theorem ctX10_second (l : Launch) (D : va_G) (h : Nat → Nat) (cI cL cF cM : ClassId) (F : Nat → Nat → Int32) (L : Nat → Nat → Int64) (r : Nat → Nat → Nat) (x1 : Int32) (x2 : Int32) {K : Int32 → cS → Prop} (hh : wpX10_second F L r x1 x2 K) : Ci l yX10_second wsX10_second rmX10_second [.ref (h 0), .int x1, .int x2] D (cT cI cL cF cM) (cWu h cI cL cF cM) (F, L, r) K := by
  refine Ci_of (cc := cX10_second) (maxL := 5) (by decide) rfl (Nat.le_of_ble_eq_true rfl) ?_
  intro p e s m below meth c A Q C hw hR ls hl
  exact tX10_second_b0 C hR hh hw hl
theorem cdX10_second : yX10_second.cls = RX10 ∧ yX10_second.cls ≠ "java/lang/invoke/MethodHandle" ∧ yX10_second.cls ≠ "java/lang/invoke/VarHandle" ∧ (parseMethodDescriptor yX10_second.desc).map (fun d => d.parameters.length) = some 2 := by decide +kernel
abbrev rmX8_isSmall : Room := { frames := 0, cells := 0, slots := 0, locals := 0 }
set_option maxHeartbeats 4000000 in
set_option maxRecDepth 100000 in
theorem tX8_isSmall_b25 {K : Int32 → Unit → Prop} (C : CallFix p m c cX8_isSmall 2 s args wsX8_isSmall RX8) (hR : Rti .boolean p l e rmX8_isSmall s m args below meth c cX8_isSmall D A [] (fun _ : Unit => []) K Q) {k0 : Int32} (hh : wpX8_isSmall_b25 k0 K) {H : Heap} {locs : List Loc} {ls : Array Slot} (hw : Wd D A s [] [] H locs) (hl : lv_has ls 2 []) : W p l e rmX8_isSmall s m args below meth c H locs 0 0 Q (F0 m 25 ls [.int k0]) := by
  unfold wpX8_isSmall_b25 at hh
  obtain ⟨hb25, hh⟩ := hh
  exact hR _ _ _ () _ _ dX8_isSmall_25 (isB_nar hb25) hh hw
set_option maxHeartbeats 4000000 in
set_option maxRecDepth 100000 in
theorem tX8_isSmall_b24 {K : Int32 → Unit → Prop} (C : CallFix p m c cX8_isSmall 2 s args wsX8_isSmall RX8) (hR : Rti .boolean p l e rmX8_isSmall s m args below meth c cX8_isSmall D A [] (fun _ : Unit => []) K Q) (hh : wpX8_isSmall_b24  K) {H : Heap} {locs : List Loc} {ls : Array Slot} (hw : Wd D A s [] [] H locs) (hl : lv_has ls 2 []) : W p l e rmX8_isSmall s m args below meth c H locs 0 0 Q (F0 m 24 ls []) := by
  unfold wpX8_isSmall_b24 at hh
  refine lv_iconst (v := (0 : Int32)) C.1 C.2.1 dX8_isSmall_24 (by decide) ?_
  exact tX8_isSmall_b25 C hR hh hw hl
set_option maxHeartbeats 4000000 in
set_option maxRecDepth 100000 in
theorem tX8_isSmall_b0 {K : Int32 → Unit → Prop} (C : CallFix p m c cX8_isSmall 2 s args wsX8_isSmall RX8) (hR : Rti .boolean p l e rmX8_isSmall s m args below meth c cX8_isSmall D A [] (fun _ : Unit => []) K Q) {x0 : Int32} {x1 : Int32} (hh : wpX8_isSmall_b0 x0 x1 K) {H : Heap} {locs : List Loc} {ls : Array Slot} (hw : Wd D A s [] [] H locs) (hl : lv_has ls 2 [(0, .int x0), (1, .int x1)]) : W p l e rmX8_isSmall s m args below meth c H locs 0 0 Q (F0 m 0 ls []) := by
  unfold wpX8_isSmall_b0 at hh
  refine lv_iload_n C.1 C.2.1 dX8_isSmall_0 rfl (lv_at hl 0 rfl) ?_
  refine lv_iconst (v := (2 : Int32)) C.1 C.2.1 dX8_isSmall_1 (by decide) ?_
  refine lv_icmp_lt (tgt := 24) C.1 C.2.1 dX8_isSmall_2 (by decide) (fun c2 => ?_) (fun c2 => ?_)
  · replace hh := hh.1 c2
    exact tX8_isSmall_b24 C hR hh hw (lv_sub hl [] rfl)
  · replace hh := hh.2 c2
    refine lv_iload_n C.1 C.2.1 dX8_isSmall_5 rfl (lv_at hl 0 rfl) ?_
    refine lv_iconst (v := (3 : Int32)) C.1 C.2.1 dX8_isSmall_6 (by decide) ?_
    refine lv_icmp_gt (tgt := 24) C.1 C.2.1 dX8_isSmall_7 (by decide) (fun c7 => ?_) (fun c7 => ?_)
    · replace hh := hh.1 c7
      exact tX8_isSmall_b24 C hR hh hw (lv_sub hl [] rfl)
    · replace hh := hh.2 c7
      refine lv_iload_n C.1 C.2.1 dX8_isSmall_10 rfl (lv_at hl 1 rfl) ?_
      refine lv_iconst (v := (2 : Int32)) C.1 C.2.1 dX8_isSmall_11 (by decide) ?_
      refine lv_icmp_lt (tgt := 24) C.1 C.2.1 dX8_isSmall_12 (by decide) (fun c12 => ?_) (fun c12 => ?_)
      · replace hh := hh.1 c12
        exact tX8_isSmall_b24 C hR hh hw (lv_sub hl [] rfl)
      · replace hh := hh.2 c12
        refine lv_iload_n C.1 C.2.1 dX8_isSmall_15 rfl (lv_at hl 1 rfl) ?_
        refine lv_iconst (v := (3 : Int32)) C.1 C.2.1 dX8_isSmall_16 (by decide) ?_
        refine lv_icmp_gt (tgt := 24) C.1 C.2.1 dX8_isSmall_17 (by decide) (fun c17 => ?_) (fun c17 => ?_)
        · replace hh := hh.1 c17
          exact tX8_isSmall_b24 C hR hh hw (lv_sub hl [] rfl)
        · replace hh := hh.2 c17
          refine lv_iconst (v := (1 : Int32)) C.1 C.2.1 dX8_isSmall_20 (by decide) ?_
          refine lv_goto (tgt := 25) C.1 C.2.1 dX8_isSmall_21 (by decide) ?_
          exact tX8_isSmall_b25 C hR hh hw (lv_sub hl [] rfl)
theorem ctX8_isSmall (l : Launch) (D : va_G) (x0 : Int32) (x1 : Int32) {K : Int32 → Unit → Prop} (hh : wpX8_isSmall x0 x1 K) : Ci l yX8_isSmall wsX8_isSmall rmX8_isSmall [.int x0, .int x1] D [] (fun _ : Unit => []) () K := by
  refine Ci_of (cc := cX8_isSmall) (maxL := 2) (by decide) rfl (Nat.le_of_ble_eq_true rfl) ?_
  intro p e s m below meth c A Q C hw hR ls hl
  exact tX8_isSmall_b0 C hR hh hw hl
theorem cdX8_isSmall : yX8_isSmall.cls ≠ "java/lang/invoke/MethodHandle" ∧ yX8_isSmall.cls ≠ "java/lang/invoke/VarHandle" ∧ (parseMethodDescriptor yX8_isSmall.desc).map (fun d => d.parameters.length) = some 2 := by decide +kernel
abbrev rmX8_sizeOf : Room := { frames := 1, cells := 0, slots := 0, locals := 21 }
set_option maxHeartbeats 4000000 in
set_option maxRecDepth 100000 in
theorem tX8_sizeOf_b21 {K : Int32 → Unit → Prop} (C : CallFix p m c cX8_sizeOf 2 s args wsX8_sizeOf RX8) (hR : Rti .int p l e rmX8_sizeOf s m args below meth c cX8_sizeOf D A [] (fun _ : Unit => []) K Q) {k0 : Int32} (hh : wpX8_sizeOf_b21 k0 K) {H : Heap} {locs : List Loc} {ls : Array Slot} (hw : Wd D A s [] [] H locs) (hl : lv_has ls 2 []) : W p l e rmX8_sizeOf s m args below meth c H locs 0 0 Q (F0 m 21 ls [.int k0]) := by
  unfold wpX8_sizeOf_b21 at hh
  exact hR _ _ _ () _ _ dX8_sizeOf_21 rfl hh hw
set_option maxHeartbeats 4000000 in
set_option maxRecDepth 100000 in
theorem tX8_sizeOf_b0 {K : Int32 → Unit → Prop} (C : CallFix p m c cX8_sizeOf 2 s args wsX8_sizeOf RX8) (hR : Rti .int p l e rmX8_sizeOf s m args below meth c cX8_sizeOf D A [] (fun _ : Unit => []) K Q) {x0 : Int32} {x1 : Int32} (hh : wpX8_sizeOf_b0 x0 x1 K) {H : Heap} {locs : List Loc} {ls : Array Slot} (hw : Wd D A s [] [] H locs) (hl : lv_has ls 2 [(0, .int x0), (1, .int x1)]) : W p l e rmX8_sizeOf s m args below meth c H locs 0 0 Q (F0 m 0 ls []) := by
  unfold wpX8_sizeOf_b0 at hh
  refine lv_iload_n C.1 C.2.1 dX8_sizeOf_0 rfl (lv_at hl 0 rfl) ?_
  refine lv_iload_n C.1 C.2.1 dX8_sizeOf_1 rfl (lv_at hl 1 rfl) ?_
  refine wd_Si C hw (ctX8_isSmall l D x0 x1 hh) (va_cwS 2 C.2.2.2.2 (gd_S w_1083 w_1074 (ini_cls rfl w_123) w_1075) rfl rfl rfl cdX8_isSmall ⟨Nat.le_of_ble_eq_true rfl, Nat.le_of_ble_eq_true rfl⟩) rfl hl.1 (Nat.le_of_ble_eq_true rfl) dX8_sizeOf_2 ⟨Nat.zero_le _, Nat.zero_le _⟩ (fun r2 H locs hh hw => ?_) rfl
  refine lv_if_eq (tgt := 20) C.1 C.2.1 dX8_sizeOf_5 (by decide) (fun c5 => ?_) (fun c5 => ?_)
  · replace hh := hh.1 c5
    refine lv_iconst (v := (0 : Int32)) C.1 C.2.1 dX8_sizeOf_20 (by decide) ?_
    exact tX8_sizeOf_b21 C hR hh hw (lv_sub hl [] rfl)
  · replace hh := hh.2 c5
    refine lv_iload_n C.1 C.2.1 dX8_sizeOf_8 rfl (lv_at hl 0 rfl) ?_
    refine lv_iconst (v := (2 : Int32)) C.1 C.2.1 dX8_sizeOf_9 (by decide) ?_
    refine lv_isub C.1 C.2.1 dX8_sizeOf_10 ?_
    refine lv_iconst (v := (2 : Int32)) C.1 C.2.1 dX8_sizeOf_11 (by decide) ?_
    refine lv_imul C.1 C.2.1 dX8_sizeOf_12 ?_
    refine lv_iload_n C.1 C.2.1 dX8_sizeOf_13 rfl (lv_at hl 1 rfl) ?_
    refine lv_iadd C.1 C.2.1 dX8_sizeOf_14 ?_
    refine lv_iconst (v := (2 : Int32)) C.1 C.2.1 dX8_sizeOf_15 (by decide) ?_
    refine lv_isub C.1 C.2.1 dX8_sizeOf_16 ?_
    refine lv_goto (tgt := 21) C.1 C.2.1 dX8_sizeOf_17 (by decide) ?_
    exact tX8_sizeOf_b21 C hR hh hw (lv_sub hl [] rfl)
theorem ctX8_sizeOf (l : Launch) (D : va_G) (x0 : Int32) (x1 : Int32) {K : Int32 → Unit → Prop} (hh : wpX8_sizeOf x0 x1 K) : Ci l yX8_sizeOf wsX8_sizeOf rmX8_sizeOf [.int x0, .int x1] D [] (fun _ : Unit => []) () K := by
  refine Ci_of (cc := cX8_sizeOf) (maxL := 2) (by decide) rfl (Nat.le_of_ble_eq_true rfl) ?_
  intro p e s m below meth c A Q C hw hR ls hl
  exact tX8_sizeOf_b0 C hR hh hw hl
theorem cdX8_sizeOf : yX8_sizeOf.cls ≠ "java/lang/invoke/MethodHandle" ∧ yX8_sizeOf.cls ≠ "java/lang/invoke/VarHandle" ∧ (parseMethodDescriptor yX8_sizeOf.desc).map (fun d => d.parameters.length) = some 2 := by decide +kernel
abbrev rmX8_layFirst : Room := { frames := 2, cells := 0, slots := 0, locals := 46 }
set_option maxHeartbeats 4000000 in
set_option maxRecDepth 100000 in
theorem tX8_layFirst_b0 {K : cS → Prop} (C : CallFix p m c cX8_layFirst 3 s args wsX8_layFirst RX8) (hR : Rtv p l e rmX8_layFirst s m args below meth c cX8_layFirst D A (cT cI cL cF cM) (cWu h cI cL cF cM) K Q) {F : Nat → Nat → Int32} {L : Nat → Nat → Int64} {r : Nat → Nat → Nat} {x1 : Int32} {x2 : Int32} (hh : wpX8_layFirst_b0 F L r x1 x2 K) {H : Heap} {locs : List Loc} {ls : Array Slot} (hw : Wd D A s (cT cI cL cF cM) (cW h cI cL cF cM F L r) H locs) (hl : lv_has ls 3 [(0, .ref (h 96)), (1, .int x1), (2, .int x2)]) : W p l e rmX8_layFirst s m args below meth c H locs 0 0 Q (F0 m 0 ls []) := by
  unfold wpX8_layFirst_b0 at hh
  refine lv_aload_n C.1 C.2.1 dX8_layFirst_0 rfl (lv_at hl 0 rfl) ?_
  refine c_get C hw (inC inW8) (kd_lt kp96 (by decide)) (ce8 kp96) rfl 0 (by decide) (wc w_475) (v := .ref (h 66)) rfl dX8_layFirst_1 ?_
  refine lv_iload_n C.1 C.2.1 dX8_layFirst_4 rfl (lv_at hl 1 rfl) ?_
  refine lv_iload_n C.1 C.2.1 dX8_layFirst_5 rfl (lv_at hl 2 rfl) ?_
  refine c_Vv C hw (ctX1_lay l D h cI cL cF cM 66 kp66 F L r x1 x2 hh) (cwV 2 C.2.2.2.2 (gd_V w_1088 w_349 w_350 w_120 w_351) rfl rfl rfl cdX1_lay ⟨Nat.le_of_ble_eq_true rfl, Nat.le_of_ble_eq_true rfl⟩) rfl (kd_lt kp66 (by decide)) (ce1 kp66) rfl hl.1 (Nat.le_of_ble_eq_true rfl) dX8_layFirst_6 ⟨Nat.zero_le _, Nat.zero_le _⟩ (fun u6 H locs hh hw => ?_) rfl
  refine lv_aload_n C.1 C.2.1 dX8_layFirst_9 rfl (lv_at hl 0 rfl) ?_
  refine lv_iconst (v := (0 : Int32)) C.1 C.2.1 dX8_layFirst_10 (by decide) ?_
  refine c_puti C hw (inC inW8) tyX8 tyX8_ok nmX8 (kd_lt kp96 (by decide)) (ce8 kp96) rfl 3 (by decide) (wc w_478) rfl (ty := .int) (by decide +kernel) rfl rfl (Nat.le_of_ble_eq_true rfl) rfl dX8_layFirst_11 (fun H locs hw => ?_)
  refine lv_aload_n C.1 C.2.1 dX8_layFirst_14 rfl (lv_at hl 0 rfl) ?_
  refine lv_iconst (v := (-1 : Int32)) C.1 C.2.1 dX8_layFirst_15 (by decide) ?_
  refine c_puti C hw (inC inW8) tyX8 tyX8_ok nmX8 (kd_lt kp96 (by decide)) (ce8 kp96) rfl 4 (by decide) (wc w_479) rfl (ty := .int) (by decide +kernel) rfl rfl (Nat.le_of_ble_eq_true rfl) rfl dX8_layFirst_16 (fun H locs hw => ?_)
  refine lv_aload_n C.1 C.2.1 dX8_layFirst_19 rfl (lv_at hl 0 rfl) ?_
  refine lv_aload_n C.1 C.2.1 dX8_layFirst_20 rfl (lv_at hl 0 rfl) ?_
  refine c_get C hw (inC inW8) (kd_lt kp96 (by decide)) (ce8 kp96) rfl 0 (by decide) (wc w_475) (v := .ref (h 66)) rfl dX8_layFirst_21 ?_
  refine c_Vl C hw (ctX1_reach l D h cI cL cF cM 66 kp66 (pt (pt u6.1 96 3 (0 : Int32)) 96 4 (-1 : Int32)) u6.2.1 u6.2.2 hh) (cwV 0 C.2.2.2.2 (gd_V w_1089 w_1053 w_1054 w_120 w_1055) rfl rfl rfl cdX1_reach ⟨Nat.le_of_ble_eq_true rfl, Nat.le_of_ble_eq_true rfl⟩) rfl (kd_lt kp66 (by decide)) (ce1 kp66) rfl hl.1 (Nat.le_of_ble_eq_true rfl) dX8_layFirst_24 ⟨Nat.zero_le _, Nat.zero_le _⟩ (fun r24 u24 H locs hh hw => ?_) rfl
  refine c_putl C hw (inC inW8) tyX8 tyX8_ok nmX8 (kd_lt kp96 (by decide)) (ce8 kp96) rfl 5 (by decide) (wc w_480) rfl (by decide +kernel) (Nat.le_of_ble_eq_true rfl) rfl dX8_layFirst_27 (fun H locs hw => ?_)
  exact hR _ _ (u24.1, ptL u24.2.1 96 5 r24, u24.2.2) _ _ dX8_layFirst_30 hh hw
theorem ctX8_layFirst (l : Launch) (D : va_G) (h : Nat → Nat) (cI cL cF cM : ClassId) (F : Nat → Nat → Int32) (L : Nat → Nat → Int64) (r : Nat → Nat → Nat) (x1 : Int32) (x2 : Int32) {K : cS → Prop} (hh : wpX8_layFirst F L r x1 x2 K) : Cv l yX8_layFirst wsX8_layFirst rmX8_layFirst [.ref (h 96), .int x1, .int x2] D (cT cI cL cF cM) (cWu h cI cL cF cM) (F, L, r) K := by
  refine Cv_of (cc := cX8_layFirst) (maxL := 3) (by decide) rfl (Nat.le_of_ble_eq_true rfl) ?_
  intro p e s m below meth c A Q C hw hR ls hl
  exact tX8_layFirst_b0 C hR hh hw hl
theorem cdX8_layFirst : yX8_layFirst.cls = RX8 ∧ yX8_layFirst.cls ≠ "java/lang/invoke/MethodHandle" ∧ yX8_layFirst.cls ≠ "java/lang/invoke/VarHandle" ∧ (parseMethodDescriptor yX8_layFirst.desc).map (fun d => d.parameters.length) = some 2 := by decide +kernel
abbrev rmX1_wallNumbers : Room := { frames := 0, cells := 0, slots := 0, locals := 0 }
set_option maxHeartbeats 4000000 in
set_option maxRecDepth 100000 in
theorem tX1_wallNumbers_b0 {a0 : Nat} {K : Int32 → cS → Prop} (C : CallFix p m c cX1_wallNumbers 1 s args wsX1_wallNumbers RX1) (hR : Rti .int p l e rmX1_wallNumbers s m args below meth c cX1_wallNumbers D A (cT cI cL cF cM) (cWu h cI cL cF cM) K Q) (ha0 : kd a0 = 1) {F : Nat → Nat → Int32} {L : Nat → Nat → Int64} {r : Nat → Nat → Nat} (hh : wpX1_wallNumbers_b0 a0 F L r K) {H : Heap} {locs : List Loc} {ls : Array Slot} (hw : Wd D A s (cT cI cL cF cM) (cW h cI cL cF cM F L r) H locs) (hl : lv_has ls 1 [(0, .ref (h a0))]) : W p l e rmX1_wallNumbers s m args below meth c H locs 0 0 Q (F0 m 0 ls []) := by
  unfold wpX1_wallNumbers_b0 at hh
  refine lv_aload_n C.1 C.2.1 dX1_wallNumbers_0 rfl (lv_at hl 0 rfl) ?_
  refine c_get C hw (inC inW1) (kd_lt ha0 (by decide)) (ce1 ha0) rfl 1 (by decide) (wc w_357) (v := .int (F a0 1)) rfl dX1_wallNumbers_1 ?_
  refine lv_aload_n C.1 C.2.1 dX1_wallNumbers_4 rfl (lv_at hl 0 rfl) ?_
  refine c_get C hw (inC inW1) (kd_lt ha0 (by decide)) (ce1 ha0) rfl 0 (by decide) (wc w_356) (v := .int (F a0 0)) rfl dX1_wallNumbers_5 ?_
  refine lv_iconst (v := (1 : Int32)) C.1 C.2.1 dX1_wallNumbers_8 (by decide) ?_
  refine lv_isub C.1 C.2.1 dX1_wallNumbers_9 ?_
  refine lv_imul C.1 C.2.1 dX1_wallNumbers_10 ?_
  refine lv_aload_n C.1 C.2.1 dX1_wallNumbers_11 rfl (lv_at hl 0 rfl) ?_
  refine c_get C hw (inC inW1) (kd_lt ha0 (by decide)) (ce1 ha0) rfl 1 (by decide) (wc w_357) (v := .int (F a0 1)) rfl dX1_wallNumbers_12 ?_
  refine lv_iconst (v := (1 : Int32)) C.1 C.2.1 dX1_wallNumbers_15 (by decide) ?_
  refine lv_isub C.1 C.2.1 dX1_wallNumbers_16 ?_
  refine lv_aload_n C.1 C.2.1 dX1_wallNumbers_17 rfl (lv_at hl 0 rfl) ?_
  refine c_get C hw (inC inW1) (kd_lt ha0 (by decide)) (ce1 ha0) rfl 0 (by decide) (wc w_356) (v := .int (F a0 0)) rfl dX1_wallNumbers_18 ?_
  refine lv_imul C.1 C.2.1 dX1_wallNumbers_21 ?_
  refine lv_iadd C.1 C.2.1 dX1_wallNumbers_22 ?_
  exact hR _ _ _ (F, L, r) _ _ dX1_wallNumbers_23 rfl hh hw
theorem ctX1_wallNumbers (l : Launch) (D : va_G) (h : Nat → Nat) (cI cL cF cM : ClassId) (a0 : Nat) (ha0 : kd a0 = 1) (F : Nat → Nat → Int32) (L : Nat → Nat → Int64) (r : Nat → Nat → Nat) {K : Int32 → cS → Prop} (hh : wpX1_wallNumbers a0 F L r K) : Ci l yX1_wallNumbers wsX1_wallNumbers rmX1_wallNumbers [.ref (h a0)] D (cT cI cL cF cM) (cWu h cI cL cF cM) (F, L, r) K := by
  refine Ci_of (cc := cX1_wallNumbers) (maxL := 1) (by decide) rfl (Nat.le_of_ble_eq_true rfl) ?_
  intro p e s m below meth c A Q C hw hR ls hl
  exact tX1_wallNumbers_b0 C hR ha0 hh hw hl
theorem cdX1_wallNumbers : yX1_wallNumbers.cls = RX1 ∧ yX1_wallNumbers.cls ≠ "java/lang/invoke/MethodHandle" ∧ yX1_wallNumbers.cls ≠ "java/lang/invoke/VarHandle" ∧ (parseMethodDescriptor yX1_wallNumbers.desc).map (fun d => d.parameters.length) = some 0 := by decide +kernel
abbrev rmX1_squareOfWall : Room := { frames := 0, cells := 0, slots := 0, locals := 0 }
set_option maxHeartbeats 4000000 in
set_option maxRecDepth 100000 in
theorem tX1_squareOfWall_b24 {a0 : Nat} {K : Int32 → cS → Prop} (C : CallFix p m c cX1_squareOfWall 4 s args wsX1_squareOfWall RX1) (hR : Rti .int p l e rmX1_squareOfWall s m args below meth c cX1_squareOfWall D A (cT cI cL cF cM) (cWu h cI cL cF cM) K Q) (ha0 : kd a0 = 1) {F : Nat → Nat → Int32} {L : Nat → Nat → Int64} {r : Nat → Nat → Nat} {x1 : Int32} {x3 : Int32} (hh : wpX1_squareOfWall_b24 a0 F L r x1 x3 K) {H : Heap} {locs : List Loc} {ls : Array Slot} (hw : Wd D A s (cT cI cL cF cM) (cW h cI cL cF cM F L r) H locs) (hl : lv_has ls 4 [(0, .ref (h a0)), (1, .int x1), (3, .int x3)]) : W p l e rmX1_squareOfWall s m args below meth c H locs 0 0 Q (F0 m 24 ls []) := by
  unfold wpX1_squareOfWall_b24 at hh
  refine lv_iload_n C.1 C.2.1 dX1_squareOfWall_24 rfl (lv_at hl 1 rfl) ?_
  refine lv_iload_n C.1 C.2.1 dX1_squareOfWall_25 rfl (lv_at hl 2 rfl) ?_
  refine lv_isub C.1 C.2.1 dX1_squareOfWall_26 ?_
  exact hR _ _ _ (F, L, r) _ _ dX1_squareOfWall_27 rfl hh hw
set_option maxHeartbeats 4000000 in
set_option maxRecDepth 100000 in
theorem tX1_squareOfWall_b0 {a0 : Nat} {K : Int32 → cS → Prop} (C : CallFix p m c cX1_squareOfWall 4 s args wsX1_squareOfWall RX1) (hR : Rti .int p l e rmX1_squareOfWall s m args below meth c cX1_squareOfWall D A (cT cI cL cF cM) (cWu h cI cL cF cM) K Q) (ha0 : kd a0 = 1) {F : Nat → Nat → Int32} {L : Nat → Nat → Int64} {r : Nat → Nat → Nat} {x1 : Int32} (hh : wpX1_squareOfWall_b0 a0 F L r x1 K) {H : Heap} {locs : List Loc} {ls : Array Slot} (hw : Wd D A s (cT cI cL cF cM) (cW h cI cL cF cM F L r) H locs) (hl : lv_has ls 4 [(0, .ref (h a0)), (1, .int x1)]) : W p l e rmX1_squareOfWall s m args below meth c H locs 0 0 Q (F0 m 0 ls []) := by
  unfold wpX1_squareOfWall_b0 at hh
  refine lv_aload_n C.1 C.2.1 dX1_squareOfWall_0 rfl (lv_at hl 0 rfl) ?_
  refine c_get C hw (inC inW1) (kd_lt ha0 (by decide)) (ce1 ha0) rfl 0 (by decide) (wc w_356) (v := .int (F a0 0)) rfl dX1_squareOfWall_1 ?_
  refine lv_iconst (v := (1 : Int32)) C.1 C.2.1 dX1_squareOfWall_4 (by decide) ?_
  refine lv_isub C.1 C.2.1 dX1_squareOfWall_5 ?_
  refine lv_istore_n (lv' := [(2, .int ((F a0 0) - (1 : Int32))), (0, .ref (h a0)), (1, .int x1)]) C.1 C.2.1 dX1_squareOfWall_6 rfl hl (by decide) rfl (fun ls hl => ?_)
  refine lv_aload_n C.1 C.2.1 dX1_squareOfWall_7 rfl (lv_at hl 1 rfl) ?_
  refine c_get C hw (inC inW1) (kd_lt ha0 (by decide)) (ce1 ha0) rfl 1 (by decide) (wc w_357) (v := .int (F a0 1)) rfl dX1_squareOfWall_8 ?_
  refine lv_iload_n C.1 C.2.1 dX1_squareOfWall_11 rfl (lv_at hl 0 rfl) ?_
  refine lv_imul C.1 C.2.1 dX1_squareOfWall_12 ?_
  refine lv_istore_n (lv' := [(3, .int ((F a0 1) * ((F a0 0) - (1 : Int32)))), (2, .int ((F a0 0) - (1 : Int32))), (0, .ref (h a0)), (1, .int x1)]) C.1 C.2.1 dX1_squareOfWall_13 rfl hl (by decide) rfl (fun ls hl => ?_)
  refine lv_iload_n C.1 C.2.1 dX1_squareOfWall_14 rfl (lv_at hl 3 rfl) ?_
  refine lv_iload_n C.1 C.2.1 dX1_squareOfWall_15 rfl (lv_at hl 0 rfl) ?_
  refine lv_icmp_ge (tgt := 24) C.1 C.2.1 dX1_squareOfWall_16 (by decide) (fun c16 => ?_) (fun c16 => ?_)
  · replace hh := hh.1 c16
    exact tX1_squareOfWall_b24 C hR ha0 hh hw (lv_sub hl [2, 3, 0] rfl)
  · replace hh := hh.2 c16
    refine lv_iload_n C.1 C.2.1 dX1_squareOfWall_19 rfl (lv_at hl 1 rfl) ?_
    refine lv_iconst (v := (1 : Int32)) C.1 C.2.1 dX1_squareOfWall_20 (by decide) ?_
    refine lv_icmp_ge (tgt := 28) C.1 C.2.1 dX1_squareOfWall_21 (by decide) (fun c21 => ?_) (fun c21 => ?_)
    · replace hh := hh.1 c21
      refine lv_iload_n C.1 C.2.1 dX1_squareOfWall_28 rfl (lv_at hl 3 rfl) ?_
      refine lv_iload_n C.1 C.2.1 dX1_squareOfWall_29 rfl (lv_at hl 1 rfl) ?_
      obtain ⟨hz30, hh⟩ := hh
      refine lv_idiv C.1 C.2.1 dX1_squareOfWall_30 hz30 ?_
      refine lv_aload_n C.1 C.2.1 dX1_squareOfWall_31 rfl (lv_at hl 2 rfl) ?_
      refine c_get C hw (inC inW1) (kd_lt ha0 (by decide)) (ce1 ha0) rfl 0 (by decide) (wc w_356) (v := .int (F a0 0)) rfl dX1_squareOfWall_32 ?_
      refine lv_imul C.1 C.2.1 dX1_squareOfWall_35 ?_
      refine lv_iload_n C.1 C.2.1 dX1_squareOfWall_36 rfl (lv_at hl 3 rfl) ?_
      refine lv_iload_n C.1 C.2.1 dX1_squareOfWall_37 rfl (lv_at hl 1 rfl) ?_
      obtain ⟨hz38, hh⟩ := hh
      refine g_irem C dX1_squareOfWall_38 hz38 ?_
      refine lv_iadd C.1 C.2.1 dX1_squareOfWall_39 ?_
      exact hR _ _ _ (F, L, r) _ _ dX1_squareOfWall_40 rfl hh hw
    · replace hh := hh.2 c21
      exact tX1_squareOfWall_b24 C hR ha0 hh hw (lv_sub hl [2, 3, 0] rfl)
theorem ctX1_squareOfWall (l : Launch) (D : va_G) (h : Nat → Nat) (cI cL cF cM : ClassId) (a0 : Nat) (ha0 : kd a0 = 1) (F : Nat → Nat → Int32) (L : Nat → Nat → Int64) (r : Nat → Nat → Nat) (x1 : Int32) {K : Int32 → cS → Prop} (hh : wpX1_squareOfWall a0 F L r x1 K) : Ci l yX1_squareOfWall wsX1_squareOfWall rmX1_squareOfWall [.ref (h a0), .int x1] D (cT cI cL cF cM) (cWu h cI cL cF cM) (F, L, r) K := by
  refine Ci_of (cc := cX1_squareOfWall) (maxL := 4) (by decide) rfl (Nat.le_of_ble_eq_true rfl) ?_
  intro p e s m below meth c A Q C hw hR ls hl
  exact tX1_squareOfWall_b0 C hR ha0 hh hw hl
theorem cdX1_squareOfWall : yX1_squareOfWall.cls = RX1 ∧ yX1_squareOfWall.cls ≠ "java/lang/invoke/MethodHandle" ∧ yX1_squareOfWall.cls ≠ "java/lang/invoke/VarHandle" ∧ (parseMethodDescriptor yX1_squareOfWall.desc).map (fun d => d.parameters.length) = some 1 := by decide +kernel
end
