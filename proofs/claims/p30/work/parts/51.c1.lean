section
variable {p : Program} {l : Launch} {e : Env} {s : State} {m : MethodId} {args : Array Value} {below : List Frame} {meth : Method} {c : Code} {D : va_G} {A : Nat → Prop} {h : Nat → Nat} {cI cL cF cM : ClassId} {Q : State → Prop}
abbrev rmX7_readNumberOf : Room := { frames := 1, cells := 0, slots := 0, locals := 22 }
set_option maxHeartbeats 4000000 in
set_option maxRecDepth 100000 in
theorem tX7_readNumberOf_b86 {K : Int32 → cS → Prop} (C : CallFix p m c cX7_readNumberOf 4 s args wsX7_readNumberOf RX7) (hR : Rti .int p l e rmX7_readNumberOf s m args below meth c cX7_readNumberOf D A (cT cI cL cF cM) (cWu h cI cL cF cM) K Q) {F : Nat → Nat → Int32} {L : Nat → Nat → Int64} {r : Nat → Nat → Nat} {x3 : Int32} (hh : wpX7_readNumberOf_b86 F L r x3 K) {H : Heap} {locs : List Loc} {ls : Array Slot} (hw : Wd D A s (cT cI cL cF cM) (cW h cI cL cF cM F L r) H locs) (hl : lv_has ls 4 [(0, .ref (h 10)), (3, .int x3)]) : W p l e rmX7_readNumberOf s m args below meth c H locs 0 0 Q (F0 m 86 ls []) := by
  unfold wpX7_readNumberOf_b86 at hh
  refine lv_iload_n C.1 C.2.1 dX7_readNumberOf_86 rfl (lv_at hl 1 rfl) ?_
  exact hR _ _ _ (F, L, r) _ _ dX7_readNumberOf_87 rfl hh hw
set_option maxHeartbeats 4000000 in
set_option maxRecDepth 100000 in
theorem tX7_readNumberOf_b0 {K : Int32 → cS → Prop} (C : CallFix p m c cX7_readNumberOf 4 s args wsX7_readNumberOf RX7) (hR : Rti .int p l e rmX7_readNumberOf s m args below meth c cX7_readNumberOf D A (cT cI cL cF cM) (cWu h cI cL cF cM) K Q) {F : Nat → Nat → Int32} {L : Nat → Nat → Int64} {r : Nat → Nat → Nat} {x1 : Int32} (hh : wpX7_readNumberOf_b0 F L r x1 K) {H : Heap} {locs : List Loc} {ls : Array Slot} (hw : Wd D A s (cT cI cL cF cM) (cW h cI cL cF cM F L r) H locs) (hl : lv_has ls 4 [(0, .ref (h 10)), (1, .int x1)]) : W p l e rmX7_readNumberOf s m args below meth c H locs 0 0 Q (F0 m 0 ls []) := by
  unfold wpX7_readNumberOf_b0 at hh
  refine lv_aload_n C.1 C.2.1 dX7_readNumberOf_0 rfl (lv_at hl 0 rfl) ?_
  refine c_get C hw (inC inW7) (kd_lt kp10 (by decide)) (ce7 kp10) rfl 0 (by decide) (wc w_253) (v := .ref (h 4)) rfl dX7_readNumberOf_1 ?_
  refine c_Vv C hw (ctX9_advance l D h cI cL cF cM F L r hh) (cwV 0 C.2.2.2.2 (gd_V w_743 w_728 w_729 w_115 w_730) rfl rfl rfl cdX9_advance ⟨Nat.le_of_ble_eq_true rfl, Nat.le_of_ble_eq_true rfl⟩) rfl (kd_lt kp4 (by decide)) (ce9 kp4) rfl hl.1 (Nat.le_of_ble_eq_true rfl) dX7_readNumberOf_4 ⟨Nat.zero_le _, Nat.zero_le _⟩ (fun u4 H locs hh hw => ?_) rfl
  refine lv_iload_n C.1 C.2.1 dX7_readNumberOf_7 rfl (lv_at hl 1 rfl) ?_
  refine wd_Si C hw (ctX7_mostOf l D x1 hh) (va_cwS 1 C.2.2.2.2 (gd_S w_759 w_760 (ini_cls rfl w_116) w_761) rfl rfl rfl cdX7_mostOf ⟨Nat.le_of_ble_eq_true rfl, Nat.le_of_ble_eq_true rfl⟩) rfl hl.1 (Nat.le_of_ble_eq_true rfl) dX7_readNumberOf_8 ⟨Nat.zero_le _, Nat.zero_le _⟩ (fun r8 H locs hh hw => ?_) rfl
  refine lv_istore_n (lv' := [(2, .int r8), (0, .ref (h 10)), (1, .int x1)]) C.1 C.2.1 dX7_readNumberOf_11 rfl hl (by decide) rfl (fun ls hl => ?_)
  refine lv_iload_n C.1 C.2.1 dX7_readNumberOf_12 rfl (lv_at hl 0 rfl) ?_
  refine lv_iconst (v := (-1 : Int32)) C.1 C.2.1 dX7_readNumberOf_13 (by decide) ?_
  refine lv_icmp_ne (tgt := 19) C.1 C.2.1 dX7_readNumberOf_14 (by decide) (fun c14 => ?_) (fun c14 => ?_)
  · replace hh := hh.1 c14
    refine lv_aload_n C.1 C.2.1 dX7_readNumberOf_19 rfl (lv_at hl 1 rfl) ?_
    refine c_get C hw (inC inW7) (kd_lt kp10 (by decide)) (ce7 kp10) rfl 0 (by decide) (wc w_253) (v := .ref (h 4)) rfl dX7_readNumberOf_20 ?_
    refine c_get C hw (inC inW9) (kd_lt kp4 (by decide)) (ce9 kp4) rfl 5 (by decide) (wc w_168) (v := .int (u4.1 4 5)) rfl dX7_readNumberOf_23 ?_
    refine lv_istore_n (lv' := [(3, .int (u4.1 4 5)), (2, .int r8), (0, .ref (h 10)), (1, .int x1)]) C.1 C.2.1 dX7_readNumberOf_26 rfl hl (by decide) rfl (fun ls hl => ?_)
    refine lv_aload_n C.1 C.2.1 dX7_readNumberOf_27 rfl (lv_at hl 2 rfl) ?_
    refine c_get C hw (inC inW7) (kd_lt kp10 (by decide)) (ce7 kp10) rfl 0 (by decide) (wc w_253) (v := .ref (h 4)) rfl dX7_readNumberOf_28 ?_
    refine c_get C hw (inC inW9) (kd_lt kp4 (by decide)) (ce9 kp4) rfl 3 (by decide) (wc w_160) (v := .int (u4.1 4 3)) rfl dX7_readNumberOf_31 ?_
    refine lv_iconst (v := (2 : Int32)) C.1 C.2.1 dX7_readNumberOf_34 (by decide) ?_
    refine lv_icmp_eq (tgt := 56) C.1 C.2.1 dX7_readNumberOf_35 (by decide) (fun c35 => ?_) (fun c35 => ?_)
    · replace hh := hh.1 c35
      refine lv_iload_n C.1 C.2.1 dX7_readNumberOf_56 rfl (lv_at hl 0 rfl) ?_
      refine lv_iload_n C.1 C.2.1 dX7_readNumberOf_57 rfl (lv_at hl 1 rfl) ?_
      refine lv_icmp_le (tgt := 79) C.1 C.2.1 dX7_readNumberOf_58 (by decide) (fun c58 => ?_) (fun c58 => ?_)
      · replace hh := hh.1 c58
        refine lv_aload_n C.1 C.2.1 dX7_readNumberOf_79 rfl (lv_at hl 2 rfl) ?_
        refine c_get C hw (inC inW7) (kd_lt kp10 (by decide)) (ce7 kp10) rfl 0 (by decide) (wc w_253) (v := .ref (h 4)) rfl dX7_readNumberOf_80 ?_
        refine c_Vv C hw (ctX9_advance l D h cI cL cF cM u4.1 u4.2.1 u4.2.2 hh) (cwV 0 C.2.2.2.2 (gd_V w_743 w_728 w_729 w_115 w_730) rfl rfl rfl cdX9_advance ⟨Nat.le_of_ble_eq_true rfl, Nat.le_of_ble_eq_true rfl⟩) rfl (kd_lt kp4 (by decide)) (ce9 kp4) rfl hl.1 (Nat.le_of_ble_eq_true rfl) dX7_readNumberOf_83 ⟨Nat.zero_le _, Nat.zero_le _⟩ (fun u83 H locs hh hw => ?_) rfl
        exact tX7_readNumberOf_b86 C hR hh hw (lv_sub hl [2, 0] rfl)
      · replace hh := hh.2 c58
        refine lv_aload_n C.1 C.2.1 dX7_readNumberOf_61 rfl (lv_at hl 2 rfl) ?_
        refine c_get C hw (inC inW7) (kd_lt kp10 (by decide)) (ce7 kp10) rfl 0 (by decide) (wc w_253) (v := .ref (h 4)) rfl dX7_readNumberOf_62 ?_
        refine lv_iconst (v := (2 : Int32)) C.1 C.2.1 dX7_readNumberOf_65 (by decide) ?_
        refine lv_aload_n C.1 C.2.1 dX7_readNumberOf_66 rfl (lv_at hl 2 rfl) ?_
        refine c_get C hw (inC inW7) (kd_lt kp10 (by decide)) (ce7 kp10) rfl 0 (by decide) (wc w_253) (v := .ref (h 4)) rfl dX7_readNumberOf_67 ?_
        refine c_get C hw (inC inW9) (kd_lt kp4 (by decide)) (ce9 kp4) rfl 4 (by decide) (wc w_163) (v := .int (u4.1 4 4)) rfl dX7_readNumberOf_70 ?_
        refine c_Vv C hw (ctX9_refuse l D h cI cL cF cM u4.1 u4.2.1 u4.2.2 (2 : Int32) (u4.1 4 4) hh) (cwV 2 C.2.2.2.2 (gd_V w_735 w_736 w_737 w_115 w_738) rfl rfl rfl cdX9_refuse ⟨Nat.le_of_ble_eq_true rfl, Nat.le_of_ble_eq_true rfl⟩) rfl (kd_lt kp4 (by decide)) (ce9 kp4) rfl hl.1 (Nat.le_of_ble_eq_true rfl) dX7_readNumberOf_73 ⟨Nat.zero_le _, Nat.zero_le _⟩ (fun u73 H locs hh hw => ?_) rfl
        refine lv_goto (tgt := 86) C.1 C.2.1 dX7_readNumberOf_76 (by decide) ?_
        exact tX7_readNumberOf_b86 C hR hh hw (lv_sub hl [2, 0] rfl)
    · replace hh := hh.2 c35
      refine lv_aload_n C.1 C.2.1 dX7_readNumberOf_38 rfl (lv_at hl 2 rfl) ?_
      refine c_get C hw (inC inW7) (kd_lt kp10 (by decide)) (ce7 kp10) rfl 0 (by decide) (wc w_253) (v := .ref (h 4)) rfl dX7_readNumberOf_39 ?_
      refine lv_iconst (v := (1 : Int32)) C.1 C.2.1 dX7_readNumberOf_42 (by decide) ?_
      refine lv_aload_n C.1 C.2.1 dX7_readNumberOf_43 rfl (lv_at hl 2 rfl) ?_
      refine c_get C hw (inC inW7) (kd_lt kp10 (by decide)) (ce7 kp10) rfl 0 (by decide) (wc w_253) (v := .ref (h 4)) rfl dX7_readNumberOf_44 ?_
      refine c_get C hw (inC inW9) (kd_lt kp4 (by decide)) (ce9 kp4) rfl 4 (by decide) (wc w_163) (v := .int (u4.1 4 4)) rfl dX7_readNumberOf_47 ?_
      refine c_Vv C hw (ctX9_refuse l D h cI cL cF cM u4.1 u4.2.1 u4.2.2 (1 : Int32) (u4.1 4 4) hh) (cwV 2 C.2.2.2.2 (gd_V w_735 w_736 w_737 w_115 w_738) rfl rfl rfl cdX9_refuse ⟨Nat.le_of_ble_eq_true rfl, Nat.le_of_ble_eq_true rfl⟩) rfl (kd_lt kp4 (by decide)) (ce9 kp4) rfl hl.1 (Nat.le_of_ble_eq_true rfl) dX7_readNumberOf_50 ⟨Nat.zero_le _, Nat.zero_le _⟩ (fun u50 H locs hh hw => ?_) rfl
      refine lv_goto (tgt := 86) C.1 C.2.1 dX7_readNumberOf_53 (by decide) ?_
      exact tX7_readNumberOf_b86 C hR hh hw (lv_sub hl [2, 0] rfl)
  · replace hh := hh.2 c14
    refine lv_iconst (v := (0 : Int32)) C.1 C.2.1 dX7_readNumberOf_17 (by decide) ?_
    exact hR _ _ _ (u4.1, u4.2.1, u4.2.2) _ _ dX7_readNumberOf_18 rfl hh hw
theorem ctX7_readNumberOf (l : Launch) (D : va_G) (h : Nat → Nat) (cI cL cF cM : ClassId) (F : Nat → Nat → Int32) (L : Nat → Nat → Int64) (r : Nat → Nat → Nat) (x1 : Int32) {K : Int32 → cS → Prop} (hh : wpX7_readNumberOf F L r x1 K) : Ci l yX7_readNumberOf wsX7_readNumberOf rmX7_readNumberOf [.ref (h 10), .int x1] D (cT cI cL cF cM) (cWu h cI cL cF cM) (F, L, r) K := by
  refine Ci_of (cc := cX7_readNumberOf) (maxL := 4) (by decide) rfl (Nat.le_of_ble_eq_true rfl) ?_
  intro p e s m below meth c A Q C hw hR ls hl
  exact tX7_readNumberOf_b0 C hR hh hw hl
theorem cdX7_readNumberOf : yX7_readNumberOf.cls = RX7 ∧ yX7_readNumberOf.cls ≠ "java/lang/invoke/MethodHandle" ∧ yX7_readNumberOf.cls ≠ "java/lang/invoke/VarHandle" ∧ (parseMethodDescriptor yX7_readNumberOf.desc).map (fun d => d.parameters.length) = some 1 := by decide +kernel
abbrev rmX7_isTold : Room := { frames := 0, cells := 0, slots := 0, locals := 0 }
set_option maxHeartbeats 4000000 in
set_option maxRecDepth 100000 in
theorem tX7_isTold_b2_body {B2 : (Nat → Nat → Int32) → (Nat → Nat → Int64) → (Nat → Nat → Nat) → Int32 → Int32 → Prop} {K : Int32 → cS → Prop} (C : CallFix p m c cX7_isTold 3 s args wsX7_isTold RX7) (hR : Rti .boolean p l e rmX7_isTold s m args below meth c cX7_isTold D A (cT cI cL cF cM) (cWu h cI cL cF cM) K Q) (hB2 : ∀ (F : Nat → Nat → Int32) (L : Nat → Nat → Int64) (r : Nat → Nat → Nat) (x1 : Int32) (x2 : Int32) (H : Heap) (locs : List Loc) (ls : Array Slot), B2 F L r x1 x2 → Wd D A s (cT cI cL cF cM) (cW h cI cL cF cM F L r) H locs → lv_has ls 3 [(0, .ref (h 10)), (1, .int x1), (2, .int x2)] → W p l e rmX7_isTold s m args below meth c H locs 0 0 Q (F0 m 2 ls [])) {F : Nat → Nat → Int32} {L : Nat → Nat → Int64} {r : Nat → Nat → Nat} {x1 : Int32} {x2 : Int32} (hh : wpX7_isTold_b2_body B2 F L r x1 x2 K) {H : Heap} {locs : List Loc} {ls : Array Slot} (hw : Wd D A s (cT cI cL cF cM) (cW h cI cL cF cM F L r) H locs) (hl : lv_has ls 3 [(0, .ref (h 10)), (1, .int x1), (2, .int x2)]) : W p l e rmX7_isTold s m args below meth c H locs 0 0 Q (F0 m 2 ls []) := by
  unfold wpX7_isTold_b2_body at hh
  refine lv_iload_n C.1 C.2.1 dX7_isTold_2 rfl (lv_at hl 2 rfl) ?_
  refine lv_aload_n C.1 C.2.1 dX7_isTold_3 rfl (lv_at hl 0 rfl) ?_
  refine c_get C hw (inC inW7) (kd_lt kp10 (by decide)) (ce7 kp10) rfl 2 (by decide) (wc w_255) (v := .int (F 10 2)) rfl dX7_isTold_4 ?_
  refine lv_icmp_ge (tgt := 28) C.1 C.2.1 dX7_isTold_7 (by decide) (fun c7 => ?_) (fun c7 => ?_)
  · replace hh := hh.1 c7
    refine lv_iconst (v := (0 : Int32)) C.1 C.2.1 dX7_isTold_28 (by decide) ?_
    exact hR _ _ _ (F, L, r) _ _ dX7_isTold_29 rfl hh hw
  · replace hh := hh.2 c7
    refine lv_aload_n C.1 C.2.1 dX7_isTold_10 rfl (lv_at hl 0 rfl) ?_
    refine c_get C hw (inC inW7) (kd_lt kp10 (by decide)) (ce7 kp10) rfl 1 (by decide) (wc w_254) (v := .ref (h 11)) rfl dX7_isTold_11 ?_
    refine lv_iload_n C.1 C.2.1 dX7_isTold_14 rfl (lv_at hl 2 rfl) ?_
    obtain ⟨hi15, hh⟩ := hh
    refine c_ial C hw (kd_lt kp11 (by decide)) (ce15 kp11) hi15 dX7_isTold_15 ?_
    refine lv_iload_n C.1 C.2.1 dX7_isTold_16 rfl (lv_at hl 1 rfl) ?_
    refine lv_icmp_ne (tgt := 22) C.1 C.2.1 dX7_isTold_17 (by decide) (fun c17 => ?_) (fun c17 => ?_)
    · replace hh := hh.1 c17
      refine lv_iinc (v := x2 + (1 : Int32)) (lv' := [(2, .int (x2 + (1 : Int32))), (0, .ref (h 10)), (1, .int x1)]) C.1 C.2.1 dX7_isTold_22 hl (k := 2) rfl rfl (by decide) rfl (fun ls hl => ?_)
      refine lv_goto (tgt := 2) C.1 C.2.1 dX7_isTold_25 (by decide) ?_
      exact hB2 _ _ _ _ _ _ _ _ hh hw (lv_sub hl [1, 2, 0] rfl)
    · replace hh := hh.2 c17
      refine lv_iconst (v := (1 : Int32)) C.1 C.2.1 dX7_isTold_20 (by decide) ?_
      exact hR _ _ _ (F, L, r) _ _ dX7_isTold_21 rfl hh hw
theorem tX7_isTold_b2 {K : Int32 → cS → Prop} (C : CallFix p m c cX7_isTold 3 s args wsX7_isTold RX7) (hR : Rti .boolean p l e rmX7_isTold s m args below meth c cX7_isTold D A (cT cI cL cF cM) (cWu h cI cL cF cM) K Q) (n : Nat) : ∀ (F : Nat → Nat → Int32) (L : Nat → Nat → Int64) (r : Nat → Nat → Nat) (x1 : Int32) (x2 : Int32) (H : Heap) (locs : List Loc) (ls : Array Slot), wpX7_isTold_b2 n F L r x1 x2 K → Wd D A s (cT cI cL cF cM) (cW h cI cL cF cM F L r) H locs → lv_has ls 3 [(0, .ref (h 10)), (1, .int x1), (2, .int x2)] → W p l e rmX7_isTold s m args below meth c H locs 0 0 Q (F0 m 2 ls []) := by
  induction n with
  | zero => intro F L r x1 x2 H locs ls hh; exact hh.elim
  | succ n ih => intro F L r x1 x2 H locs ls hh hw hl; exact tX7_isTold_b2_body C hR ih hh hw hl
set_option maxHeartbeats 4000000 in
set_option maxRecDepth 100000 in
theorem tX7_isTold_b0 {K : Int32 → cS → Prop} (C : CallFix p m c cX7_isTold 3 s args wsX7_isTold RX7) (hR : Rti .boolean p l e rmX7_isTold s m args below meth c cX7_isTold D A (cT cI cL cF cM) (cWu h cI cL cF cM) K Q) {F : Nat → Nat → Int32} {L : Nat → Nat → Int64} {r : Nat → Nat → Nat} {x1 : Int32} (hh : wpX7_isTold_b0 F L r x1 K) {H : Heap} {locs : List Loc} {ls : Array Slot} (hw : Wd D A s (cT cI cL cF cM) (cW h cI cL cF cM F L r) H locs) (hl : lv_has ls 3 [(0, .ref (h 10)), (1, .int x1)]) : W p l e rmX7_isTold s m args below meth c H locs 0 0 Q (F0 m 0 ls []) := by
  unfold wpX7_isTold_b0 at hh
  refine lv_iconst (v := (0 : Int32)) C.1 C.2.1 dX7_isTold_0 (by decide) ?_
  refine lv_istore_n (lv' := [(2, .int (0 : Int32)), (0, .ref (h 10)), (1, .int x1)]) C.1 C.2.1 dX7_isTold_1 rfl hl (by decide) rfl (fun ls hl => ?_)
  obtain ⟨n, hh⟩ := hh
  exact tX7_isTold_b2 C hR n _ _ _ _ _ _ _ _ hh hw (lv_sub hl [1, 2, 0] rfl)
theorem ctX7_isTold (l : Launch) (D : va_G) (h : Nat → Nat) (cI cL cF cM : ClassId) (F : Nat → Nat → Int32) (L : Nat → Nat → Int64) (r : Nat → Nat → Nat) (x1 : Int32) {K : Int32 → cS → Prop} (hh : wpX7_isTold F L r x1 K) : Ci l yX7_isTold wsX7_isTold rmX7_isTold [.ref (h 10), .int x1] D (cT cI cL cF cM) (cWu h cI cL cF cM) (F, L, r) K := by
  refine Ci_of (cc := cX7_isTold) (maxL := 3) (by decide) rfl (Nat.le_of_ble_eq_true rfl) ?_
  intro p e s m below meth c A Q C hw hR ls hl
  exact tX7_isTold_b0 C hR hh hw hl
theorem cdX7_isTold : yX7_isTold.cls = RX7 ∧ yX7_isTold.cls ≠ "java/lang/invoke/MethodHandle" ∧ yX7_isTold.cls ≠ "java/lang/invoke/VarHandle" ∧ (parseMethodDescriptor yX7_isTold.desc).map (fun d => d.parameters.length) = some 1 := by decide +kernel
abbrev rmX6_addCount : Room := { frames := 0, cells := 0, slots := 0, locals := 0 }
set_option maxHeartbeats 4000000 in
set_option maxRecDepth 100000 in
theorem tX6_addCount_b54 {a0 : Nat} {K : cS → Prop} (C : CallFix p m c cX6_addCount 4 s args wsX6_addCount RX6) (hR : Rtv p l e rmX6_addCount s m args below meth c cX6_addCount D A (cT cI cL cF cM) (cWu h cI cL cF cM) K Q) (ha0 : kd a0 = 6) {F : Nat → Nat → Int32} {L : Nat → Nat → Int64} {r : Nat → Nat → Nat} (hh : wpX6_addCount_b54 a0 F L r K) {H : Heap} {locs : List Loc} {ls : Array Slot} (hw : Wd D A s (cT cI cL cF cM) (cW h cI cL cF cM F L r) H locs) (hl : lv_has ls 4 [(0, .ref (h a0))]) : W p l e rmX6_addCount s m args below meth c H locs 0 0 Q (F0 m 54 ls []) := by
  unfold wpX6_addCount_b54 at hh
  exact hR _ _ (F, L, r) _ _ dX6_addCount_54 hh hw
set_option maxHeartbeats 4000000 in
set_option maxRecDepth 100000 in
theorem tX6_addCount_b33 {a0 : Nat} {K : cS → Prop} (C : CallFix p m c cX6_addCount 4 s args wsX6_addCount RX6) (hR : Rtv p l e rmX6_addCount s m args below meth c cX6_addCount D A (cT cI cL cF cM) (cWu h cI cL cF cM) K Q) (ha0 : kd a0 = 6) {F : Nat → Nat → Int32} {L : Nat → Nat → Int64} {r : Nat → Nat → Nat} {x1 : Int32} {x2 : Int32} {x3 : Int32} (hh : wpX6_addCount_b33 a0 F L r x1 x2 x3 K) {H : Heap} {locs : List Loc} {ls : Array Slot} (hw : Wd D A s (cT cI cL cF cM) (cW h cI cL cF cM F L r) H locs) (hl : lv_has ls 4 [(0, .ref (h a0)), (1, .int x1), (2, .int x2), (3, .int x3)]) : W p l e rmX6_addCount s m args below meth c H locs 0 0 Q (F0 m 33 ls []) := by
  unfold wpX6_addCount_b33 at hh
  refine lv_iload_n C.1 C.2.1 dX6_addCount_33 rfl (lv_at hl 2 rfl) ?_
  refine lv_if_ne (tgt := 54) C.1 C.2.1 dX6_addCount_34 (by decide) (fun c34 => ?_) (fun c34 => ?_)
  · replace hh := hh.1 c34
    exact tX6_addCount_b54 C hR ha0 hh hw (lv_sub hl [0] rfl)
  · replace hh := hh.2 c34
    refine lv_iload_n C.1 C.2.1 dX6_addCount_37 rfl (lv_at hl 1 rfl) ?_
    refine lv_aload_n C.1 C.2.1 dX6_addCount_38 rfl (lv_at hl 0 rfl) ?_
    refine c_get C hw (inC inW6) (kd_lt ha0 (by decide)) (ce6 ha0) rfl 5 (by decide) (wc w_236) (v := .ref (h (a0 + 5))) rfl dX6_addCount_39 ?_
    refine lv_iload_n C.1 C.2.1 dX6_addCount_42 rfl (lv_at hl 3 rfl) ?_
    obtain ⟨hi43, hh⟩ := hh
    refine c_ial C hw (kd_lt (kd6_5 ha0) (by decide)) (ce20 (kd6_5 ha0)) hi43 dX6_addCount_43 ?_
    refine lv_icmp_le (tgt := 54) C.1 C.2.1 dX6_addCount_44 (by decide) (fun c44 => ?_) (fun c44 => ?_)
    · replace hh := hh.1 c44
      exact tX6_addCount_b54 C hR ha0 hh hw (lv_sub hl [0] rfl)
    · replace hh := hh.2 c44
      refine lv_aload_n C.1 C.2.1 dX6_addCount_47 rfl (lv_at hl 0 rfl) ?_
      refine c_get C hw (inC inW6) (kd_lt ha0 (by decide)) (ce6 ha0) rfl 5 (by decide) (wc w_236) (v := .ref (h (a0 + 5))) rfl dX6_addCount_48 ?_
      refine lv_iload_n C.1 C.2.1 dX6_addCount_51 rfl (lv_at hl 3 rfl) ?_
      refine lv_iload_n C.1 C.2.1 dX6_addCount_52 rfl (lv_at hl 1 rfl) ?_
      obtain ⟨hi53, hh⟩ := hh
      refine c_ias C hw (kd_lt (kd6_5 ha0) (by decide)) (ce20 (kd6_5 ha0)) hi53 dX6_addCount_53 (fun H locs hw => ?_)
      exact tX6_addCount_b54 C hR ha0 hh hw (lv_sub hl [0] rfl)
set_option maxHeartbeats 4000000 in
set_option maxRecDepth 100000 in
theorem tX6_addCount_b0 {a0 : Nat} {K : cS → Prop} (C : CallFix p m c cX6_addCount 4 s args wsX6_addCount RX6) (hR : Rtv p l e rmX6_addCount s m args below meth c cX6_addCount D A (cT cI cL cF cM) (cWu h cI cL cF cM) K Q) (ha0 : kd a0 = 6) {F : Nat → Nat → Int32} {L : Nat → Nat → Int64} {r : Nat → Nat → Nat} {x1 : Int32} {x2 : Int32} (hh : wpX6_addCount_b0 a0 F L r x1 x2 K) {H : Heap} {locs : List Loc} {ls : Array Slot} (hw : Wd D A s (cT cI cL cF cM) (cW h cI cL cF cM F L r) H locs) (hl : lv_has ls 4 [(0, .ref (h a0)), (1, .int x1), (2, .int x2)]) : W p l e rmX6_addCount s m args below meth c H locs 0 0 Q (F0 m 0 ls []) := by
  unfold wpX6_addCount_b0 at hh
  refine lv_aload_n C.1 C.2.1 dX6_addCount_0 rfl (lv_at hl 0 rfl) ?_
  refine c_get C hw (inC inW6) (kd_lt ha0 (by decide)) (ce6 ha0) rfl 0 (by decide) (wc w_227) (v := .int (F a0 0)) rfl dX6_addCount_1 ?_
  refine lv_iconst (v := (1 : Int32)) C.1 C.2.1 dX6_addCount_4 (by decide) ?_
  refine lv_isub C.1 C.2.1 dX6_addCount_5 ?_
  refine lv_istore_n (lv' := [(3, .int ((F a0 0) - (1 : Int32))), (0, .ref (h a0)), (1, .int x1), (2, .int x2)]) C.1 C.2.1 dX6_addCount_6 rfl hl (by decide) rfl (fun ls hl => ?_)
  refine lv_iload_n C.1 C.2.1 dX6_addCount_7 rfl (lv_at hl 0 rfl) ?_
  refine lv_if_ge (tgt := 12) C.1 C.2.1 dX6_addCount_8 (by decide) (fun c8 => ?_) (fun c8 => ?_)
  · replace hh := hh.1 c8
    refine lv_iload_n C.1 C.2.1 dX6_addCount_12 rfl (lv_at hl 3 rfl) ?_
    refine lv_if_eq (tgt := 33) C.1 C.2.1 dX6_addCount_13 (by decide) (fun c13 => ?_) (fun c13 => ?_)
    · replace hh := hh.1 c13
      exact tX6_addCount_b33 C hR ha0 hh hw (lv_sub hl [1, 2, 3, 0] rfl)
    · replace hh := hh.2 c13
      refine lv_iload_n C.1 C.2.1 dX6_addCount_16 rfl (lv_at hl 2 rfl) ?_
      refine lv_aload_n C.1 C.2.1 dX6_addCount_17 rfl (lv_at hl 1 rfl) ?_
      refine c_get C hw (inC inW6) (kd_lt ha0 (by decide)) (ce6 ha0) rfl 6 (by decide) (wc w_237) (v := .ref (h (a0 + 6))) rfl dX6_addCount_18 ?_
      refine lv_iload_n C.1 C.2.1 dX6_addCount_21 rfl (lv_at hl 0 rfl) ?_
      obtain ⟨hi22, hh⟩ := hh
      refine c_ial C hw (kd_lt (kd6_6 ha0) (by decide)) (ce20 (kd6_6 ha0)) hi22 dX6_addCount_22 ?_
      refine lv_icmp_ge (tgt := 33) C.1 C.2.1 dX6_addCount_23 (by decide) (fun c23 => ?_) (fun c23 => ?_)
      · replace hh := hh.1 c23
        exact tX6_addCount_b33 C hR ha0 hh hw (lv_sub hl [1, 2, 3, 0] rfl)
      · replace hh := hh.2 c23
        refine lv_aload_n C.1 C.2.1 dX6_addCount_26 rfl (lv_at hl 1 rfl) ?_
        refine c_get C hw (inC inW6) (kd_lt ha0 (by decide)) (ce6 ha0) rfl 6 (by decide) (wc w_237) (v := .ref (h (a0 + 6))) rfl dX6_addCount_27 ?_
        refine lv_iload_n C.1 C.2.1 dX6_addCount_30 rfl (lv_at hl 0 rfl) ?_
        refine lv_iload_n C.1 C.2.1 dX6_addCount_31 rfl (lv_at hl 2 rfl) ?_
        obtain ⟨hi32, hh⟩ := hh
        refine c_ias C hw (kd_lt (kd6_6 ha0) (by decide)) (ce20 (kd6_6 ha0)) hi32 dX6_addCount_32 (fun H locs hw => ?_)
        exact tX6_addCount_b33 C hR ha0 hh hw (lv_sub hl [1, 2, 3, 0] rfl)
  · replace hh := hh.2 c8
    exact hR _ _ (F, L, r) _ _ dX6_addCount_11 hh hw
theorem ctX6_addCount (l : Launch) (D : va_G) (h : Nat → Nat) (cI cL cF cM : ClassId) (a0 : Nat) (ha0 : kd a0 = 6) (F : Nat → Nat → Int32) (L : Nat → Nat → Int64) (r : Nat → Nat → Nat) (x1 : Int32) (x2 : Int32) {K : cS → Prop} (hh : wpX6_addCount a0 F L r x1 x2 K) : Cv l yX6_addCount wsX6_addCount rmX6_addCount [.ref (h a0), .int x1, .int x2] D (cT cI cL cF cM) (cWu h cI cL cF cM) (F, L, r) K := by
  refine Cv_of (cc := cX6_addCount) (maxL := 4) (by decide) rfl (Nat.le_of_ble_eq_true rfl) ?_
  intro p e s m below meth c A Q C hw hR ls hl
  exact tX6_addCount_b0 C hR ha0 hh hw hl
theorem cdX6_addCount : yX6_addCount.cls = RX6 ∧ yX6_addCount.cls ≠ "java/lang/invoke/MethodHandle" ∧ yX6_addCount.cls ≠ "java/lang/invoke/VarHandle" ∧ (parseMethodDescriptor yX6_addCount.desc).map (fun d => d.parameters.length) = some 2 := by decide +kernel
abbrev rmX7_signOf : Room := { frames := 0, cells := 0, slots := 0, locals := 0 }
set_option maxHeartbeats 4000000 in
set_option maxRecDepth 100000 in
theorem tX7_signOf_b0 {K : Int32 → Unit → Prop} (C : CallFix p m c cX7_signOf 2 s args wsX7_signOf RX7) (hR : Rti .int p l e rmX7_signOf s m args below meth c cX7_signOf D A [] (fun _ : Unit => []) K Q) {x0 : Int32} {x1 : Int32} (hh : wpX7_signOf_b0 x0 x1 K) {H : Heap} {locs : List Loc} {ls : Array Slot} (hw : Wd D A s [] [] H locs) (hl : lv_has ls 2 [(0, .int x0), (1, .int x1)]) : W p l e rmX7_signOf s m args below meth c H locs 0 0 Q (F0 m 0 ls []) := by
  unfold wpX7_signOf_b0 at hh
  refine lv_iload_n C.1 C.2.1 dX7_signOf_0 rfl (lv_at hl 0 rfl) ?_
  refine sw_in (x := x0) (lo := 3) (hi := 6) (fun hlo hhi => ?_) (fun ho => ?_)
  · have hv : (x0).toInt = 3 ∨ (x0).toInt = 4 ∨ (x0).toInt = 5 ∨ (x0).toInt = 6 := by omega
    rcases hv with hv | hv | hv | hv
    · replace hh := hh.1 (sw_eq hv (by decide))
      refine lv_tableIn (off := 31) (tgt := 32) C.1 C.2.1 dX7_signOf_1 hlo hhi (by rw [hv]; rfl) (by decide) ?_
      refine lv_bipush (v := (10 : Int32)) C.1 C.2.1 dX7_signOf_32 (by decide) ?_
      exact hR _ _ _ () _ _ dX7_signOf_34 rfl hh hw
    · replace hh := hh.2.1 (sw_eq hv (by decide))
      refine lv_tableIn (off := 34) (tgt := 35) C.1 C.2.1 dX7_signOf_1 hlo hhi (by rw [hv]; rfl) (by decide) ?_
      refine lv_bipush (v := (11 : Int32)) C.1 C.2.1 dX7_signOf_35 (by decide) ?_
      exact hR _ _ _ () _ _ dX7_signOf_37 rfl hh hw
    · replace hh := hh.2.2.1 (sw_eq hv (by decide))
      refine lv_tableIn (off := 37) (tgt := 38) C.1 C.2.1 dX7_signOf_1 hlo hhi (by rw [hv]; rfl) (by decide) ?_
      refine lv_bipush (v := (12 : Int32)) C.1 C.2.1 dX7_signOf_38 (by decide) ?_
      exact hR _ _ _ () _ _ dX7_signOf_40 rfl hh hw
    · replace hh := hh.2.2.2.1 (sw_eq hv (by decide))
      refine lv_tableIn (off := 40) (tgt := 41) C.1 C.2.1 dX7_signOf_1 hlo hhi (by rw [hv]; rfl) (by decide) ?_
      refine lv_bipush (v := (13 : Int32)) C.1 C.2.1 dX7_signOf_41 (by decide) ?_
      refine lv_iload_n C.1 C.2.1 dX7_signOf_43 rfl (lv_at hl 1 rfl) ?_
      refine lv_iadd C.1 C.2.1 dX7_signOf_44 ?_
      exact hR _ _ _ () _ _ dX7_signOf_45 rfl hh hw
  · replace hh := hh.2.2.2.2 ho
    refine lv_tableOut (tgt := 46) C.1 C.2.1 dX7_signOf_1 ho (by decide) ?_
    refine lv_iload_n C.1 C.2.1 dX7_signOf_46 rfl (lv_at hl 1 rfl) ?_
    exact hR _ _ _ () _ _ dX7_signOf_47 rfl hh hw
theorem ctX7_signOf (l : Launch) (D : va_G) (x0 : Int32) (x1 : Int32) {K : Int32 → Unit → Prop} (hh : wpX7_signOf x0 x1 K) : Ci l yX7_signOf wsX7_signOf rmX7_signOf [.int x0, .int x1] D [] (fun _ : Unit => []) () K := by
  refine Ci_of (cc := cX7_signOf) (maxL := 2) (by decide) rfl (Nat.le_of_ble_eq_true rfl) ?_
  intro p e s m below meth c A Q C hw hR ls hl
  exact tX7_signOf_b0 C hR hh hw hl
theorem cdX7_signOf : yX7_signOf.cls ≠ "java/lang/invoke/MethodHandle" ∧ yX7_signOf.cls ≠ "java/lang/invoke/VarHandle" ∧ (parseMethodDescriptor yX7_signOf.desc).map (fun d => d.parameters.length) = some 2 := by decide +kernel
abbrev rmX6_addSign : Room := { frames := 0, cells := 0, slots := 0, locals := 0 }
set_option maxHeartbeats 4000000 in
set_option maxRecDepth 100000 in
theorem tX6_addSign_b40 {a0 : Nat} {K : cS → Prop} (C : CallFix p m c cX6_addSign 4 s args wsX6_addSign RX6) (hR : Rtv p l e rmX6_addSign s m args below meth c cX6_addSign D A (cT cI cL cF cM) (cWu h cI cL cF cM) K Q) (ha0 : kd a0 = 6) {F : Nat → Nat → Int32} {L : Nat → Nat → Int64} {r : Nat → Nat → Nat} (hh : wpX6_addSign_b40 a0 F L r K) {H : Heap} {locs : List Loc} {ls : Array Slot} (hw : Wd D A s (cT cI cL cF cM) (cW h cI cL cF cM F L r) H locs) (hl : lv_has ls 4 [(0, .ref (h a0))]) : W p l e rmX6_addSign s m args below meth c H locs 0 0 Q (F0 m 40 ls []) := by
  unfold wpX6_addSign_b40 at hh
  exact hR _ _ (F, L, r) _ _ dX6_addSign_40 hh hw
set_option maxHeartbeats 4000000 in
set_option maxRecDepth 100000 in
theorem tX6_addSign_b0 {a0 : Nat} {K : cS → Prop} (C : CallFix p m c cX6_addSign 4 s args wsX6_addSign RX6) (hR : Rtv p l e rmX6_addSign s m args below meth c cX6_addSign D A (cT cI cL cF cM) (cWu h cI cL cF cM) K Q) (ha0 : kd a0 = 6) {F : Nat → Nat → Int32} {L : Nat → Nat → Int64} {r : Nat → Nat → Nat} {x1 : Int32} {x2 : Int32} (hh : wpX6_addSign_b0 a0 F L r x1 x2 K) {H : Heap} {locs : List Loc} {ls : Array Slot} (hw : Wd D A s (cT cI cL cF cM) (cW h cI cL cF cM F L r) H locs) (hl : lv_has ls 4 [(0, .ref (h a0)), (1, .int x1), (2, .int x2)]) : W p l e rmX6_addSign s m args below meth c H locs 0 0 Q (F0 m 0 ls []) := by
  unfold wpX6_addSign_b0 at hh
  refine lv_aload_n C.1 C.2.1 dX6_addSign_0 rfl (lv_at hl 0 rfl) ?_
  refine c_get C hw (inC inW6) (kd_lt ha0 (by decide)) (ce6 ha0) rfl 0 (by decide) (wc w_227) (v := .int (F a0 0)) rfl dX6_addSign_1 ?_
  refine lv_iconst (v := (1 : Int32)) C.1 C.2.1 dX6_addSign_4 (by decide) ?_
  refine lv_isub C.1 C.2.1 dX6_addSign_5 ?_
  refine lv_istore_n (lv' := [(3, .int ((F a0 0) - (1 : Int32))), (0, .ref (h a0)), (1, .int x1), (2, .int x2)]) C.1 C.2.1 dX6_addSign_6 rfl hl (by decide) rfl (fun ls hl => ?_)
  refine lv_iload_n C.1 C.2.1 dX6_addSign_7 rfl (lv_at hl 0 rfl) ?_
  refine lv_if_ge (tgt := 12) C.1 C.2.1 dX6_addSign_8 (by decide) (fun c8 => ?_) (fun c8 => ?_)
  · replace hh := hh.1 c8
    refine lv_aload_n C.1 C.2.1 dX6_addSign_12 rfl (lv_at hl 1 rfl) ?_
    refine c_get C hw (inC inW6) (kd_lt ha0 (by decide)) (ce6 ha0) rfl 3 (by decide) (wc w_234) (v := .ref (h (a0 + 3))) rfl dX6_addSign_13 ?_
    refine lv_iload_n C.1 C.2.1 dX6_addSign_16 rfl (lv_at hl 0 rfl) ?_
    refine lv_dup2_11 C.1 C.2.1 dX6_addSign_17 rfl rfl ?_
    obtain ⟨hi18, hh⟩ := hh
    refine c_ial C hw (kd_lt (kd6_3 ha0) (by decide)) (ce20 (kd6_3 ha0)) hi18 dX6_addSign_18 ?_
    refine lv_iconst (v := (1 : Int32)) C.1 C.2.1 dX6_addSign_19 (by decide) ?_
    refine lv_iload_n C.1 C.2.1 dX6_addSign_20 rfl (lv_at hl 2 rfl) ?_
    refine g_ishl C dX6_addSign_21 ?_
    refine lv_ior C.1 C.2.1 dX6_addSign_22 ?_
    obtain ⟨hi23, hh⟩ := hh
    refine c_ias C hw (kd_lt (kd6_3 ha0) (by decide)) (ce20 (kd6_3 ha0)) hi23 dX6_addSign_23 (fun H locs hw => ?_)
    refine lv_iload_n C.1 C.2.1 dX6_addSign_24 rfl (lv_at hl 3 rfl) ?_
    refine lv_if_ne (tgt := 40) C.1 C.2.1 dX6_addSign_25 (by decide) (fun c25 => ?_) (fun c25 => ?_)
    · replace hh := hh.1 c25
      exact tX6_addSign_b40 C hR ha0 hh hw (lv_sub hl [1] rfl)
    · replace hh := hh.2 c25
      refine lv_aload_n C.1 C.2.1 dX6_addSign_28 rfl (lv_at hl 1 rfl) ?_
      refine c_get C hw (inC inW6) (kd_lt ha0 (by decide)) (ce6 ha0) rfl 4 (by decide) (wc w_235) (v := .ref (h (a0 + 4))) rfl dX6_addSign_29 ?_
      refine lv_iload_n C.1 C.2.1 dX6_addSign_32 rfl (lv_at hl 0 rfl) ?_
      refine lv_dup2_11 C.1 C.2.1 dX6_addSign_33 rfl rfl ?_
      obtain ⟨hi34, hh⟩ := hh
      refine c_ial C hw (kd_lt (kd6_4 ha0) (by decide)) (ce20 (kd6_4 ha0)) hi34 dX6_addSign_34 ?_
      refine lv_iconst (v := (1 : Int32)) C.1 C.2.1 dX6_addSign_35 (by decide) ?_
      refine lv_iload_n C.1 C.2.1 dX6_addSign_36 rfl (lv_at hl 2 rfl) ?_
      refine g_ishl C dX6_addSign_37 ?_
      refine lv_ior C.1 C.2.1 dX6_addSign_38 ?_
      obtain ⟨hi39, hh⟩ := hh
      refine c_ias C hw (kd_lt (kd6_4 ha0) (by decide)) (ce20 (kd6_4 ha0)) hi39 dX6_addSign_39 (fun H locs hw => ?_)
      exact tX6_addSign_b40 C hR ha0 hh hw (lv_sub hl [1] rfl)
  · replace hh := hh.2 c8
    exact hR _ _ (F, L, r) _ _ dX6_addSign_11 hh hw
theorem ctX6_addSign (l : Launch) (D : va_G) (h : Nat → Nat) (cI cL cF cM : ClassId) (a0 : Nat) (ha0 : kd a0 = 6) (F : Nat → Nat → Int32) (L : Nat → Nat → Int64) (r : Nat → Nat → Nat) (x1 : Int32) (x2 : Int32) {K : cS → Prop} (hh : wpX6_addSign a0 F L r x1 x2 K) : Cv l yX6_addSign wsX6_addSign rmX6_addSign [.ref (h a0), .int x1, .int x2] D (cT cI cL cF cM) (cWu h cI cL cF cM) (F, L, r) K := by
  refine Cv_of (cc := cX6_addSign) (maxL := 4) (by decide) rfl (Nat.le_of_ble_eq_true rfl) ?_
  intro p e s m below meth c A Q C hw hR ls hl
  exact tX6_addSign_b0 C hR ha0 hh hw hl
theorem cdX6_addSign : yX6_addSign.cls = RX6 ∧ yX6_addSign.cls ≠ "java/lang/invoke/MethodHandle" ∧ yX6_addSign.cls ≠ "java/lang/invoke/VarHandle" ∧ (parseMethodDescriptor yX6_addSign.desc).map (fun d => d.parameters.length) = some 2 := by decide +kernel
abbrev rmX7_takeTest : Room := { frames := 1, cells := 0, slots := 0, locals := 23 }
set_option maxHeartbeats 4000000 in
set_option maxRecDepth 100000 in
theorem tX7_takeTest_b81 {K : cS → Prop} (C : CallFix p m c cX7_takeTest 6 s args wsX7_takeTest RX7) (hR : Rtv p l e rmX7_takeTest s m args below meth c cX7_takeTest D A (cT cI cL cF cM) (cWu h cI cL cF cM) K Q) {F : Nat → Nat → Int32} {L : Nat → Nat → Int64} {r : Nat → Nat → Nat} (hh : wpX7_takeTest_b81 F L r K) {H : Heap} {locs : List Loc} {ls : Array Slot} (hw : Wd D A s (cT cI cL cF cM) (cW h cI cL cF cM F L r) H locs) (hl : lv_has ls 6 [(0, .ref (h 10))]) : W p l e rmX7_takeTest s m args below meth c H locs 0 0 Q (F0 m 81 ls []) := by
  unfold wpX7_takeTest_b81 at hh
  exact hR _ _ (F, L, r) _ _ dX7_takeTest_81 hh hw
set_option maxHeartbeats 4000000 in
set_option maxRecDepth 100000 in
theorem tX7_takeTest_b0 {K : cS → Prop} (C : CallFix p m c cX7_takeTest 6 s args wsX7_takeTest RX7) (hR : Rtv p l e rmX7_takeTest s m args below meth c cX7_takeTest D A (cT cI cL cF cM) (cWu h cI cL cF cM) K Q) {F : Nat → Nat → Int32} {L : Nat → Nat → Int64} {r : Nat → Nat → Nat} {x1 : Int32} {x2 : Int32} {x3 : Int32} {x4 : Int32} (hh : wpX7_takeTest_b0 F L r x1 x2 x3 x4 K) {H : Heap} {locs : List Loc} {ls : Array Slot} (hw : Wd D A s (cT cI cL cF cM) (cW h cI cL cF cM F L r) H locs) (hl : lv_has ls 6 [(0, .ref (h 10)), (1, .int x1), (2, .int x2), (3, .int x3), (4, .int x4)]) : W p l e rmX7_takeTest s m args below meth c H locs 0 0 Q (F0 m 0 ls []) := by
  unfold wpX7_takeTest_b0 at hh
  refine lv_iload_n C.1 C.2.1 dX7_takeTest_0 rfl (lv_at hl 1 rfl) ?_
  refine lv_sipush (v := (128 : Int32)) C.1 C.2.1 dX7_takeTest_1 (by decide) ?_
  refine lv_imul C.1 C.2.1 dX7_takeTest_4 ?_
  refine lv_iload_n C.1 C.2.1 dX7_takeTest_5 rfl (lv_at hl 2 rfl) ?_
  refine lv_iadd C.1 C.2.1 dX7_takeTest_6 ?_
  refine lv_istore (lv' := [(5, .int ((x1 * (128 : Int32)) + x2)), (0, .ref (h 10)), (1, .int x1), (2, .int x2), (3, .int x3), (4, .int x4)]) C.1 C.2.1 dX7_takeTest_7 hl (by decide) rfl (fun ls hl => ?_)
  refine lv_aload_n C.1 C.2.1 dX7_takeTest_9 rfl (lv_at hl 1 rfl) ?_
  refine lv_iload C.1 C.2.1 dX7_takeTest_10 (lv_at hl 0 rfl) ?_
  refine c_Vi C hw (ctX7_isTold l D h cI cL cF cM F L r ((x1 * (128 : Int32)) + x2) hh) (cwV 1 C.2.2.2.2 (gd_V w_766 w_768 w_11 w_116 w_769) rfl rfl rfl cdX7_isTold ⟨Nat.le_of_ble_eq_true rfl, Nat.le_of_ble_eq_true rfl⟩) rfl (kd_lt kp10 (by decide)) (ce7 kp10) rfl hl.1 (Nat.le_of_ble_eq_true rfl) dX7_takeTest_12 ⟨Nat.zero_le _, Nat.zero_le _⟩ (fun r12 u12 H locs hh hw => ?_) rfl
  refine lv_if_eq (tgt := 29) C.1 C.2.1 dX7_takeTest_15 (by decide) (fun c15 => ?_) (fun c15 => ?_)
  · replace hh := hh.1 c15
    refine lv_aload_n C.1 C.2.1 dX7_takeTest_29 rfl (lv_at hl 1 rfl) ?_
    refine c_get C hw (inC inW7) (kd_lt kp10 (by decide)) (ce7 kp10) rfl 1 (by decide) (wc w_254) (v := .ref (h 11)) rfl dX7_takeTest_30 ?_
    refine lv_aload_n C.1 C.2.1 dX7_takeTest_33 rfl (lv_at hl 1 rfl) ?_
    refine c_get C hw (inC inW7) (kd_lt kp10 (by decide)) (ce7 kp10) rfl 2 (by decide) (wc w_255) (v := .int (u12.1 10 2)) rfl dX7_takeTest_34 ?_
    refine lv_iload C.1 C.2.1 dX7_takeTest_37 (lv_at hl 0 rfl) ?_
    obtain ⟨hi39, hh⟩ := hh
    refine c_ias C hw (kd_lt kp11 (by decide)) (ce15 kp11) hi39 dX7_takeTest_39 (fun H locs hw => ?_)
    refine lv_aload_n C.1 C.2.1 dX7_takeTest_40 rfl (lv_at hl 1 rfl) ?_
    refine lv_dup C.1 C.2.1 dX7_takeTest_41 rfl ?_
    refine c_get C hw (inC inW7) (kd_lt kp10 (by decide)) (ce7 kp10) rfl 2 (by decide) (wc w_255) (v := .int ((pt u12.1 11 (ix (u12.1 10 2)) ((x1 * (128 : Int32)) + x2)) 10 2)) rfl dX7_takeTest_42 ?_
    refine lv_iconst (v := (1 : Int32)) C.1 C.2.1 dX7_takeTest_45 (by decide) ?_
    refine lv_iadd C.1 C.2.1 dX7_takeTest_46 ?_
    refine c_puti C hw (inC inW7) tyX7 tyX7_ok nmX7 (kd_lt kp10 (by decide)) (ce7 kp10) rfl 2 (by decide) (wc w_255) rfl (ty := .int) (by decide +kernel) rfl rfl (Nat.le_of_ble_eq_true rfl) rfl dX7_takeTest_47 (fun H locs hw => ?_)
    refine lv_iload_n C.1 C.2.1 dX7_takeTest_50 rfl (lv_at hl 2 rfl) ?_
    refine lv_bipush (v := (7 : Int32)) C.1 C.2.1 dX7_takeTest_51 (by decide) ?_
    refine lv_icmp_ne (tgt := 68) C.1 C.2.1 dX7_takeTest_53 (by decide) (fun c53 => ?_) (fun c53 => ?_)
    · replace hh := hh.1 c53
      refine lv_aload_n C.1 C.2.1 dX7_takeTest_68 rfl (lv_at hl 1 rfl) ?_
      refine c_get C hw (inC inW7) (kd_lt kp10 (by decide)) (ce7 kp10) rfl 3 (by decide) (wc w_256) (v := .ref (h (u12.2.2 10 3))) rfl dX7_takeTest_69 ?_
      refine lv_iload_n C.1 C.2.1 dX7_takeTest_72 rfl (lv_at hl 2 rfl) ?_
      refine lv_iload_n C.1 C.2.1 dX7_takeTest_73 rfl (lv_at hl 3 rfl) ?_
      refine wd_Si C hw (ctX7_signOf l D x1 x2 hh) (va_cwS 2 C.2.2.2.2 (gd_S w_774 w_775 (ini_cls rfl w_116) w_776) rfl rfl rfl cdX7_signOf ⟨Nat.le_of_ble_eq_true rfl, Nat.le_of_ble_eq_true rfl⟩) rfl hl.1 (Nat.le_of_ble_eq_true rfl) dX7_takeTest_74 ⟨Nat.zero_le _, Nat.zero_le _⟩ (fun r74 H locs hh hw => ?_) rfl
      refine lv_iload_n C.1 C.2.1 dX7_takeTest_77 rfl (lv_at hl 4 rfl) ?_
      obtain ⟨hk0, hh⟩ := hh
      refine c_Vv C hw (ctX6_addSign l D h cI cL cF cM (u12.2.2 10 3) hk0 (pt (pt u12.1 11 (ix (u12.1 10 2)) ((x1 * (128 : Int32)) + x2)) 10 2 (((pt u12.1 11 (ix (u12.1 10 2)) ((x1 * (128 : Int32)) + x2)) 10 2) + (1 : Int32))) u12.2.1 u12.2.2 r74 x3 hh) (cwV 2 C.2.2.2.2 (gd_V w_777 w_778 w_779 w_117 w_780) rfl rfl rfl cdX6_addSign ⟨Nat.le_of_ble_eq_true rfl, Nat.le_of_ble_eq_true rfl⟩) rfl (kd_lt hk0 (by decide)) (ce6 hk0) rfl hl.1 (Nat.le_of_ble_eq_true rfl) dX7_takeTest_78 ⟨Nat.zero_le _, Nat.zero_le _⟩ (fun u78 H locs hh hw => ?_) rfl
      exact tX7_takeTest_b81 C hR hh hw (lv_sub hl [1] rfl)
    · replace hh := hh.2 c53
      refine lv_aload_n C.1 C.2.1 dX7_takeTest_56 rfl (lv_at hl 1 rfl) ?_
      refine c_get C hw (inC inW7) (kd_lt kp10 (by decide)) (ce7 kp10) rfl 3 (by decide) (wc w_256) (v := .ref (h (u12.2.2 10 3))) rfl dX7_takeTest_57 ?_
      refine lv_iload_n C.1 C.2.1 dX7_takeTest_60 rfl (lv_at hl 3 rfl) ?_
      refine lv_iload_n C.1 C.2.1 dX7_takeTest_61 rfl (lv_at hl 4 rfl) ?_
      obtain ⟨hk1, hh⟩ := hh
      refine c_Vv C hw (ctX6_addCount l D h cI cL cF cM (u12.2.2 10 3) hk1 (pt (pt u12.1 11 (ix (u12.1 10 2)) ((x1 * (128 : Int32)) + x2)) 10 2 (((pt u12.1 11 (ix (u12.1 10 2)) ((x1 * (128 : Int32)) + x2)) 10 2) + (1 : Int32))) u12.2.1 u12.2.2 x2 x3 hh) (cwV 2 C.2.2.2.2 (gd_V w_770 w_771 w_772 w_117 w_773) rfl rfl rfl cdX6_addCount ⟨Nat.le_of_ble_eq_true rfl, Nat.le_of_ble_eq_true rfl⟩) rfl (kd_lt hk1 (by decide)) (ce6 hk1) rfl hl.1 (Nat.le_of_ble_eq_true rfl) dX7_takeTest_62 ⟨Nat.zero_le _, Nat.zero_le _⟩ (fun u62 H locs hh hw => ?_) rfl
      refine lv_goto (tgt := 81) C.1 C.2.1 dX7_takeTest_65 (by decide) ?_
      exact tX7_takeTest_b81 C hR hh hw (lv_sub hl [1] rfl)
  · replace hh := hh.2 c15
    refine lv_aload_n C.1 C.2.1 dX7_takeTest_18 rfl (lv_at hl 1 rfl) ?_
    refine c_get C hw (inC inW7) (kd_lt kp10 (by decide)) (ce7 kp10) rfl 0 (by decide) (wc w_253) (v := .ref (h 4)) rfl dX7_takeTest_19 ?_
    refine lv_iconst (v := (3 : Int32)) C.1 C.2.1 dX7_takeTest_22 (by decide) ?_
    refine lv_iload C.1 C.2.1 dX7_takeTest_23 (lv_at hl 5 rfl) ?_
    refine c_Vv C hw (ctX9_refuse l D h cI cL cF cM u12.1 u12.2.1 u12.2.2 (3 : Int32) x4 hh) (cwV 2 C.2.2.2.2 (gd_V w_735 w_736 w_737 w_115 w_738) rfl rfl rfl cdX9_refuse ⟨Nat.le_of_ble_eq_true rfl, Nat.le_of_ble_eq_true rfl⟩) rfl (kd_lt kp4 (by decide)) (ce9 kp4) rfl hl.1 (Nat.le_of_ble_eq_true rfl) dX7_takeTest_25 ⟨Nat.zero_le _, Nat.zero_le _⟩ (fun u25 H locs hh hw => ?_) rfl
    exact hR _ _ (u25.1, u25.2.1, u25.2.2) _ _ dX7_takeTest_28 hh hw
theorem ctX7_takeTest (l : Launch) (D : va_G) (h : Nat → Nat) (cI cL cF cM : ClassId) (F : Nat → Nat → Int32) (L : Nat → Nat → Int64) (r : Nat → Nat → Nat) (x1 : Int32) (x2 : Int32) (x3 : Int32) (x4 : Int32) {K : cS → Prop} (hh : wpX7_takeTest F L r x1 x2 x3 x4 K) : Cv l yX7_takeTest wsX7_takeTest rmX7_takeTest [.ref (h 10), .int x1, .int x2, .int x3, .int x4] D (cT cI cL cF cM) (cWu h cI cL cF cM) (F, L, r) K := by
  refine Cv_of (cc := cX7_takeTest) (maxL := 6) (by decide) rfl (Nat.le_of_ble_eq_true rfl) ?_
  intro p e s m below meth c A Q C hw hR ls hl
  exact tX7_takeTest_b0 C hR hh hw hl
theorem cdX7_takeTest : yX7_takeTest.cls = RX7 ∧ yX7_takeTest.cls ≠ "java/lang/invoke/MethodHandle" ∧ yX7_takeTest.cls ≠ "java/lang/invoke/VarHandle" ∧ (parseMethodDescriptor yX7_takeTest.desc).map (fun d => d.parameters.length) = some 4 := by decide +kernel
abbrev rmX7_readTest : Room := { frames := 2, cells := 0, slots := 0, locals := 48 }
set_option maxHeartbeats 4000000 in
set_option maxRecDepth 100000 in
theorem tX7_readTest_b151 {K : cS → Prop} (C : CallFix p m c cX7_readTest 5 s args wsX7_readTest RX7) (hR : Rtv p l e rmX7_readTest s m args below meth c cX7_readTest D A (cT cI cL cF cM) (cWu h cI cL cF cM) K Q) {F : Nat → Nat → Int32} {L : Nat → Nat → Int64} {r : Nat → Nat → Nat} (hh : wpX7_readTest_b151 F L r K) {H : Heap} {locs : List Loc} {ls : Array Slot} (hw : Wd D A s (cT cI cL cF cM) (cW h cI cL cF cM F L r) H locs) (hl : lv_has ls 5 [(0, .ref (h 10))]) : W p l e rmX7_readTest s m args below meth c H locs 0 0 Q (F0 m 151 ls []) := by
  unfold wpX7_readTest_b151 at hh
  exact hR _ _ (F, L, r) _ _ dX7_readTest_151 hh hw
set_option maxHeartbeats 4000000 in
set_option maxRecDepth 100000 in
theorem tX7_readTest_b86 {K : cS → Prop} (C : CallFix p m c cX7_readTest 5 s args wsX7_readTest RX7) (hR : Rtv p l e rmX7_readTest s m args below meth c cX7_readTest D A (cT cI cL cF cM) (cWu h cI cL cF cM) K Q) {F : Nat → Nat → Int32} {L : Nat → Nat → Int64} {r : Nat → Nat → Nat} {x1 : Int32} (hh : wpX7_readTest_b86 F L r x1 K) {H : Heap} {locs : List Loc} {ls : Array Slot} (hw : Wd D A s (cT cI cL cF cM) (cW h cI cL cF cM F L r) H locs) (hl : lv_has ls 5 [(0, .ref (h 10)), (1, .int x1)]) : W p l e rmX7_readTest s m args below meth c H locs 0 0 Q (F0 m 86 ls []) := by
  unfold wpX7_readTest_b86 at hh
  refine lv_aload_n C.1 C.2.1 dX7_readTest_86 rfl (lv_at hl 0 rfl) ?_
  refine c_get C hw (inC inW7) (kd_lt kp10 (by decide)) (ce7 kp10) rfl 0 (by decide) (wc w_253) (v := .ref (h 4)) rfl dX7_readTest_87 ?_
  refine c_get C hw (inC inW9) (kd_lt kp4 (by decide)) (ce9 kp4) rfl 6 (by decide) (wc w_170) (v := .int (F 4 6)) rfl dX7_readTest_90 ?_
  refine lv_istore_n (lv' := [(2, .int (F 4 6)), (0, .ref (h 10)), (1, .int x1)]) C.1 C.2.1 dX7_readTest_93 rfl hl (by decide) rfl (fun ls hl => ?_)
  refine lv_aload_n C.1 C.2.1 dX7_readTest_94 rfl (lv_at hl 1 rfl) ?_
  refine c_get C hw (inC inW7) (kd_lt kp10 (by decide)) (ce7 kp10) rfl 0 (by decide) (wc w_253) (v := .ref (h 4)) rfl dX7_readTest_95 ?_
  refine c_get C hw (inC inW9) (kd_lt kp4 (by decide)) (ce9 kp4) rfl 4 (by decide) (wc w_163) (v := .int (F 4 4)) rfl dX7_readTest_98 ?_
  refine lv_istore_n (lv' := [(3, .int (F 4 4)), (2, .int (F 4 6)), (0, .ref (h 10)), (1, .int x1)]) C.1 C.2.1 dX7_readTest_101 rfl hl (by decide) rfl (fun ls hl => ?_)
  refine lv_iload_n C.1 C.2.1 dX7_readTest_102 rfl (lv_at hl 1 rfl) ?_
  refine wd_Si C hw (ctX7_isTest l D (F 4 6) hh) (va_cwS 1 C.2.2.2.2 (gd_S w_752 w_753 (ini_cls rfl w_116) w_754) rfl rfl rfl cdX7_isTest ⟨Nat.le_of_ble_eq_true rfl, Nat.le_of_ble_eq_true rfl⟩) rfl hl.1 (Nat.le_of_ble_eq_true rfl) dX7_readTest_103 ⟨Nat.zero_le _, Nat.zero_le _⟩ (fun r103 H locs hh hw => ?_) rfl
  refine lv_if_ne (tgt := 125) C.1 C.2.1 dX7_readTest_106 (by decide) (fun c106 => ?_) (fun c106 => ?_)
  · replace hh := hh.1 c106
    refine lv_aload_n C.1 C.2.1 dX7_readTest_125 rfl (lv_at hl 2 rfl) ?_
    refine lv_iload_n C.1 C.2.1 dX7_readTest_126 rfl (lv_at hl 1 rfl) ?_
    refine c_Vi C hw (ctX7_readNumberOf l D h cI cL cF cM F L r (F 4 6) hh) (cwV 1 C.2.2.2.2 (gd_V w_755 w_757 w_9 w_116 w_758) rfl rfl rfl cdX7_readNumberOf ⟨Nat.le_of_ble_eq_true rfl, Nat.le_of_ble_eq_true rfl⟩) rfl (kd_lt kp10 (by decide)) (ce7 kp10) rfl hl.1 (Nat.le_of_ble_eq_true rfl) dX7_readTest_127 ⟨Nat.zero_le _, Nat.zero_le _⟩ (fun r127 u127 H locs hh hw => ?_) rfl
    refine lv_istore (lv' := [(4, .int r127), (3, .int (F 4 4)), (2, .int (F 4 6)), (0, .ref (h 10)), (1, .int x1)]) C.1 C.2.1 dX7_readTest_130 hl (by decide) rfl (fun ls hl => ?_)
    refine lv_aload_n C.1 C.2.1 dX7_readTest_132 rfl (lv_at hl 3 rfl) ?_
    refine c_get C hw (inC inW7) (kd_lt kp10 (by decide)) (ce7 kp10) rfl 0 (by decide) (wc w_253) (v := .ref (h 4)) rfl dX7_readTest_133 ?_
    refine c_get C hw (inC inW9) (kd_lt kp4 (by decide)) (ce9 kp4) rfl 1 (by decide) (wc w_154) (v := .int (u127.1 4 1)) rfl dX7_readTest_136 ?_
    refine lv_if_ne (tgt := 151) C.1 C.2.1 dX7_readTest_139 (by decide) (fun c139 => ?_) (fun c139 => ?_)
    · replace hh := hh.1 c139
      exact tX7_readTest_b151 C hR hh hw (lv_sub hl [3] rfl)
    · replace hh := hh.2 c139
      refine lv_aload_n C.1 C.2.1 dX7_readTest_142 rfl (lv_at hl 3 rfl) ?_
      refine lv_iload_n C.1 C.2.1 dX7_readTest_143 rfl (lv_at hl 2 rfl) ?_
      refine lv_iload C.1 C.2.1 dX7_readTest_144 (lv_at hl 0 rfl) ?_
      refine lv_iload_n C.1 C.2.1 dX7_readTest_146 rfl (lv_at hl 4 rfl) ?_
      refine lv_iload_n C.1 C.2.1 dX7_readTest_147 rfl (lv_at hl 1 rfl) ?_
      refine c_Vv C hw (ctX7_takeTest l D h cI cL cF cM u127.1 u127.2.1 u127.2.2 (F 4 6) r127 x1 (F 4 4) hh) (cwV 4 C.2.2.2.2 (gd_V w_762 w_764 w_10 w_116 w_765) rfl rfl rfl cdX7_takeTest ⟨Nat.le_of_ble_eq_true rfl, Nat.le_of_ble_eq_true rfl⟩) rfl (kd_lt kp10 (by decide)) (ce7 kp10) rfl hl.1 (Nat.le_of_ble_eq_true rfl) dX7_readTest_148 ⟨Nat.zero_le _, Nat.zero_le _⟩ (fun u148 H locs hh hw => ?_) rfl
      exact tX7_readTest_b151 C hR hh hw (lv_sub hl [3] rfl)
  · replace hh := hh.2 c106
    refine lv_aload_n C.1 C.2.1 dX7_readTest_109 rfl (lv_at hl 2 rfl) ?_
    refine c_get C hw (inC inW7) (kd_lt kp10 (by decide)) (ce7 kp10) rfl 0 (by decide) (wc w_253) (v := .ref (h 4)) rfl dX7_readTest_110 ?_
    refine lv_iconst (v := (1 : Int32)) C.1 C.2.1 dX7_readTest_113 (by decide) ?_
    refine lv_aload_n C.1 C.2.1 dX7_readTest_114 rfl (lv_at hl 2 rfl) ?_
    refine c_get C hw (inC inW7) (kd_lt kp10 (by decide)) (ce7 kp10) rfl 0 (by decide) (wc w_253) (v := .ref (h 4)) rfl dX7_readTest_115 ?_
    refine c_get C hw (inC inW9) (kd_lt kp4 (by decide)) (ce9 kp4) rfl 4 (by decide) (wc w_163) (v := .int (F 4 4)) rfl dX7_readTest_118 ?_
    refine c_Vv C hw (ctX9_refuse l D h cI cL cF cM F L r (1 : Int32) (F 4 4) hh) (cwV 2 C.2.2.2.2 (gd_V w_735 w_736 w_737 w_115 w_738) rfl rfl rfl cdX9_refuse ⟨Nat.le_of_ble_eq_true rfl, Nat.le_of_ble_eq_true rfl⟩) rfl (kd_lt kp4 (by decide)) (ce9 kp4) rfl hl.1 (Nat.le_of_ble_eq_true rfl) dX7_readTest_121 ⟨Nat.zero_le _, Nat.zero_le _⟩ (fun u121 H locs hh hw => ?_) rfl
    exact hR _ _ (u121.1, u121.2.1, u121.2.2) _ _ dX7_readTest_124 hh hw
set_option maxHeartbeats 4000000 in
set_option maxRecDepth 100000 in
theorem tX7_readTest_b50 {K : cS → Prop} (C : CallFix p m c cX7_readTest 5 s args wsX7_readTest RX7) (hR : Rtv p l e rmX7_readTest s m args below meth c cX7_readTest D A (cT cI cL cF cM) (cWu h cI cL cF cM) K Q) {F : Nat → Nat → Int32} {L : Nat → Nat → Int64} {r : Nat → Nat → Nat} {x1 : Int32} (hh : wpX7_readTest_b50 F L r x1 K) {H : Heap} {locs : List Loc} {ls : Array Slot} (hw : Wd D A s (cT cI cL cF cM) (cW h cI cL cF cM F L r) H locs) (hl : lv_has ls 5 [(0, .ref (h 10)), (1, .int x1)]) : W p l e rmX7_readTest s m args below meth c H locs 0 0 Q (F0 m 50 ls []) := by
  unfold wpX7_readTest_b50 at hh
  refine lv_aload_n C.1 C.2.1 dX7_readTest_50 rfl (lv_at hl 0 rfl) ?_
  refine c_get C hw (inC inW7) (kd_lt kp10 (by decide)) (ce7 kp10) rfl 2 (by decide) (wc w_255) (v := .int (F 10 2)) rfl dX7_readTest_51 ?_
  refine lv_bipush (v := (12 : Int32)) C.1 C.2.1 dX7_readTest_54 (by decide) ?_
  refine lv_icmp_lt (tgt := 75) C.1 C.2.1 dX7_readTest_56 (by decide) (fun c56 => ?_) (fun c56 => ?_)
  · replace hh := hh.1 c56
    refine lv_iload_n C.1 C.2.1 dX7_readTest_75 rfl (lv_at hl 1 rfl) ?_
    refine lv_if_eq (tgt := 86) C.1 C.2.1 dX7_readTest_76 (by decide) (fun c76 => ?_) (fun c76 => ?_)
    · replace hh := hh.1 c76
      exact tX7_readTest_b86 C hR hh hw hl
    · replace hh := hh.2 c76
      refine lv_aload_n C.1 C.2.1 dX7_readTest_79 rfl (lv_at hl 0 rfl) ?_
      refine c_get C hw (inC inW7) (kd_lt kp10 (by decide)) (ce7 kp10) rfl 0 (by decide) (wc w_253) (v := .ref (h 4)) rfl dX7_readTest_80 ?_
      refine c_Vv C hw (ctX9_advance l D h cI cL cF cM F L r hh) (cwV 0 C.2.2.2.2 (gd_V w_743 w_728 w_729 w_115 w_730) rfl rfl rfl cdX9_advance ⟨Nat.le_of_ble_eq_true rfl, Nat.le_of_ble_eq_true rfl⟩) rfl (kd_lt kp4 (by decide)) (ce9 kp4) rfl hl.1 (Nat.le_of_ble_eq_true rfl) dX7_readTest_83 ⟨Nat.zero_le _, Nat.zero_le _⟩ (fun u83 H locs hh hw => ?_) rfl
      exact tX7_readTest_b86 C hR hh hw hl
  · replace hh := hh.2 c56
    refine lv_aload_n C.1 C.2.1 dX7_readTest_59 rfl (lv_at hl 0 rfl) ?_
    refine c_get C hw (inC inW7) (kd_lt kp10 (by decide)) (ce7 kp10) rfl 0 (by decide) (wc w_253) (v := .ref (h 4)) rfl dX7_readTest_60 ?_
    refine lv_iconst (v := (2 : Int32)) C.1 C.2.1 dX7_readTest_63 (by decide) ?_
    refine lv_aload_n C.1 C.2.1 dX7_readTest_64 rfl (lv_at hl 0 rfl) ?_
    refine c_get C hw (inC inW7) (kd_lt kp10 (by decide)) (ce7 kp10) rfl 0 (by decide) (wc w_253) (v := .ref (h 4)) rfl dX7_readTest_65 ?_
    refine c_get C hw (inC inW9) (kd_lt kp4 (by decide)) (ce9 kp4) rfl 4 (by decide) (wc w_163) (v := .int (F 4 4)) rfl dX7_readTest_68 ?_
    refine c_Vv C hw (ctX9_refuse l D h cI cL cF cM F L r (2 : Int32) (F 4 4) hh) (cwV 2 C.2.2.2.2 (gd_V w_735 w_736 w_737 w_115 w_738) rfl rfl rfl cdX9_refuse ⟨Nat.le_of_ble_eq_true rfl, Nat.le_of_ble_eq_true rfl⟩) rfl (kd_lt kp4 (by decide)) (ce9 kp4) rfl hl.1 (Nat.le_of_ble_eq_true rfl) dX7_readTest_71 ⟨Nat.zero_le _, Nat.zero_le _⟩ (fun u71 H locs hh hw => ?_) rfl
    exact hR _ _ (u71.1, u71.2.1, u71.2.2) _ _ dX7_readTest_74 hh hw
set_option maxHeartbeats 4000000 in
set_option maxRecDepth 100000 in
theorem tX7_readTest_b16 {K : cS → Prop} (C : CallFix p m c cX7_readTest 5 s args wsX7_readTest RX7) (hR : Rtv p l e rmX7_readTest s m args below meth c cX7_readTest D A (cT cI cL cF cM) (cWu h cI cL cF cM) K Q) {F : Nat → Nat → Int32} {L : Nat → Nat → Int64} {r : Nat → Nat → Nat} {k0 : Int32} (hh : wpX7_readTest_b16 F L r k0 K) {H : Heap} {locs : List Loc} {ls : Array Slot} (hw : Wd D A s (cT cI cL cF cM) (cW h cI cL cF cM F L r) H locs) (hl : lv_has ls 5 [(0, .ref (h 10))]) : W p l e rmX7_readTest s m args below meth c H locs 0 0 Q (F0 m 16 ls [.int k0]) := by
  unfold wpX7_readTest_b16 at hh
  refine lv_istore_n (lv' := [(1, .int k0), (0, .ref (h 10))]) C.1 C.2.1 dX7_readTest_16 rfl hl (by decide) rfl (fun ls hl => ?_)
  refine lv_iload_n C.1 C.2.1 dX7_readTest_17 rfl (lv_at hl 0 rfl) ?_
  refine lv_if_ne (tgt := 50) C.1 C.2.1 dX7_readTest_18 (by decide) (fun c18 => ?_) (fun c18 => ?_)
  · replace hh := hh.1 c18
    exact tX7_readTest_b50 C hR hh hw (lv_sub hl [1, 0] rfl)
  · replace hh := hh.2 c18
    refine lv_aload_n C.1 C.2.1 dX7_readTest_21 rfl (lv_at hl 1 rfl) ?_
    refine c_get C hw (inC inW7) (kd_lt kp10 (by decide)) (ce7 kp10) rfl 0 (by decide) (wc w_253) (v := .ref (h 4)) rfl dX7_readTest_22 ?_
    refine c_get C hw (inC inW9) (kd_lt kp4 (by decide)) (ce9 kp4) rfl 6 (by decide) (wc w_170) (v := .int (F 4 6)) rfl dX7_readTest_25 ?_
    refine wd_Si C hw (ctX7_isTest l D (F 4 6) hh) (va_cwS 1 C.2.2.2.2 (gd_S w_752 w_753 (ini_cls rfl w_116) w_754) rfl rfl rfl cdX7_isTest ⟨Nat.le_of_ble_eq_true rfl, Nat.le_of_ble_eq_true rfl⟩) rfl hl.1 (Nat.le_of_ble_eq_true rfl) dX7_readTest_28 ⟨Nat.zero_le _, Nat.zero_le _⟩ (fun r28 H locs hh hw => ?_) rfl
    refine lv_if_ne (tgt := 50) C.1 C.2.1 dX7_readTest_31 (by decide) (fun c31 => ?_) (fun c31 => ?_)
    · replace hh := hh.1 c31
      exact tX7_readTest_b50 C hR hh hw (lv_sub hl [1, 0] rfl)
    · replace hh := hh.2 c31
      refine lv_aload_n C.1 C.2.1 dX7_readTest_34 rfl (lv_at hl 1 rfl) ?_
      refine c_get C hw (inC inW7) (kd_lt kp10 (by decide)) (ce7 kp10) rfl 0 (by decide) (wc w_253) (v := .ref (h 4)) rfl dX7_readTest_35 ?_
      refine lv_iconst (v := (1 : Int32)) C.1 C.2.1 dX7_readTest_38 (by decide) ?_
      refine lv_aload_n C.1 C.2.1 dX7_readTest_39 rfl (lv_at hl 1 rfl) ?_
      refine c_get C hw (inC inW7) (kd_lt kp10 (by decide)) (ce7 kp10) rfl 0 (by decide) (wc w_253) (v := .ref (h 4)) rfl dX7_readTest_40 ?_
      refine c_get C hw (inC inW9) (kd_lt kp4 (by decide)) (ce9 kp4) rfl 4 (by decide) (wc w_163) (v := .int (F 4 4)) rfl dX7_readTest_43 ?_
      refine c_Vv C hw (ctX9_refuse l D h cI cL cF cM F L r (1 : Int32) (F 4 4) hh) (cwV 2 C.2.2.2.2 (gd_V w_735 w_736 w_737 w_115 w_738) rfl rfl rfl cdX9_refuse ⟨Nat.le_of_ble_eq_true rfl, Nat.le_of_ble_eq_true rfl⟩) rfl (kd_lt kp4 (by decide)) (ce9 kp4) rfl hl.1 (Nat.le_of_ble_eq_true rfl) dX7_readTest_46 ⟨Nat.zero_le _, Nat.zero_le _⟩ (fun u46 H locs hh hw => ?_) rfl
      exact hR _ _ (u46.1, u46.2.1, u46.2.2) _ _ dX7_readTest_49 hh hw
set_option maxHeartbeats 4000000 in
set_option maxRecDepth 100000 in
theorem tX7_readTest_b0 {K : cS → Prop} (C : CallFix p m c cX7_readTest 5 s args wsX7_readTest RX7) (hR : Rtv p l e rmX7_readTest s m args below meth c cX7_readTest D A (cT cI cL cF cM) (cWu h cI cL cF cM) K Q) {F : Nat → Nat → Int32} {L : Nat → Nat → Int64} {r : Nat → Nat → Nat} (hh : wpX7_readTest_b0 F L r K) {H : Heap} {locs : List Loc} {ls : Array Slot} (hw : Wd D A s (cT cI cL cF cM) (cW h cI cL cF cM F L r) H locs) (hl : lv_has ls 5 [(0, .ref (h 10))]) : W p l e rmX7_readTest s m args below meth c H locs 0 0 Q (F0 m 0 ls []) := by
  unfold wpX7_readTest_b0 at hh
  refine lv_aload_n C.1 C.2.1 dX7_readTest_0 rfl (lv_at hl 0 rfl) ?_
  refine c_get C hw (inC inW7) (kd_lt kp10 (by decide)) (ce7 kp10) rfl 0 (by decide) (wc w_253) (v := .ref (h 4)) rfl dX7_readTest_1 ?_
  refine c_get C hw (inC inW9) (kd_lt kp4 (by decide)) (ce9 kp4) rfl 6 (by decide) (wc w_170) (v := .int (F 4 6)) rfl dX7_readTest_4 ?_
  refine lv_iconst (v := (2 : Int32)) C.1 C.2.1 dX7_readTest_7 (by decide) ?_
  refine lv_icmp_ne (tgt := 15) C.1 C.2.1 dX7_readTest_8 (by decide) (fun c8 => ?_) (fun c8 => ?_)
  · replace hh := hh.1 c8
    refine lv_iconst (v := (0 : Int32)) C.1 C.2.1 dX7_readTest_15 (by decide) ?_
    exact tX7_readTest_b16 C hR hh hw hl
  · replace hh := hh.2 c8
    refine lv_iconst (v := (1 : Int32)) C.1 C.2.1 dX7_readTest_11 (by decide) ?_
    refine lv_goto (tgt := 16) C.1 C.2.1 dX7_readTest_12 (by decide) ?_
    exact tX7_readTest_b16 C hR hh hw hl
theorem ctX7_readTest (l : Launch) (D : va_G) (h : Nat → Nat) (cI cL cF cM : ClassId) (F : Nat → Nat → Int32) (L : Nat → Nat → Int64) (r : Nat → Nat → Nat) {K : cS → Prop} (hh : wpX7_readTest F L r K) : Cv l yX7_readTest wsX7_readTest rmX7_readTest [.ref (h 10)] D (cT cI cL cF cM) (cWu h cI cL cF cM) (F, L, r) K := by
  refine Cv_of (cc := cX7_readTest) (maxL := 5) (by decide) rfl (Nat.le_of_ble_eq_true rfl) ?_
  intro p e s m below meth c A Q C hw hR ls hl
  exact tX7_readTest_b0 C hR hh hw hl
theorem cdX7_readTest : yX7_readTest.cls = RX7 ∧ yX7_readTest.cls ≠ "java/lang/invoke/MethodHandle" ∧ yX7_readTest.cls ≠ "java/lang/invoke/VarHandle" ∧ (parseMethodDescriptor yX7_readTest.desc).map (fun d => d.parameters.length) = some 0 := by decide +kernel
abbrev rmX7_readTests : Room := { frames := 3, cells := 0, slots := 0, locals := 72 }
set_option maxHeartbeats 4000000 in
set_option maxRecDepth 100000 in
theorem tX7_readTests_b44 {K : cS → Prop} (C : CallFix p m c cX7_readTests 2 s args wsX7_readTests RX7) (hR : Rtv p l e rmX7_readTests s m args below meth c cX7_readTests D A (cT cI cL cF cM) (cWu h cI cL cF cM) K Q) {F : Nat → Nat → Int32} {L : Nat → Nat → Int64} {r : Nat → Nat → Nat} (hh : wpX7_readTests_b44 F L r K) {H : Heap} {locs : List Loc} {ls : Array Slot} (hw : Wd D A s (cT cI cL cF cM) (cW h cI cL cF cM F L r) H locs) (hl : lv_has ls 2 [(0, .ref (h 10))]) : W p l e rmX7_readTests s m args below meth c H locs 0 0 Q (F0 m 44 ls []) := by
  unfold wpX7_readTests_b44 at hh
  exact hR _ _ (F, L, r) _ _ dX7_readTests_44 hh hw
set_option maxHeartbeats 4000000 in
set_option maxRecDepth 100000 in
theorem tX7_readTests_b34 {B2 : (Nat → Nat → Int32) → (Nat → Nat → Int64) → (Nat → Nat → Nat) → Int32 → Prop} {K : cS → Prop} (C : CallFix p m c cX7_readTests 2 s args wsX7_readTests RX7) (hR : Rtv p l e rmX7_readTests s m args below meth c cX7_readTests D A (cT cI cL cF cM) (cWu h cI cL cF cM) K Q) (hB2 : ∀ (F : Nat → Nat → Int32) (L : Nat → Nat → Int64) (r : Nat → Nat → Nat) (x1 : Int32) (H : Heap) (locs : List Loc) (ls : Array Slot), B2 F L r x1 → Wd D A s (cT cI cL cF cM) (cW h cI cL cF cM F L r) H locs → lv_has ls 2 [(0, .ref (h 10)), (1, .int x1)] → W p l e rmX7_readTests s m args below meth c H locs 0 0 Q (F0 m 2 ls [])) {F : Nat → Nat → Int32} {L : Nat → Nat → Int64} {r : Nat → Nat → Nat} {x1 : Int32} (hh : wpX7_readTests_b34 B2 F L r x1 K) {H : Heap} {locs : List Loc} {ls : Array Slot} (hw : Wd D A s (cT cI cL cF cM) (cW h cI cL cF cM F L r) H locs) (hl : lv_has ls 2 [(0, .ref (h 10)), (1, .int x1)]) : W p l e rmX7_readTests s m args below meth c H locs 0 0 Q (F0 m 34 ls []) := by
  unfold wpX7_readTests_b34 at hh
  refine lv_aload_n C.1 C.2.1 dX7_readTests_34 rfl (lv_at hl 0 rfl) ?_
  refine c_Vv C hw (ctX7_readTest l D h cI cL cF cM F L r hh) (cwV 0 C.2.2.2.2 (gd_V w_748 w_750 w_8 w_116 w_751) rfl rfl rfl cdX7_readTest ⟨Nat.le_of_ble_eq_true rfl, Nat.le_of_ble_eq_true rfl⟩) rfl (kd_lt kp10 (by decide)) (ce7 kp10) rfl hl.1 (Nat.le_of_ble_eq_true rfl) dX7_readTests_35 ⟨Nat.zero_le _, Nat.zero_le _⟩ (fun u35 H locs hh hw => ?_) rfl
  refine lv_iinc (v := x1 + (1 : Int32)) (lv' := [(1, .int (x1 + (1 : Int32))), (0, .ref (h 10))]) C.1 C.2.1 dX7_readTests_38 hl (k := 1) rfl rfl (by decide) rfl (fun ls hl => ?_)
  refine lv_goto (tgt := 2) C.1 C.2.1 dX7_readTests_41 (by decide) ?_
  exact hB2 _ _ _ _ _ _ _ hh hw (lv_sub hl [1, 0] rfl)
set_option maxHeartbeats 4000000 in
set_option maxRecDepth 100000 in
theorem tX7_readTests_b2_body {B2 : (Nat → Nat → Int32) → (Nat → Nat → Int64) → (Nat → Nat → Nat) → Int32 → Prop} {K : cS → Prop} (C : CallFix p m c cX7_readTests 2 s args wsX7_readTests RX7) (hR : Rtv p l e rmX7_readTests s m args below meth c cX7_readTests D A (cT cI cL cF cM) (cWu h cI cL cF cM) K Q) (hB2 : ∀ (F : Nat → Nat → Int32) (L : Nat → Nat → Int64) (r : Nat → Nat → Nat) (x1 : Int32) (H : Heap) (locs : List Loc) (ls : Array Slot), B2 F L r x1 → Wd D A s (cT cI cL cF cM) (cW h cI cL cF cM F L r) H locs → lv_has ls 2 [(0, .ref (h 10)), (1, .int x1)] → W p l e rmX7_readTests s m args below meth c H locs 0 0 Q (F0 m 2 ls [])) {F : Nat → Nat → Int32} {L : Nat → Nat → Int64} {r : Nat → Nat → Nat} {x1 : Int32} (hh : wpX7_readTests_b2_body B2 F L r x1 K) {H : Heap} {locs : List Loc} {ls : Array Slot} (hw : Wd D A s (cT cI cL cF cM) (cW h cI cL cF cM F L r) H locs) (hl : lv_has ls 2 [(0, .ref (h 10)), (1, .int x1)]) : W p l e rmX7_readTests s m args below meth c H locs 0 0 Q (F0 m 2 ls []) := by
  unfold wpX7_readTests_b2_body at hh
  refine lv_iload_n C.1 C.2.1 dX7_readTests_2 rfl (lv_at hl 1 rfl) ?_
  refine lv_bipush (v := (12 : Int32)) C.1 C.2.1 dX7_readTests_3 (by decide) ?_
  refine lv_icmp_gt (tgt := 44) C.1 C.2.1 dX7_readTests_5 (by decide) (fun c5 => ?_) (fun c5 => ?_)
  · replace hh := hh.1 c5
    exact tX7_readTests_b44 C hR hh hw (lv_sub hl [0] rfl)
  · replace hh := hh.2 c5
    refine lv_aload_n C.1 C.2.1 dX7_readTests_8 rfl (lv_at hl 0 rfl) ?_
    refine c_get C hw (inC inW7) (kd_lt kp10 (by decide)) (ce7 kp10) rfl 0 (by decide) (wc w_253) (v := .ref (h 4)) rfl dX7_readTests_9 ?_
    refine c_get C hw (inC inW9) (kd_lt kp4 (by decide)) (ce9 kp4) rfl 1 (by decide) (wc w_154) (v := .int (F 4 1)) rfl dX7_readTests_12 ?_
    refine lv_if_ne (tgt := 44) C.1 C.2.1 dX7_readTests_15 (by decide) (fun c15 => ?_) (fun c15 => ?_)
    · replace hh := hh.1 c15
      exact tX7_readTests_b44 C hR hh hw (lv_sub hl [0] rfl)
    · replace hh := hh.2 c15
      refine lv_iload_n C.1 C.2.1 dX7_readTests_18 rfl (lv_at hl 1 rfl) ?_
      refine lv_if_le (tgt := 34) C.1 C.2.1 dX7_readTests_19 (by decide) (fun c19 => ?_) (fun c19 => ?_)
      · replace hh := hh.1 c19
        exact tX7_readTests_b34 C hR hB2 hh hw hl
      · replace hh := hh.2 c19
        refine lv_aload_n C.1 C.2.1 dX7_readTests_22 rfl (lv_at hl 0 rfl) ?_
        refine c_get C hw (inC inW7) (kd_lt kp10 (by decide)) (ce7 kp10) rfl 0 (by decide) (wc w_253) (v := .ref (h 4)) rfl dX7_readTests_23 ?_
        refine c_get C hw (inC inW9) (kd_lt kp4 (by decide)) (ce9 kp4) rfl 6 (by decide) (wc w_170) (v := .int (F 4 6)) rfl dX7_readTests_26 ?_
        refine lv_iconst (v := (1 : Int32)) C.1 C.2.1 dX7_readTests_29 (by decide) ?_
        refine lv_icmp_ne (tgt := 34) C.1 C.2.1 dX7_readTests_30 (by decide) (fun c30 => ?_) (fun c30 => ?_)
        · replace hh := hh.1 c30
          exact tX7_readTests_b34 C hR hB2 hh hw hl
        · replace hh := hh.2 c30
          exact hR _ _ (F, L, r) _ _ dX7_readTests_33 hh hw
theorem tX7_readTests_b2 {K : cS → Prop} (C : CallFix p m c cX7_readTests 2 s args wsX7_readTests RX7) (hR : Rtv p l e rmX7_readTests s m args below meth c cX7_readTests D A (cT cI cL cF cM) (cWu h cI cL cF cM) K Q) (n : Nat) : ∀ (F : Nat → Nat → Int32) (L : Nat → Nat → Int64) (r : Nat → Nat → Nat) (x1 : Int32) (H : Heap) (locs : List Loc) (ls : Array Slot), wpX7_readTests_b2 n F L r x1 K → Wd D A s (cT cI cL cF cM) (cW h cI cL cF cM F L r) H locs → lv_has ls 2 [(0, .ref (h 10)), (1, .int x1)] → W p l e rmX7_readTests s m args below meth c H locs 0 0 Q (F0 m 2 ls []) := by
  induction n with
  | zero => intro F L r x1 H locs ls hh; exact hh.elim
  | succ n ih => intro F L r x1 H locs ls hh hw hl; exact tX7_readTests_b2_body C hR ih hh hw hl
set_option maxHeartbeats 4000000 in
set_option maxRecDepth 100000 in
theorem tX7_readTests_b0 {K : cS → Prop} (C : CallFix p m c cX7_readTests 2 s args wsX7_readTests RX7) (hR : Rtv p l e rmX7_readTests s m args below meth c cX7_readTests D A (cT cI cL cF cM) (cWu h cI cL cF cM) K Q) {F : Nat → Nat → Int32} {L : Nat → Nat → Int64} {r : Nat → Nat → Nat} (hh : wpX7_readTests_b0 F L r K) {H : Heap} {locs : List Loc} {ls : Array Slot} (hw : Wd D A s (cT cI cL cF cM) (cW h cI cL cF cM F L r) H locs) (hl : lv_has ls 2 [(0, .ref (h 10))]) : W p l e rmX7_readTests s m args below meth c H locs 0 0 Q (F0 m 0 ls []) := by
  unfold wpX7_readTests_b0 at hh
  refine lv_iconst (v := (0 : Int32)) C.1 C.2.1 dX7_readTests_0 (by decide) ?_
  refine lv_istore_n (lv' := [(1, .int (0 : Int32)), (0, .ref (h 10))]) C.1 C.2.1 dX7_readTests_1 rfl hl (by decide) rfl (fun ls hl => ?_)
  obtain ⟨n, hh⟩ := hh
  exact tX7_readTests_b2 C hR n _ _ _ _ _ _ _ hh hw (lv_sub hl [1, 0] rfl)
theorem ctX7_readTests (l : Launch) (D : va_G) (h : Nat → Nat) (cI cL cF cM : ClassId) (F : Nat → Nat → Int32) (L : Nat → Nat → Int64) (r : Nat → Nat → Nat) {K : cS → Prop} (hh : wpX7_readTests F L r K) : Cv l yX7_readTests wsX7_readTests rmX7_readTests [.ref (h 10)] D (cT cI cL cF cM) (cWu h cI cL cF cM) (F, L, r) K := by
  refine Cv_of (cc := cX7_readTests) (maxL := 2) (by decide) rfl (Nat.le_of_ble_eq_true rfl) ?_
  intro p e s m below meth c A Q C hw hR ls hl
  exact tX7_readTests_b0 C hR hh hw hl
theorem cdX7_readTests : yX7_readTests.cls = RX7 ∧ yX7_readTests.cls ≠ "java/lang/invoke/MethodHandle" ∧ yX7_readTests.cls ≠ "java/lang/invoke/VarHandle" ∧ (parseMethodDescriptor yX7_readTests.desc).map (fun d => d.parameters.length) = some 0 := by decide +kernel
abbrev rmX9_isSign : Room := { frames := 0, cells := 0, slots := 0, locals := 0 }
set_option maxHeartbeats 4000000 in
set_option maxRecDepth 100000 in
theorem tX9_isSign_b21 {K : Int32 → cS → Prop} (C : CallFix p m c cX9_isSign 2 s args wsX9_isSign RX9) (hR : Rti .boolean p l e rmX9_isSign s m args below meth c cX9_isSign D A (cT cI cL cF cM) (cWu h cI cL cF cM) K Q) {F : Nat → Nat → Int32} {L : Nat → Nat → Int64} {r : Nat → Nat → Nat} {k0 : Int32} (hh : wpX9_isSign_b21 F L r k0 K) {H : Heap} {locs : List Loc} {ls : Array Slot} (hw : Wd D A s (cT cI cL cF cM) (cW h cI cL cF cM F L r) H locs) (hl : lv_has ls 2 [(0, .ref (h 4))]) : W p l e rmX9_isSign s m args below meth c H locs 0 0 Q (F0 m 21 ls [.int k0]) := by
  unfold wpX9_isSign_b21 at hh
  obtain ⟨hb21, hh⟩ := hh
  exact hR _ _ _ (F, L, r) _ _ dX9_isSign_21 (isB_nar hb21) hh hw
set_option maxHeartbeats 4000000 in
set_option maxRecDepth 100000 in
theorem tX9_isSign_b20 {K : Int32 → cS → Prop} (C : CallFix p m c cX9_isSign 2 s args wsX9_isSign RX9) (hR : Rti .boolean p l e rmX9_isSign s m args below meth c cX9_isSign D A (cT cI cL cF cM) (cWu h cI cL cF cM) K Q) {F : Nat → Nat → Int32} {L : Nat → Nat → Int64} {r : Nat → Nat → Nat} (hh : wpX9_isSign_b20 F L r K) {H : Heap} {locs : List Loc} {ls : Array Slot} (hw : Wd D A s (cT cI cL cF cM) (cW h cI cL cF cM F L r) H locs) (hl : lv_has ls 2 [(0, .ref (h 4))]) : W p l e rmX9_isSign s m args below meth c H locs 0 0 Q (F0 m 20 ls []) := by
  unfold wpX9_isSign_b20 at hh
  refine lv_iconst (v := (0 : Int32)) C.1 C.2.1 dX9_isSign_20 (by decide) ?_
  exact tX9_isSign_b21 C hR hh hw hl
set_option maxHeartbeats 4000000 in
set_option maxRecDepth 100000 in
theorem tX9_isSign_b0 {K : Int32 → cS → Prop} (C : CallFix p m c cX9_isSign 2 s args wsX9_isSign RX9) (hR : Rti .boolean p l e rmX9_isSign s m args below meth c cX9_isSign D A (cT cI cL cF cM) (cWu h cI cL cF cM) K Q) {F : Nat → Nat → Int32} {L : Nat → Nat → Int64} {r : Nat → Nat → Nat} {x1 : Int32} (hh : wpX9_isSign_b0 F L r x1 K) {H : Heap} {locs : List Loc} {ls : Array Slot} (hw : Wd D A s (cT cI cL cF cM) (cW h cI cL cF cM F L r) H locs) (hl : lv_has ls 2 [(0, .ref (h 4)), (1, .int x1)]) : W p l e rmX9_isSign s m args below meth c H locs 0 0 Q (F0 m 0 ls []) := by
  unfold wpX9_isSign_b0 at hh
  refine lv_aload_n C.1 C.2.1 dX9_isSign_0 rfl (lv_at hl 0 rfl) ?_
  refine c_get C hw (inC inW9) (kd_lt kp4 (by decide)) (ce9 kp4) rfl 3 (by decide) (wc w_162) (v := .int (F 4 3)) rfl dX9_isSign_1 ?_
  refine lv_iconst (v := (3 : Int32)) C.1 C.2.1 dX9_isSign_4 (by decide) ?_
  refine lv_icmp_ne (tgt := 20) C.1 C.2.1 dX9_isSign_5 (by decide) (fun c5 => ?_) (fun c5 => ?_)
  · replace hh := hh.1 c5
    exact tX9_isSign_b20 C hR hh hw (lv_sub hl [0] rfl)
  · replace hh := hh.2 c5
    refine lv_aload_n C.1 C.2.1 dX9_isSign_8 rfl (lv_at hl 0 rfl) ?_
    refine c_get C hw (inC inW9) (kd_lt kp4 (by decide)) (ce9 kp4) rfl 5 (by decide) (wc w_166) (v := .int (F 4 5)) rfl dX9_isSign_9 ?_
    refine lv_iload_n C.1 C.2.1 dX9_isSign_12 rfl (lv_at hl 1 rfl) ?_
    refine lv_icmp_ne (tgt := 20) C.1 C.2.1 dX9_isSign_13 (by decide) (fun c13 => ?_) (fun c13 => ?_)
    · replace hh := hh.1 c13
      exact tX9_isSign_b20 C hR hh hw (lv_sub hl [0] rfl)
    · replace hh := hh.2 c13
      refine lv_iconst (v := (1 : Int32)) C.1 C.2.1 dX9_isSign_16 (by decide) ?_
      refine lv_goto (tgt := 21) C.1 C.2.1 dX9_isSign_17 (by decide) ?_
      exact tX9_isSign_b21 C hR hh hw (lv_sub hl [0] rfl)
theorem ctX9_isSign (l : Launch) (D : va_G) (h : Nat → Nat) (cI cL cF cM : ClassId) (F : Nat → Nat → Int32) (L : Nat → Nat → Int64) (r : Nat → Nat → Nat) (x1 : Int32) {K : Int32 → cS → Prop} (hh : wpX9_isSign F L r x1 K) : Ci l yX9_isSign wsX9_isSign rmX9_isSign [.ref (h 4), .int x1] D (cT cI cL cF cM) (cWu h cI cL cF cM) (F, L, r) K := by
  refine Ci_of (cc := cX9_isSign) (maxL := 2) (by decide) rfl (Nat.le_of_ble_eq_true rfl) ?_
  intro p e s m below meth c A Q C hw hR ls hl
  exact tX9_isSign_b0 C hR hh hw hl
theorem cdX9_isSign : yX9_isSign.cls = RX9 ∧ yX9_isSign.cls ≠ "java/lang/invoke/MethodHandle" ∧ yX9_isSign.cls ≠ "java/lang/invoke/VarHandle" ∧ (parseMethodDescriptor yX9_isSign.desc).map (fun d => d.parameters.length) = some 1 := by decide +kernel
abbrev rmX7_isAct : Room := { frames := 0, cells := 0, slots := 0, locals := 0 }
set_option maxHeartbeats 4000000 in
set_option maxRecDepth 100000 in
theorem tX7_isAct_b17 {K : Int32 → Unit → Prop} (C : CallFix p m c cX7_isAct 1 s args wsX7_isAct RX7) (hR : Rti .boolean p l e rmX7_isAct s m args below meth c cX7_isAct D A [] (fun _ : Unit => []) K Q) {k0 : Int32} (hh : wpX7_isAct_b17 k0 K) {H : Heap} {locs : List Loc} {ls : Array Slot} (hw : Wd D A s [] [] H locs) (hl : lv_has ls 1 []) : W p l e rmX7_isAct s m args below meth c H locs 0 0 Q (F0 m 17 ls [.int k0]) := by
  unfold wpX7_isAct_b17 at hh
  obtain ⟨hb17, hh⟩ := hh
  exact hR _ _ _ () _ _ dX7_isAct_17 (isB_nar hb17) hh hw
set_option maxHeartbeats 4000000 in
set_option maxRecDepth 100000 in
theorem tX7_isAct_b16 {K : Int32 → Unit → Prop} (C : CallFix p m c cX7_isAct 1 s args wsX7_isAct RX7) (hR : Rti .boolean p l e rmX7_isAct s m args below meth c cX7_isAct D A [] (fun _ : Unit => []) K Q) (hh : wpX7_isAct_b16  K) {H : Heap} {locs : List Loc} {ls : Array Slot} (hw : Wd D A s [] [] H locs) (hl : lv_has ls 1 []) : W p l e rmX7_isAct s m args below meth c H locs 0 0 Q (F0 m 16 ls []) := by
  unfold wpX7_isAct_b16 at hh
  refine lv_iconst (v := (0 : Int32)) C.1 C.2.1 dX7_isAct_16 (by decide) ?_
  exact tX7_isAct_b17 C hR hh hw hl
set_option maxHeartbeats 4000000 in
set_option maxRecDepth 100000 in
theorem tX7_isAct_b0 {K : Int32 → Unit → Prop} (C : CallFix p m c cX7_isAct 1 s args wsX7_isAct RX7) (hR : Rti .boolean p l e rmX7_isAct s m args below meth c cX7_isAct D A [] (fun _ : Unit => []) K Q) {x0 : Int32} (hh : wpX7_isAct_b0 x0 K) {H : Heap} {locs : List Loc} {ls : Array Slot} (hw : Wd D A s [] [] H locs) (hl : lv_has ls 1 [(0, .int x0)]) : W p l e rmX7_isAct s m args below meth c H locs 0 0 Q (F0 m 0 ls []) := by
  unfold wpX7_isAct_b0 at hh
  refine lv_iload_n C.1 C.2.1 dX7_isAct_0 rfl (lv_at hl 0 rfl) ?_
  refine lv_bipush (v := (8 : Int32)) C.1 C.2.1 dX7_isAct_1 (by decide) ?_
  refine lv_icmp_lt (tgt := 16) C.1 C.2.1 dX7_isAct_3 (by decide) (fun c3 => ?_) (fun c3 => ?_)
  · replace hh := hh.1 c3
    exact tX7_isAct_b16 C hR hh hw (lv_sub hl [] rfl)
  · replace hh := hh.2 c3
    refine lv_iload_n C.1 C.2.1 dX7_isAct_6 rfl (lv_at hl 0 rfl) ?_
    refine lv_bipush (v := (19 : Int32)) C.1 C.2.1 dX7_isAct_7 (by decide) ?_
    refine lv_icmp_gt (tgt := 16) C.1 C.2.1 dX7_isAct_9 (by decide) (fun c9 => ?_) (fun c9 => ?_)
    · replace hh := hh.1 c9
      exact tX7_isAct_b16 C hR hh hw (lv_sub hl [] rfl)
    · replace hh := hh.2 c9
      refine lv_iconst (v := (1 : Int32)) C.1 C.2.1 dX7_isAct_12 (by decide) ?_
      refine lv_goto (tgt := 17) C.1 C.2.1 dX7_isAct_13 (by decide) ?_
      exact tX7_isAct_b17 C hR hh hw (lv_sub hl [] rfl)
theorem ctX7_isAct (l : Launch) (D : va_G) (x0 : Int32) {K : Int32 → Unit → Prop} (hh : wpX7_isAct x0 K) : Ci l yX7_isAct wsX7_isAct rmX7_isAct [.int x0] D [] (fun _ : Unit => []) () K := by
  refine Ci_of (cc := cX7_isAct) (maxL := 1) (by decide) rfl (Nat.le_of_ble_eq_true rfl) ?_
  intro p e s m below meth c A Q C hw hR ls hl
  exact tX7_isAct_b0 C hR hh hw hl
theorem cdX7_isAct : yX7_isAct.cls ≠ "java/lang/invoke/MethodHandle" ∧ yX7_isAct.cls ≠ "java/lang/invoke/VarHandle" ∧ (parseMethodDescriptor yX7_isAct.desc).map (fun d => d.parameters.length) = some 1 := by decide +kernel
abbrev rmX6_actOf : Room := { frames := 0, cells := 0, slots := 0, locals := 0 }
set_option maxHeartbeats 4000000 in
set_option maxRecDepth 100000 in
theorem tX6_actOf_b0 {K : Int32 → Unit → Prop} (C : CallFix p m c cX6_actOf 2 s args wsX6_actOf RX6) (hR : Rti .int p l e rmX6_actOf s m args below meth c cX6_actOf D A [] (fun _ : Unit => []) K Q) {x0 : Int32} {x1 : Int32} (hh : wpX6_actOf_b0 x0 x1 K) {H : Heap} {locs : List Loc} {ls : Array Slot} (hw : Wd D A s [] [] H locs) (hl : lv_has ls 2 [(0, .int x0), (1, .int x1)]) : W p l e rmX6_actOf s m args below meth c H locs 0 0 Q (F0 m 0 ls []) := by
  unfold wpX6_actOf_b0 at hh
  refine lv_iload_n C.1 C.2.1 dX6_actOf_0 rfl (lv_at hl 0 rfl) ?_
  refine lv_iconst (v := (4 : Int32)) C.1 C.2.1 dX6_actOf_1 (by decide) ?_
  refine g_ishl C dX6_actOf_2 ?_
  refine lv_iload_n C.1 C.2.1 dX6_actOf_3 rfl (lv_at hl 1 rfl) ?_
  refine lv_ior C.1 C.2.1 dX6_actOf_4 ?_
  exact hR _ _ _ () _ _ dX6_actOf_5 rfl hh hw
theorem ctX6_actOf (l : Launch) (D : va_G) (x0 : Int32) (x1 : Int32) {K : Int32 → Unit → Prop} (hh : wpX6_actOf x0 x1 K) : Ci l yX6_actOf wsX6_actOf rmX6_actOf [.int x0, .int x1] D [] (fun _ : Unit => []) () K := by
  refine Ci_of (cc := cX6_actOf) (maxL := 2) (by decide) rfl (Nat.le_of_ble_eq_true rfl) ?_
  intro p e s m below meth c A Q C hw hR ls hl
  exact tX6_actOf_b0 C hR hh hw hl
theorem cdX6_actOf : yX6_actOf.cls ≠ "java/lang/invoke/MethodHandle" ∧ yX6_actOf.cls ≠ "java/lang/invoke/VarHandle" ∧ (parseMethodDescriptor yX6_actOf.desc).map (fun d => d.parameters.length) = some 2 := by decide +kernel
abbrev rmX6_addAct : Room := { frames := 0, cells := 0, slots := 0, locals := 0 }
set_option maxHeartbeats 4000000 in
set_option maxRecDepth 100000 in
theorem tX6_addAct_b27 {a0 : Nat} {K : cS → Prop} (C : CallFix p m c cX6_addAct 3 s args wsX6_addAct RX6) (hR : Rtv p l e rmX6_addAct s m args below meth c cX6_addAct D A (cT cI cL cF cM) (cWu h cI cL cF cM) K Q) (ha0 : kd a0 = 6) {F : Nat → Nat → Int32} {L : Nat → Nat → Int64} {r : Nat → Nat → Nat} (hh : wpX6_addAct_b27 a0 F L r K) {H : Heap} {locs : List Loc} {ls : Array Slot} (hw : Wd D A s (cT cI cL cF cM) (cW h cI cL cF cM F L r) H locs) (hl : lv_has ls 3 [(0, .ref (h a0))]) : W p l e rmX6_addAct s m args below meth c H locs 0 0 Q (F0 m 27 ls []) := by
  unfold wpX6_addAct_b27 at hh
  exact hR _ _ (F, L, r) _ _ dX6_addAct_27 hh hw
set_option maxHeartbeats 4000000 in
set_option maxRecDepth 100000 in
theorem tX6_addAct_b0 {a0 : Nat} {K : cS → Prop} (C : CallFix p m c cX6_addAct 3 s args wsX6_addAct RX6) (hR : Rtv p l e rmX6_addAct s m args below meth c cX6_addAct D A (cT cI cL cF cM) (cWu h cI cL cF cM) K Q) (ha0 : kd a0 = 6) {F : Nat → Nat → Int32} {L : Nat → Nat → Int64} {r : Nat → Nat → Nat} {x1 : Int32} (hh : wpX6_addAct_b0 a0 F L r x1 K) {H : Heap} {locs : List Loc} {ls : Array Slot} (hw : Wd D A s (cT cI cL cF cM) (cW h cI cL cF cM F L r) H locs) (hl : lv_has ls 3 [(0, .ref (h a0)), (1, .int x1)]) : W p l e rmX6_addAct s m args below meth c H locs 0 0 Q (F0 m 0 ls []) := by
  unfold wpX6_addAct_b0 at hh
  refine lv_aload_n C.1 C.2.1 dX6_addAct_0 rfl (lv_at hl 0 rfl) ?_
  refine c_get C hw (inC inW6) (kd_lt ha0 (by decide)) (ce6 ha0) rfl 0 (by decide) (wc w_227) (v := .int (F a0 0)) rfl dX6_addAct_1 ?_
  refine lv_iconst (v := (1 : Int32)) C.1 C.2.1 dX6_addAct_4 (by decide) ?_
  refine lv_isub C.1 C.2.1 dX6_addAct_5 ?_
  refine lv_istore_n (lv' := [(2, .int ((F a0 0) - (1 : Int32))), (0, .ref (h a0)), (1, .int x1)]) C.1 C.2.1 dX6_addAct_6 rfl hl (by decide) rfl (fun ls hl => ?_)
  refine lv_iload_n C.1 C.2.1 dX6_addAct_7 rfl (lv_at hl 0 rfl) ?_
  refine lv_if_lt (tgt := 27) C.1 C.2.1 dX6_addAct_8 (by decide) (fun c8 => ?_) (fun c8 => ?_)
  · replace hh := hh.1 c8
    exact tX6_addAct_b27 C hR ha0 hh hw (lv_sub hl [1] rfl)
  · replace hh := hh.2 c8
    refine lv_aload_n C.1 C.2.1 dX6_addAct_11 rfl (lv_at hl 1 rfl) ?_
    refine c_get C hw (inC inW6) (kd_lt ha0 (by decide)) (ce6 ha0) rfl 2 (by decide) (wc w_232) (v := .ref (h (a0 + 2))) rfl dX6_addAct_12 ?_
    refine lv_iload_n C.1 C.2.1 dX6_addAct_15 rfl (lv_at hl 0 rfl) ?_
    obtain ⟨hi16, hh⟩ := hh
    refine c_ial C hw (kd_lt (kd6_2 ha0) (by decide)) (ce20 (kd6_2 ha0)) hi16 dX6_addAct_16 ?_
    refine lv_aload_n C.1 C.2.1 dX6_addAct_17 rfl (lv_at hl 1 rfl) ?_
    refine c_get C hw (inC inW6) (kd_lt ha0 (by decide)) (ce6 ha0) rfl 0 (by decide) (wc w_227) (v := .int (F a0 0)) rfl dX6_addAct_18 ?_
    refine lv_bipush (v := (12 : Int32)) C.1 C.2.1 dX6_addAct_21 (by decide) ?_
    refine lv_imul C.1 C.2.1 dX6_addAct_23 ?_
    refine lv_icmp_lt (tgt := 28) C.1 C.2.1 dX6_addAct_24 (by decide) (fun c24 => ?_) (fun c24 => ?_)
    · replace hh := hh.1 c24
      refine lv_aload_n C.1 C.2.1 dX6_addAct_28 rfl (lv_at hl 1 rfl) ?_
      refine c_get C hw (inC inW6) (kd_lt ha0 (by decide)) (ce6 ha0) rfl 1 (by decide) (wc w_230) (v := .ref (h (a0 + 1))) rfl dX6_addAct_29 ?_
      refine lv_aload_n C.1 C.2.1 dX6_addAct_32 rfl (lv_at hl 1 rfl) ?_
      refine c_get C hw (inC inW6) (kd_lt ha0 (by decide)) (ce6 ha0) rfl 2 (by decide) (wc w_232) (v := .ref (h (a0 + 2))) rfl dX6_addAct_33 ?_
      refine lv_iload_n C.1 C.2.1 dX6_addAct_36 rfl (lv_at hl 0 rfl) ?_
      obtain ⟨hi37, hh⟩ := hh
      refine c_ial C hw (kd_lt (kd6_2 ha0) (by decide)) (ce20 (kd6_2 ha0)) hi37 dX6_addAct_37 ?_
      refine lv_iload_n C.1 C.2.1 dX6_addAct_38 rfl (lv_at hl 2 rfl) ?_
      obtain ⟨hi39, hh⟩ := hh
      refine c_ias C hw (kd_lt (kd6_1 ha0) (by decide)) (ce19 (kd6_1 ha0)) hi39 dX6_addAct_39 (fun H locs hw => ?_)
      refine lv_aload_n C.1 C.2.1 dX6_addAct_40 rfl (lv_at hl 1 rfl) ?_
      refine c_get C hw (inC inW6) (kd_lt ha0 (by decide)) (ce6 ha0) rfl 2 (by decide) (wc w_232) (v := .ref (h (a0 + 2))) rfl dX6_addAct_41 ?_
      refine lv_iload_n C.1 C.2.1 dX6_addAct_44 rfl (lv_at hl 0 rfl) ?_
      refine lv_dup2_11 C.1 C.2.1 dX6_addAct_45 rfl rfl ?_
      obtain ⟨hi46, hh⟩ := hh
      refine c_ial C hw (kd_lt (kd6_2 ha0) (by decide)) (ce20 (kd6_2 ha0)) hi46 dX6_addAct_46 ?_
      refine lv_iconst (v := (1 : Int32)) C.1 C.2.1 dX6_addAct_47 (by decide) ?_
      refine lv_iadd C.1 C.2.1 dX6_addAct_48 ?_
      obtain ⟨hi49, hh⟩ := hh
      refine c_ias C hw (kd_lt (kd6_2 ha0) (by decide)) (ce20 (kd6_2 ha0)) hi49 dX6_addAct_49 (fun H locs hw => ?_)
      exact hR _ _ (pt (pt F (a0 + 1) (ix (F (a0 + 2) (ix ((F a0 0) - (1 : Int32))))) x1) (a0 + 2) (ix ((F a0 0) - (1 : Int32))) (((pt F (a0 + 1) (ix (F (a0 + 2) (ix ((F a0 0) - (1 : Int32))))) x1) (a0 + 2) (ix ((F a0 0) - (1 : Int32)))) + (1 : Int32)), L, r) _ _ dX6_addAct_50 hh hw
    · replace hh := hh.2 c24
      exact tX6_addAct_b27 C hR ha0 hh hw (lv_sub hl [1] rfl)
theorem ctX6_addAct (l : Launch) (D : va_G) (h : Nat → Nat) (cI cL cF cM : ClassId) (a0 : Nat) (ha0 : kd a0 = 6) (F : Nat → Nat → Int32) (L : Nat → Nat → Int64) (r : Nat → Nat → Nat) (x1 : Int32) {K : cS → Prop} (hh : wpX6_addAct a0 F L r x1 K) : Cv l yX6_addAct wsX6_addAct rmX6_addAct [.ref (h a0), .int x1] D (cT cI cL cF cM) (cWu h cI cL cF cM) (F, L, r) K := by
  refine Cv_of (cc := cX6_addAct) (maxL := 3) (by decide) rfl (Nat.le_of_ble_eq_true rfl) ?_
  intro p e s m below meth c A Q C hw hR ls hl
  exact tX6_addAct_b0 C hR ha0 hh hw hl
theorem cdX6_addAct : yX6_addAct.cls = RX6 ∧ yX6_addAct.cls ≠ "java/lang/invoke/MethodHandle" ∧ yX6_addAct.cls ≠ "java/lang/invoke/VarHandle" ∧ (parseMethodDescriptor yX6_addAct.desc).map (fun d => d.parameters.length) = some 1 := by decide +kernel
abbrev rmX7_readAct : Room := { frames := 2, cells := 0, slots := 0, locals := 45 }
set_option maxHeartbeats 4000000 in
set_option maxRecDepth 100000 in
theorem tX7_readAct_b81 {K : cS → Prop} (C : CallFix p m c cX7_readAct 4 s args wsX7_readAct RX7) (hR : Rtv p l e rmX7_readAct s m args below meth c cX7_readAct D A (cT cI cL cF cM) (cWu h cI cL cF cM) K Q) {F : Nat → Nat → Int32} {L : Nat → Nat → Int64} {r : Nat → Nat → Nat} (hh : wpX7_readAct_b81 F L r K) {H : Heap} {locs : List Loc} {ls : Array Slot} (hw : Wd D A s (cT cI cL cF cM) (cW h cI cL cF cM F L r) H locs) (hl : lv_has ls 4 [(0, .ref (h 10))]) : W p l e rmX7_readAct s m args below meth c H locs 0 0 Q (F0 m 81 ls []) := by
  unfold wpX7_readAct_b81 at hh
  exact hR _ _ (F, L, r) _ _ dX7_readAct_81 hh hw
set_option maxHeartbeats 4000000 in
set_option maxRecDepth 100000 in
theorem tX7_readAct_b0 {K : cS → Prop} (C : CallFix p m c cX7_readAct 4 s args wsX7_readAct RX7) (hR : Rtv p l e rmX7_readAct s m args below meth c cX7_readAct D A (cT cI cL cF cM) (cWu h cI cL cF cM) K Q) {F : Nat → Nat → Int32} {L : Nat → Nat → Int64} {r : Nat → Nat → Nat} {x1 : Int32} (hh : wpX7_readAct_b0 F L r x1 K) {H : Heap} {locs : List Loc} {ls : Array Slot} (hw : Wd D A s (cT cI cL cF cM) (cW h cI cL cF cM F L r) H locs) (hl : lv_has ls 4 [(0, .ref (h 10)), (1, .int x1)]) : W p l e rmX7_readAct s m args below meth c H locs 0 0 Q (F0 m 0 ls []) := by
  unfold wpX7_readAct_b0 at hh
  refine lv_aload_n C.1 C.2.1 dX7_readAct_0 rfl (lv_at hl 0 rfl) ?_
  refine c_get C hw (inC inW7) (kd_lt kp10 (by decide)) (ce7 kp10) rfl 0 (by decide) (wc w_253) (v := .ref (h 4)) rfl dX7_readAct_1 ?_
  refine c_get C hw (inC inW9) (kd_lt kp4 (by decide)) (ce9 kp4) rfl 6 (by decide) (wc w_170) (v := .int (F 4 6)) rfl dX7_readAct_4 ?_
  refine lv_istore_n (lv' := [(2, .int (F 4 6)), (0, .ref (h 10)), (1, .int x1)]) C.1 C.2.1 dX7_readAct_7 rfl hl (by decide) rfl (fun ls hl => ?_)
  refine lv_iload_n C.1 C.2.1 dX7_readAct_8 rfl (lv_at hl 0 rfl) ?_
  refine wd_Si C hw (ctX7_isAct l D (F 4 6) hh) (va_cwS 1 C.2.2.2.2 (gd_S w_793 w_794 (ini_cls rfl w_116) w_795) rfl rfl rfl cdX7_isAct ⟨Nat.le_of_ble_eq_true rfl, Nat.le_of_ble_eq_true rfl⟩) rfl hl.1 (Nat.le_of_ble_eq_true rfl) dX7_readAct_9 ⟨Nat.zero_le _, Nat.zero_le _⟩ (fun r9 H locs hh hw => ?_) rfl
  refine lv_if_ne (tgt := 31) C.1 C.2.1 dX7_readAct_12 (by decide) (fun c12 => ?_) (fun c12 => ?_)
  · replace hh := hh.1 c12
    refine lv_iload_n C.1 C.2.1 dX7_readAct_31 rfl (lv_at hl 2 rfl) ?_
    refine lv_bipush (v := (12 : Int32)) C.1 C.2.1 dX7_readAct_32 (by decide) ?_
    refine lv_icmp_lt (tgt := 53) C.1 C.2.1 dX7_readAct_34 (by decide) (fun c34 => ?_) (fun c34 => ?_)
    · replace hh := hh.1 c34
      refine lv_aload_n C.1 C.2.1 dX7_readAct_53 rfl (lv_at hl 1 rfl) ?_
      refine lv_iload_n C.1 C.2.1 dX7_readAct_54 rfl (lv_at hl 0 rfl) ?_
      refine c_Vi C hw (ctX7_readNumberOf l D h cI cL cF cM F L r (F 4 6) hh) (cwV 1 C.2.2.2.2 (gd_V w_755 w_757 w_9 w_116 w_758) rfl rfl rfl cdX7_readNumberOf ⟨Nat.le_of_ble_eq_true rfl, Nat.le_of_ble_eq_true rfl⟩) rfl (kd_lt kp10 (by decide)) (ce7 kp10) rfl hl.1 (Nat.le_of_ble_eq_true rfl) dX7_readAct_55 ⟨Nat.zero_le _, Nat.zero_le _⟩ (fun r55 u55 H locs hh hw => ?_) rfl
      refine lv_istore_n (lv' := [(3, .int r55), (2, .int (F 4 6)), (0, .ref (h 10)), (1, .int x1)]) C.1 C.2.1 dX7_readAct_58 rfl hl (by decide) rfl (fun ls hl => ?_)
      refine lv_aload_n C.1 C.2.1 dX7_readAct_59 rfl (lv_at hl 2 rfl) ?_
      refine c_get C hw (inC inW7) (kd_lt kp10 (by decide)) (ce7 kp10) rfl 0 (by decide) (wc w_253) (v := .ref (h 4)) rfl dX7_readAct_60 ?_
      refine c_get C hw (inC inW9) (kd_lt kp4 (by decide)) (ce9 kp4) rfl 1 (by decide) (wc w_154) (v := .int (u55.1 4 1)) rfl dX7_readAct_63 ?_
      refine lv_if_ne (tgt := 81) C.1 C.2.1 dX7_readAct_66 (by decide) (fun c66 => ?_) (fun c66 => ?_)
      · replace hh := hh.1 c66
        exact tX7_readAct_b81 C hR hh hw (lv_sub hl [2] rfl)
      · replace hh := hh.2 c66
        refine lv_aload_n C.1 C.2.1 dX7_readAct_69 rfl (lv_at hl 2 rfl) ?_
        refine c_get C hw (inC inW7) (kd_lt kp10 (by decide)) (ce7 kp10) rfl 3 (by decide) (wc w_256) (v := .ref (h (u55.2.2 10 3))) rfl dX7_readAct_70 ?_
        refine lv_iload_n C.1 C.2.1 dX7_readAct_73 rfl (lv_at hl 1 rfl) ?_
        refine lv_iload_n C.1 C.2.1 dX7_readAct_74 rfl (lv_at hl 0 rfl) ?_
        refine wd_Si C hw (ctX6_actOf l D (F 4 6) r55 hh) (va_cwS 2 C.2.2.2.2 (gd_S w_796 w_797 (ini_cls rfl w_117) w_798) rfl rfl rfl cdX6_actOf ⟨Nat.le_of_ble_eq_true rfl, Nat.le_of_ble_eq_true rfl⟩) rfl hl.1 (Nat.le_of_ble_eq_true rfl) dX7_readAct_75 ⟨Nat.zero_le _, Nat.zero_le _⟩ (fun r75 H locs hh hw => ?_) rfl
        obtain ⟨hk0, hh⟩ := hh
        refine c_Vv C hw (ctX6_addAct l D h cI cL cF cM (u55.2.2 10 3) hk0 u55.1 u55.2.1 u55.2.2 r75 hh) (cwV 1 C.2.2.2.2 (gd_V w_799 w_800 w_801 w_117 w_802) rfl rfl rfl cdX6_addAct ⟨Nat.le_of_ble_eq_true rfl, Nat.le_of_ble_eq_true rfl⟩) rfl (kd_lt hk0 (by decide)) (ce6 hk0) rfl hl.1 (Nat.le_of_ble_eq_true rfl) dX7_readAct_78 ⟨Nat.zero_le _, Nat.zero_le _⟩ (fun u78 H locs hh hw => ?_) rfl
        exact tX7_readAct_b81 C hR hh hw (lv_sub hl [2] rfl)
    · replace hh := hh.2 c34
      refine lv_aload_n C.1 C.2.1 dX7_readAct_37 rfl (lv_at hl 1 rfl) ?_
      refine c_get C hw (inC inW7) (kd_lt kp10 (by decide)) (ce7 kp10) rfl 0 (by decide) (wc w_253) (v := .ref (h 4)) rfl dX7_readAct_38 ?_
      refine lv_iconst (v := (2 : Int32)) C.1 C.2.1 dX7_readAct_41 (by decide) ?_
      refine lv_aload_n C.1 C.2.1 dX7_readAct_42 rfl (lv_at hl 1 rfl) ?_
      refine c_get C hw (inC inW7) (kd_lt kp10 (by decide)) (ce7 kp10) rfl 0 (by decide) (wc w_253) (v := .ref (h 4)) rfl dX7_readAct_43 ?_
      refine c_get C hw (inC inW9) (kd_lt kp4 (by decide)) (ce9 kp4) rfl 4 (by decide) (wc w_163) (v := .int (F 4 4)) rfl dX7_readAct_46 ?_
      refine c_Vv C hw (ctX9_refuse l D h cI cL cF cM F L r (2 : Int32) (F 4 4) hh) (cwV 2 C.2.2.2.2 (gd_V w_735 w_736 w_737 w_115 w_738) rfl rfl rfl cdX9_refuse ⟨Nat.le_of_ble_eq_true rfl, Nat.le_of_ble_eq_true rfl⟩) rfl (kd_lt kp4 (by decide)) (ce9 kp4) rfl hl.1 (Nat.le_of_ble_eq_true rfl) dX7_readAct_49 ⟨Nat.zero_le _, Nat.zero_le _⟩ (fun u49 H locs hh hw => ?_) rfl
      exact hR _ _ (u49.1, u49.2.1, u49.2.2) _ _ dX7_readAct_52 hh hw
  · replace hh := hh.2 c12
    refine lv_aload_n C.1 C.2.1 dX7_readAct_15 rfl (lv_at hl 1 rfl) ?_
    refine c_get C hw (inC inW7) (kd_lt kp10 (by decide)) (ce7 kp10) rfl 0 (by decide) (wc w_253) (v := .ref (h 4)) rfl dX7_readAct_16 ?_
    refine lv_iconst (v := (1 : Int32)) C.1 C.2.1 dX7_readAct_19 (by decide) ?_
    refine lv_aload_n C.1 C.2.1 dX7_readAct_20 rfl (lv_at hl 1 rfl) ?_
    refine c_get C hw (inC inW7) (kd_lt kp10 (by decide)) (ce7 kp10) rfl 0 (by decide) (wc w_253) (v := .ref (h 4)) rfl dX7_readAct_21 ?_
    refine c_get C hw (inC inW9) (kd_lt kp4 (by decide)) (ce9 kp4) rfl 4 (by decide) (wc w_163) (v := .int (F 4 4)) rfl dX7_readAct_24 ?_
    refine c_Vv C hw (ctX9_refuse l D h cI cL cF cM F L r (1 : Int32) (F 4 4) hh) (cwV 2 C.2.2.2.2 (gd_V w_735 w_736 w_737 w_115 w_738) rfl rfl rfl cdX9_refuse ⟨Nat.le_of_ble_eq_true rfl, Nat.le_of_ble_eq_true rfl⟩) rfl (kd_lt kp4 (by decide)) (ce9 kp4) rfl hl.1 (Nat.le_of_ble_eq_true rfl) dX7_readAct_27 ⟨Nat.zero_le _, Nat.zero_le _⟩ (fun u27 H locs hh hw => ?_) rfl
    exact hR _ _ (u27.1, u27.2.1, u27.2.2) _ _ dX7_readAct_30 hh hw
theorem ctX7_readAct (l : Launch) (D : va_G) (h : Nat → Nat) (cI cL cF cM : ClassId) (F : Nat → Nat → Int32) (L : Nat → Nat → Int64) (r : Nat → Nat → Nat) (x1 : Int32) {K : cS → Prop} (hh : wpX7_readAct F L r x1 K) : Cv l yX7_readAct wsX7_readAct rmX7_readAct [.ref (h 10), .int x1] D (cT cI cL cF cM) (cWu h cI cL cF cM) (F, L, r) K := by
  refine Cv_of (cc := cX7_readAct) (maxL := 4) (by decide) rfl (Nat.le_of_ble_eq_true rfl) ?_
  intro p e s m below meth c A Q C hw hR ls hl
  exact tX7_readAct_b0 C hR hh hw hl
theorem cdX7_readAct : yX7_readAct.cls = RX7 ∧ yX7_readAct.cls ≠ "java/lang/invoke/MethodHandle" ∧ yX7_readAct.cls ≠ "java/lang/invoke/VarHandle" ∧ (parseMethodDescriptor yX7_readAct.desc).map (fun d => d.parameters.length) = some 1 := by decide +kernel
abbrev rmX7_readActs : Room := { frames := 3, cells := 0, slots := 0, locals := 68 }
set_option maxHeartbeats 4000000 in
set_option maxRecDepth 100000 in
theorem tX7_readActs_b46 {K : cS → Prop} (C : CallFix p m c cX7_readActs 2 s args wsX7_readActs RX7) (hR : Rtv p l e rmX7_readActs s m args below meth c cX7_readActs D A (cT cI cL cF cM) (cWu h cI cL cF cM) K Q) {F : Nat → Nat → Int32} {L : Nat → Nat → Int64} {r : Nat → Nat → Nat} (hh : wpX7_readActs_b46 F L r K) {H : Heap} {locs : List Loc} {ls : Array Slot} (hw : Wd D A s (cT cI cL cF cM) (cW h cI cL cF cM F L r) H locs) (hl : lv_has ls 2 [(0, .ref (h 10))]) : W p l e rmX7_readActs s m args below meth c H locs 0 0 Q (F0 m 46 ls []) := by
  unfold wpX7_readActs_b46 at hh
  exact hR _ _ (F, L, r) _ _ dX7_readActs_46 hh hw
set_option maxHeartbeats 4000000 in
set_option maxRecDepth 100000 in
theorem tX7_readActs_b35 {B2 : (Nat → Nat → Int32) → (Nat → Nat → Int64) → (Nat → Nat → Nat) → Int32 → Prop} {K : cS → Prop} (C : CallFix p m c cX7_readActs 2 s args wsX7_readActs RX7) (hR : Rtv p l e rmX7_readActs s m args below meth c cX7_readActs D A (cT cI cL cF cM) (cWu h cI cL cF cM) K Q) (hB2 : ∀ (F : Nat → Nat → Int32) (L : Nat → Nat → Int64) (r : Nat → Nat → Nat) (x1 : Int32) (H : Heap) (locs : List Loc) (ls : Array Slot), B2 F L r x1 → Wd D A s (cT cI cL cF cM) (cW h cI cL cF cM F L r) H locs → lv_has ls 2 [(0, .ref (h 10)), (1, .int x1)] → W p l e rmX7_readActs s m args below meth c H locs 0 0 Q (F0 m 2 ls [])) {F : Nat → Nat → Int32} {L : Nat → Nat → Int64} {r : Nat → Nat → Nat} {x1 : Int32} (hh : wpX7_readActs_b35 B2 F L r x1 K) {H : Heap} {locs : List Loc} {ls : Array Slot} (hw : Wd D A s (cT cI cL cF cM) (cW h cI cL cF cM F L r) H locs) (hl : lv_has ls 2 [(0, .ref (h 10)), (1, .int x1)]) : W p l e rmX7_readActs s m args below meth c H locs 0 0 Q (F0 m 35 ls []) := by
  unfold wpX7_readActs_b35 at hh
  refine lv_aload_n C.1 C.2.1 dX7_readActs_35 rfl (lv_at hl 0 rfl) ?_
  refine lv_iload_n C.1 C.2.1 dX7_readActs_36 rfl (lv_at hl 1 rfl) ?_
  refine c_Vv C hw (ctX7_readAct l D h cI cL cF cM F L r x1 hh) (cwV 1 C.2.2.2.2 (gd_V w_789 w_791 w_13 w_116 w_792) rfl rfl rfl cdX7_readAct ⟨Nat.le_of_ble_eq_true rfl, Nat.le_of_ble_eq_true rfl⟩) rfl (kd_lt kp10 (by decide)) (ce7 kp10) rfl hl.1 (Nat.le_of_ble_eq_true rfl) dX7_readActs_37 ⟨Nat.zero_le _, Nat.zero_le _⟩ (fun u37 H locs hh hw => ?_) rfl
  refine lv_iinc (v := x1 + (1 : Int32)) (lv' := [(1, .int (x1 + (1 : Int32))), (0, .ref (h 10))]) C.1 C.2.1 dX7_readActs_40 hl (k := 1) rfl rfl (by decide) rfl (fun ls hl => ?_)
  refine lv_goto (tgt := 2) C.1 C.2.1 dX7_readActs_43 (by decide) ?_
  exact hB2 _ _ _ _ _ _ _ hh hw (lv_sub hl [1, 0] rfl)
set_option maxHeartbeats 4000000 in
set_option maxRecDepth 100000 in
theorem tX7_readActs_b2_body {B2 : (Nat → Nat → Int32) → (Nat → Nat → Int64) → (Nat → Nat → Nat) → Int32 → Prop} {K : cS → Prop} (C : CallFix p m c cX7_readActs 2 s args wsX7_readActs RX7) (hR : Rtv p l e rmX7_readActs s m args below meth c cX7_readActs D A (cT cI cL cF cM) (cWu h cI cL cF cM) K Q) (hB2 : ∀ (F : Nat → Nat → Int32) (L : Nat → Nat → Int64) (r : Nat → Nat → Nat) (x1 : Int32) (H : Heap) (locs : List Loc) (ls : Array Slot), B2 F L r x1 → Wd D A s (cT cI cL cF cM) (cW h cI cL cF cM F L r) H locs → lv_has ls 2 [(0, .ref (h 10)), (1, .int x1)] → W p l e rmX7_readActs s m args below meth c H locs 0 0 Q (F0 m 2 ls [])) {F : Nat → Nat → Int32} {L : Nat → Nat → Int64} {r : Nat → Nat → Nat} {x1 : Int32} (hh : wpX7_readActs_b2_body B2 F L r x1 K) {H : Heap} {locs : List Loc} {ls : Array Slot} (hw : Wd D A s (cT cI cL cF cM) (cW h cI cL cF cM F L r) H locs) (hl : lv_has ls 2 [(0, .ref (h 10)), (1, .int x1)]) : W p l e rmX7_readActs s m args below meth c H locs 0 0 Q (F0 m 2 ls []) := by
  unfold wpX7_readActs_b2_body at hh
  refine lv_iload_n C.1 C.2.1 dX7_readActs_2 rfl (lv_at hl 1 rfl) ?_
  refine lv_bipush (v := (12 : Int32)) C.1 C.2.1 dX7_readActs_3 (by decide) ?_
  refine lv_icmp_gt (tgt := 46) C.1 C.2.1 dX7_readActs_5 (by decide) (fun c5 => ?_) (fun c5 => ?_)
  · replace hh := hh.1 c5
    exact tX7_readActs_b46 C hR hh hw (lv_sub hl [0] rfl)
  · replace hh := hh.2 c5
    refine lv_aload_n C.1 C.2.1 dX7_readActs_8 rfl (lv_at hl 0 rfl) ?_
    refine c_get C hw (inC inW7) (kd_lt kp10 (by decide)) (ce7 kp10) rfl 0 (by decide) (wc w_253) (v := .ref (h 4)) rfl dX7_readActs_9 ?_
    refine c_get C hw (inC inW9) (kd_lt kp4 (by decide)) (ce9 kp4) rfl 1 (by decide) (wc w_154) (v := .int (F 4 1)) rfl dX7_readActs_12 ?_
    refine lv_if_ne (tgt := 46) C.1 C.2.1 dX7_readActs_15 (by decide) (fun c15 => ?_) (fun c15 => ?_)
    · replace hh := hh.1 c15
      exact tX7_readActs_b46 C hR hh hw (lv_sub hl [0] rfl)
    · replace hh := hh.2 c15
      refine lv_iload_n C.1 C.2.1 dX7_readActs_18 rfl (lv_at hl 1 rfl) ?_
      refine lv_if_le (tgt := 35) C.1 C.2.1 dX7_readActs_19 (by decide) (fun c19 => ?_) (fun c19 => ?_)
      · replace hh := hh.1 c19
        exact tX7_readActs_b35 C hR hB2 hh hw hl
      · replace hh := hh.2 c19
        refine lv_aload_n C.1 C.2.1 dX7_readActs_22 rfl (lv_at hl 0 rfl) ?_
        refine c_get C hw (inC inW7) (kd_lt kp10 (by decide)) (ce7 kp10) rfl 0 (by decide) (wc w_253) (v := .ref (h 4)) rfl dX7_readActs_23 ?_
        refine lv_bipush (v := (59 : Int32)) C.1 C.2.1 dX7_readActs_26 (by decide) ?_
        refine c_Vi C hw (ctX9_isSign l D h cI cL cF cM F L r (59 : Int32) hh) (cwV 1 C.2.2.2.2 (gd_V w_785 w_786 w_787 w_115 w_788) rfl rfl rfl cdX9_isSign ⟨Nat.le_of_ble_eq_true rfl, Nat.le_of_ble_eq_true rfl⟩) rfl (kd_lt kp4 (by decide)) (ce9 kp4) rfl hl.1 (Nat.le_of_ble_eq_true rfl) dX7_readActs_28 ⟨Nat.zero_le _, Nat.zero_le _⟩ (fun r28 u28 H locs hh hw => ?_) rfl
        refine lv_if_eq (tgt := 35) C.1 C.2.1 dX7_readActs_31 (by decide) (fun c31 => ?_) (fun c31 => ?_)
        · replace hh := hh.1 c31
          exact tX7_readActs_b35 C hR hB2 hh hw hl
        · replace hh := hh.2 c31
          exact hR _ _ (u28.1, u28.2.1, u28.2.2) _ _ dX7_readActs_34 hh hw
theorem tX7_readActs_b2 {K : cS → Prop} (C : CallFix p m c cX7_readActs 2 s args wsX7_readActs RX7) (hR : Rtv p l e rmX7_readActs s m args below meth c cX7_readActs D A (cT cI cL cF cM) (cWu h cI cL cF cM) K Q) (n : Nat) : ∀ (F : Nat → Nat → Int32) (L : Nat → Nat → Int64) (r : Nat → Nat → Nat) (x1 : Int32) (H : Heap) (locs : List Loc) (ls : Array Slot), wpX7_readActs_b2 n F L r x1 K → Wd D A s (cT cI cL cF cM) (cW h cI cL cF cM F L r) H locs → lv_has ls 2 [(0, .ref (h 10)), (1, .int x1)] → W p l e rmX7_readActs s m args below meth c H locs 0 0 Q (F0 m 2 ls []) := by
  induction n with
  | zero => intro F L r x1 H locs ls hh; exact hh.elim
  | succ n ih => intro F L r x1 H locs ls hh hw hl; exact tX7_readActs_b2_body C hR ih hh hw hl
set_option maxHeartbeats 4000000 in
set_option maxRecDepth 100000 in
theorem tX7_readActs_b0 {K : cS → Prop} (C : CallFix p m c cX7_readActs 2 s args wsX7_readActs RX7) (hR : Rtv p l e rmX7_readActs s m args below meth c cX7_readActs D A (cT cI cL cF cM) (cWu h cI cL cF cM) K Q) {F : Nat → Nat → Int32} {L : Nat → Nat → Int64} {r : Nat → Nat → Nat} (hh : wpX7_readActs_b0 F L r K) {H : Heap} {locs : List Loc} {ls : Array Slot} (hw : Wd D A s (cT cI cL cF cM) (cW h cI cL cF cM F L r) H locs) (hl : lv_has ls 2 [(0, .ref (h 10))]) : W p l e rmX7_readActs s m args below meth c H locs 0 0 Q (F0 m 0 ls []) := by
  unfold wpX7_readActs_b0 at hh
  refine lv_iconst (v := (0 : Int32)) C.1 C.2.1 dX7_readActs_0 (by decide) ?_
  refine lv_istore_n (lv' := [(1, .int (0 : Int32)), (0, .ref (h 10))]) C.1 C.2.1 dX7_readActs_1 rfl hl (by decide) rfl (fun ls hl => ?_)
  obtain ⟨n, hh⟩ := hh
  exact tX7_readActs_b2 C hR n _ _ _ _ _ _ _ hh hw (lv_sub hl [1, 0] rfl)
theorem ctX7_readActs (l : Launch) (D : va_G) (h : Nat → Nat) (cI cL cF cM : ClassId) (F : Nat → Nat → Int32) (L : Nat → Nat → Int64) (r : Nat → Nat → Nat) {K : cS → Prop} (hh : wpX7_readActs F L r K) : Cv l yX7_readActs wsX7_readActs rmX7_readActs [.ref (h 10)] D (cT cI cL cF cM) (cWu h cI cL cF cM) (F, L, r) K := by
  refine Cv_of (cc := cX7_readActs) (maxL := 2) (by decide) rfl (Nat.le_of_ble_eq_true rfl) ?_
  intro p e s m below meth c A Q C hw hR ls hl
  exact tX7_readActs_b0 C hR hh hw hl
theorem cdX7_readActs : yX7_readActs.cls = RX7 ∧ yX7_readActs.cls ≠ "java/lang/invoke/MethodHandle" ∧ yX7_readActs.cls ≠ "java/lang/invoke/VarHandle" ∧ (parseMethodDescriptor yX7_readActs.desc).map (fun d => d.parameters.length) = some 0 := by decide +kernel
abbrev rmX7_readLine : Room := { frames := 4, cells := 0, slots := 0, locals := 93 }
set_option maxHeartbeats 4000000 in
set_option maxRecDepth 100000 in
theorem tX7_readLine_b140 {K : cS → Prop} (C : CallFix p m c cX7_readLine 2 s args wsX7_readLine RX7) (hR : Rtv p l e rmX7_readLine s m args below meth c cX7_readLine D A (cT cI cL cF cM) (cWu h cI cL cF cM) K Q) {F : Nat → Nat → Int32} {L : Nat → Nat → Int64} {r : Nat → Nat → Nat} (hh : wpX7_readLine_b140 F L r K) {H : Heap} {locs : List Loc} {ls : Array Slot} (hw : Wd D A s (cT cI cL cF cM) (cW h cI cL cF cM F L r) H locs) (hl : lv_has ls 2 [(0, .ref (h 10))]) : W p l e rmX7_readLine s m args below meth c H locs 0 0 Q (F0 m 140 ls []) := by
  unfold wpX7_readLine_b140 at hh
  exact hR _ _ (F, L, r) _ _ dX7_readLine_140 hh hw
set_option maxHeartbeats 4000000 in
set_option maxRecDepth 100000 in
theorem tX7_readLine_b123 {K : cS → Prop} (C : CallFix p m c cX7_readLine 2 s args wsX7_readLine RX7) (hR : Rtv p l e rmX7_readLine s m args below meth c cX7_readLine D A (cT cI cL cF cM) (cWu h cI cL cF cM) K Q) {F : Nat → Nat → Int32} {L : Nat → Nat → Int64} {r : Nat → Nat → Nat} (hh : wpX7_readLine_b123 F L r K) {H : Heap} {locs : List Loc} {ls : Array Slot} (hw : Wd D A s (cT cI cL cF cM) (cW h cI cL cF cM F L r) H locs) (hl : lv_has ls 2 [(0, .ref (h 10))]) : W p l e rmX7_readLine s m args below meth c H locs 0 0 Q (F0 m 123 ls []) := by
  unfold wpX7_readLine_b123 at hh
  refine lv_aload_n C.1 C.2.1 dX7_readLine_123 rfl (lv_at hl 0 rfl) ?_
  refine c_get C hw (inC inW7) (kd_lt kp10 (by decide)) (ce7 kp10) rfl 0 (by decide) (wc w_253) (v := .ref (h 4)) rfl dX7_readLine_124 ?_
  refine c_get C hw (inC inW9) (kd_lt kp4 (by decide)) (ce9 kp4) rfl 1 (by decide) (wc w_154) (v := .int (F 4 1)) rfl dX7_readLine_127 ?_
  refine lv_if_ne (tgt := 140) C.1 C.2.1 dX7_readLine_130 (by decide) (fun c130 => ?_) (fun c130 => ?_)
  · replace hh := hh.1 c130
    exact tX7_readLine_b140 C hR hh hw hl
  · replace hh := hh.2 c130
    refine lv_aload_n C.1 C.2.1 dX7_readLine_133 rfl (lv_at hl 0 rfl) ?_
    refine c_get C hw (inC inW7) (kd_lt kp10 (by decide)) (ce7 kp10) rfl 0 (by decide) (wc w_253) (v := .ref (h 4)) rfl dX7_readLine_134 ?_
    refine c_Vv C hw (ctX9_advance l D h cI cL cF cM F L r hh) (cwV 0 C.2.2.2.2 (gd_V w_743 w_728 w_729 w_115 w_730) rfl rfl rfl cdX9_advance ⟨Nat.le_of_ble_eq_true rfl, Nat.le_of_ble_eq_true rfl⟩) rfl (kd_lt kp4 (by decide)) (ce9 kp4) rfl hl.1 (Nat.le_of_ble_eq_true rfl) dX7_readLine_137 ⟨Nat.zero_le _, Nat.zero_le _⟩ (fun u137 H locs hh hw => ?_) rfl
    exact tX7_readLine_b140 C hR hh hw hl
set_option maxHeartbeats 4000000 in
set_option maxRecDepth 100000 in
theorem tX7_readLine_b102 {K : cS → Prop} (C : CallFix p m c cX7_readLine 2 s args wsX7_readLine RX7) (hR : Rtv p l e rmX7_readLine s m args below meth c cX7_readLine D A (cT cI cL cF cM) (cWu h cI cL cF cM) K Q) {F : Nat → Nat → Int32} {L : Nat → Nat → Int64} {r : Nat → Nat → Nat} (hh : wpX7_readLine_b102 F L r K) {H : Heap} {locs : List Loc} {ls : Array Slot} (hw : Wd D A s (cT cI cL cF cM) (cW h cI cL cF cM F L r) H locs) (hl : lv_has ls 2 [(0, .ref (h 10))]) : W p l e rmX7_readLine s m args below meth c H locs 0 0 Q (F0 m 102 ls []) := by
  unfold wpX7_readLine_b102 at hh
  refine lv_aload_n C.1 C.2.1 dX7_readLine_102 rfl (lv_at hl 0 rfl) ?_
  refine c_get C hw (inC inW7) (kd_lt kp10 (by decide)) (ce7 kp10) rfl 0 (by decide) (wc w_253) (v := .ref (h 4)) rfl dX7_readLine_103 ?_
  refine c_get C hw (inC inW9) (kd_lt kp4 (by decide)) (ce9 kp4) rfl 1 (by decide) (wc w_154) (v := .int (F 4 1)) rfl dX7_readLine_106 ?_
  refine lv_if_ne (tgt := 123) C.1 C.2.1 dX7_readLine_109 (by decide) (fun c109 => ?_) (fun c109 => ?_)
  · replace hh := hh.1 c109
    exact tX7_readLine_b123 C hR hh hw hl
  · replace hh := hh.2 c109
    refine lv_aload_n C.1 C.2.1 dX7_readLine_112 rfl (lv_at hl 0 rfl) ?_
    refine c_get C hw (inC inW7) (kd_lt kp10 (by decide)) (ce7 kp10) rfl 0 (by decide) (wc w_253) (v := .ref (h 4)) rfl dX7_readLine_113 ?_
    refine c_Vv C hw (ctX9_advance l D h cI cL cF cM F L r hh) (cwV 0 C.2.2.2.2 (gd_V w_743 w_728 w_729 w_115 w_730) rfl rfl rfl cdX9_advance ⟨Nat.le_of_ble_eq_true rfl, Nat.le_of_ble_eq_true rfl⟩) rfl (kd_lt kp4 (by decide)) (ce9 kp4) rfl hl.1 (Nat.le_of_ble_eq_true rfl) dX7_readLine_116 ⟨Nat.zero_le _, Nat.zero_le _⟩ (fun u116 H locs hh hw => ?_) rfl
    refine lv_aload_n C.1 C.2.1 dX7_readLine_119 rfl (lv_at hl 0 rfl) ?_
    refine c_Vv C hw (ctX7_readActs l D h cI cL cF cM u116.1 u116.2.1 u116.2.2 hh) (cwV 0 C.2.2.2.2 (gd_V w_781 w_783 w_12 w_116 w_784) rfl rfl rfl cdX7_readActs ⟨Nat.le_of_ble_eq_true rfl, Nat.le_of_ble_eq_true rfl⟩) rfl (kd_lt kp10 (by decide)) (ce7 kp10) rfl hl.1 (Nat.le_of_ble_eq_true rfl) dX7_readLine_120 ⟨Nat.zero_le _, Nat.zero_le _⟩ (fun u120 H locs hh hw => ?_) rfl
    exact tX7_readLine_b123 C hR hh hw hl
set_option maxHeartbeats 4000000 in
set_option maxRecDepth 100000 in
theorem tX7_readLine_b47 {K : cS → Prop} (C : CallFix p m c cX7_readLine 2 s args wsX7_readLine RX7) (hR : Rtv p l e rmX7_readLine s m args below meth c cX7_readLine D A (cT cI cL cF cM) (cWu h cI cL cF cM) K Q) {F : Nat → Nat → Int32} {L : Nat → Nat → Int64} {r : Nat → Nat → Nat} {x1 : Int32} (hh : wpX7_readLine_b47 F L r x1 K) {H : Heap} {locs : List Loc} {ls : Array Slot} (hw : Wd D A s (cT cI cL cF cM) (cW h cI cL cF cM F L r) H locs) (hl : lv_has ls 2 [(0, .ref (h 10)), (1, .int x1)]) : W p l e rmX7_readLine s m args below meth c H locs 0 0 Q (F0 m 47 ls []) := by
  unfold wpX7_readLine_b47 at hh
  refine lv_aload_n C.1 C.2.1 dX7_readLine_47 rfl (lv_at hl 0 rfl) ?_
  refine c_get C hw (inC inW7) (kd_lt kp10 (by decide)) (ce7 kp10) rfl 3 (by decide) (wc w_256) (v := .ref (h (r 10 3))) rfl dX7_readLine_48 ?_
  obtain ⟨hk0, hh⟩ := hh
  refine c_get C hw (inC inW6) (kd_lt hk0 (by decide)) (ce6 hk0) rfl 0 (by decide) (wc w_228) (v := .int (F (r 10 3) 0)) rfl dX7_readLine_51 ?_
  refine lv_bipush (v := (30 : Int32)) C.1 C.2.1 dX7_readLine_54 (by decide) ?_
  refine lv_icmp_lt (tgt := 75) C.1 C.2.1 dX7_readLine_56 (by decide) (fun c56 => ?_) (fun c56 => ?_)
  · replace hh := hh.1 c56
    refine lv_aload_n C.1 C.2.1 dX7_readLine_75 rfl (lv_at hl 0 rfl) ?_
    refine c_get C hw (inC inW7) (kd_lt kp10 (by decide)) (ce7 kp10) rfl 3 (by decide) (wc w_256) (v := .ref (h (r 10 3))) rfl dX7_readLine_76 ?_
    obtain ⟨hk1, hh⟩ := hh
    refine c_Vv C hw (ctX6_openLine l D h cI cL cF cM (r 10 3) hk1 F L r hh) (cwV 0 C.2.2.2.2 (gd_V w_739 w_740 w_741 w_117 w_742) rfl rfl rfl cdX6_openLine ⟨Nat.le_of_ble_eq_true rfl, Nat.le_of_ble_eq_true rfl⟩) rfl (kd_lt hk1 (by decide)) (ce6 hk1) rfl hl.1 (Nat.le_of_ble_eq_true rfl) dX7_readLine_79 ⟨Nat.zero_le _, Nat.zero_le _⟩ (fun u79 H locs hh hw => ?_) rfl
    refine lv_aload_n C.1 C.2.1 dX7_readLine_82 rfl (lv_at hl 0 rfl) ?_
    refine lv_iconst (v := (0 : Int32)) C.1 C.2.1 dX7_readLine_83 (by decide) ?_
    refine c_puti C hw (inC inW7) tyX7 tyX7_ok nmX7 (kd_lt kp10 (by decide)) (ce7 kp10) rfl 2 (by decide) (wc w_255) rfl (ty := .int) (by decide +kernel) rfl rfl (Nat.le_of_ble_eq_true rfl) rfl dX7_readLine_84 (fun H locs hw => ?_)
    refine lv_iload_n C.1 C.2.1 dX7_readLine_87 rfl (lv_at hl 1 rfl) ?_
    refine lv_if_eq (tgt := 102) C.1 C.2.1 dX7_readLine_88 (by decide) (fun c88 => ?_) (fun c88 => ?_)
    · replace hh := hh.1 c88
      exact tX7_readLine_b102 C hR hh hw (lv_sub hl [0] rfl)
    · replace hh := hh.2 c88
      refine lv_aload_n C.1 C.2.1 dX7_readLine_91 rfl (lv_at hl 0 rfl) ?_
      refine c_get C hw (inC inW7) (kd_lt kp10 (by decide)) (ce7 kp10) rfl 0 (by decide) (wc w_253) (v := .ref (h 4)) rfl dX7_readLine_92 ?_
      refine c_Vv C hw (ctX9_advance l D h cI cL cF cM (pt u79.1 10 2 (0 : Int32)) u79.2.1 u79.2.2 hh) (cwV 0 C.2.2.2.2 (gd_V w_743 w_728 w_729 w_115 w_730) rfl rfl rfl cdX9_advance ⟨Nat.le_of_ble_eq_true rfl, Nat.le_of_ble_eq_true rfl⟩) rfl (kd_lt kp4 (by decide)) (ce9 kp4) rfl hl.1 (Nat.le_of_ble_eq_true rfl) dX7_readLine_95 ⟨Nat.zero_le _, Nat.zero_le _⟩ (fun u95 H locs hh hw => ?_) rfl
      refine lv_aload_n C.1 C.2.1 dX7_readLine_98 rfl (lv_at hl 0 rfl) ?_
      refine c_Vv C hw (ctX7_readTests l D h cI cL cF cM u95.1 u95.2.1 u95.2.2 hh) (cwV 0 C.2.2.2.2 (gd_V w_744 w_746 w_7 w_116 w_747) rfl rfl rfl cdX7_readTests ⟨Nat.le_of_ble_eq_true rfl, Nat.le_of_ble_eq_true rfl⟩) rfl (kd_lt kp10 (by decide)) (ce7 kp10) rfl hl.1 (Nat.le_of_ble_eq_true rfl) dX7_readLine_99 ⟨Nat.zero_le _, Nat.zero_le _⟩ (fun u99 H locs hh hw => ?_) rfl
      exact tX7_readLine_b102 C hR hh hw (lv_sub hl [0] rfl)
  · replace hh := hh.2 c56
    refine lv_aload_n C.1 C.2.1 dX7_readLine_59 rfl (lv_at hl 0 rfl) ?_
    refine c_get C hw (inC inW7) (kd_lt kp10 (by decide)) (ce7 kp10) rfl 0 (by decide) (wc w_253) (v := .ref (h 4)) rfl dX7_readLine_60 ?_
    refine lv_iconst (v := (2 : Int32)) C.1 C.2.1 dX7_readLine_63 (by decide) ?_
    refine lv_aload_n C.1 C.2.1 dX7_readLine_64 rfl (lv_at hl 0 rfl) ?_
    refine c_get C hw (inC inW7) (kd_lt kp10 (by decide)) (ce7 kp10) rfl 0 (by decide) (wc w_253) (v := .ref (h 4)) rfl dX7_readLine_65 ?_
    refine c_get C hw (inC inW9) (kd_lt kp4 (by decide)) (ce9 kp4) rfl 4 (by decide) (wc w_163) (v := .int (F 4 4)) rfl dX7_readLine_68 ?_
    refine c_Vv C hw (ctX9_refuse l D h cI cL cF cM F L r (2 : Int32) (F 4 4) hh) (cwV 2 C.2.2.2.2 (gd_V w_735 w_736 w_737 w_115 w_738) rfl rfl rfl cdX9_refuse ⟨Nat.le_of_ble_eq_true rfl, Nat.le_of_ble_eq_true rfl⟩) rfl (kd_lt kp4 (by decide)) (ce9 kp4) rfl hl.1 (Nat.le_of_ble_eq_true rfl) dX7_readLine_71 ⟨Nat.zero_le _, Nat.zero_le _⟩ (fun u71 H locs hh hw => ?_) rfl
    exact hR _ _ (u71.1, u71.2.1, u71.2.2) _ _ dX7_readLine_74 hh hw
set_option maxHeartbeats 4000000 in
set_option maxRecDepth 100000 in
theorem tX7_readLine_b15 {K : cS → Prop} (C : CallFix p m c cX7_readLine 2 s args wsX7_readLine RX7) (hR : Rtv p l e rmX7_readLine s m args below meth c cX7_readLine D A (cT cI cL cF cM) (cWu h cI cL cF cM) K Q) {F : Nat → Nat → Int32} {L : Nat → Nat → Int64} {r : Nat → Nat → Nat} {k0 : Int32} (hh : wpX7_readLine_b15 F L r k0 K) {H : Heap} {locs : List Loc} {ls : Array Slot} (hw : Wd D A s (cT cI cL cF cM) (cW h cI cL cF cM F L r) H locs) (hl : lv_has ls 2 [(0, .ref (h 10))]) : W p l e rmX7_readLine s m args below meth c H locs 0 0 Q (F0 m 15 ls [.int k0]) := by
  unfold wpX7_readLine_b15 at hh
  refine lv_istore_n (lv' := [(1, .int k0), (0, .ref (h 10))]) C.1 C.2.1 dX7_readLine_15 rfl hl (by decide) rfl (fun ls hl => ?_)
  refine lv_iload_n C.1 C.2.1 dX7_readLine_16 rfl (lv_at hl 0 rfl) ?_
  refine lv_if_ne (tgt := 47) C.1 C.2.1 dX7_readLine_17 (by decide) (fun c17 => ?_) (fun c17 => ?_)
  · replace hh := hh.1 c17
    exact tX7_readLine_b47 C hR hh hw (lv_sub hl [1, 0] rfl)
  · replace hh := hh.2 c17
    refine lv_aload_n C.1 C.2.1 dX7_readLine_20 rfl (lv_at hl 1 rfl) ?_
    refine c_get C hw (inC inW7) (kd_lt kp10 (by decide)) (ce7 kp10) rfl 0 (by decide) (wc w_253) (v := .ref (h 4)) rfl dX7_readLine_21 ?_
    refine c_get C hw (inC inW9) (kd_lt kp4 (by decide)) (ce9 kp4) rfl 6 (by decide) (wc w_170) (v := .int (F 4 6)) rfl dX7_readLine_24 ?_
    refine lv_iconst (v := (1 : Int32)) C.1 C.2.1 dX7_readLine_27 (by decide) ?_
    refine lv_icmp_eq (tgt := 47) C.1 C.2.1 dX7_readLine_28 (by decide) (fun c28 => ?_) (fun c28 => ?_)
    · replace hh := hh.1 c28
      exact tX7_readLine_b47 C hR hh hw (lv_sub hl [1, 0] rfl)
    · replace hh := hh.2 c28
      refine lv_aload_n C.1 C.2.1 dX7_readLine_31 rfl (lv_at hl 1 rfl) ?_
      refine c_get C hw (inC inW7) (kd_lt kp10 (by decide)) (ce7 kp10) rfl 0 (by decide) (wc w_253) (v := .ref (h 4)) rfl dX7_readLine_32 ?_
      refine lv_iconst (v := (1 : Int32)) C.1 C.2.1 dX7_readLine_35 (by decide) ?_
      refine lv_aload_n C.1 C.2.1 dX7_readLine_36 rfl (lv_at hl 1 rfl) ?_
      refine c_get C hw (inC inW7) (kd_lt kp10 (by decide)) (ce7 kp10) rfl 0 (by decide) (wc w_253) (v := .ref (h 4)) rfl dX7_readLine_37 ?_
      refine c_get C hw (inC inW9) (kd_lt kp4 (by decide)) (ce9 kp4) rfl 4 (by decide) (wc w_163) (v := .int (F 4 4)) rfl dX7_readLine_40 ?_
      refine c_Vv C hw (ctX9_refuse l D h cI cL cF cM F L r (1 : Int32) (F 4 4) hh) (cwV 2 C.2.2.2.2 (gd_V w_735 w_736 w_737 w_115 w_738) rfl rfl rfl cdX9_refuse ⟨Nat.le_of_ble_eq_true rfl, Nat.le_of_ble_eq_true rfl⟩) rfl (kd_lt kp4 (by decide)) (ce9 kp4) rfl hl.1 (Nat.le_of_ble_eq_true rfl) dX7_readLine_43 ⟨Nat.zero_le _, Nat.zero_le _⟩ (fun u43 H locs hh hw => ?_) rfl
      exact hR _ _ (u43.1, u43.2.1, u43.2.2) _ _ dX7_readLine_46 hh hw
set_option maxHeartbeats 4000000 in
set_option maxRecDepth 100000 in
theorem tX7_readLine_b0 {K : cS → Prop} (C : CallFix p m c cX7_readLine 2 s args wsX7_readLine RX7) (hR : Rtv p l e rmX7_readLine s m args below meth c cX7_readLine D A (cT cI cL cF cM) (cWu h cI cL cF cM) K Q) {F : Nat → Nat → Int32} {L : Nat → Nat → Int64} {r : Nat → Nat → Nat} (hh : wpX7_readLine_b0 F L r K) {H : Heap} {locs : List Loc} {ls : Array Slot} (hw : Wd D A s (cT cI cL cF cM) (cW h cI cL cF cM F L r) H locs) (hl : lv_has ls 2 [(0, .ref (h 10))]) : W p l e rmX7_readLine s m args below meth c H locs 0 0 Q (F0 m 0 ls []) := by
  unfold wpX7_readLine_b0 at hh
  refine lv_aload_n C.1 C.2.1 dX7_readLine_0 rfl (lv_at hl 0 rfl) ?_
  refine c_get C hw (inC inW7) (kd_lt kp10 (by decide)) (ce7 kp10) rfl 0 (by decide) (wc w_253) (v := .ref (h 4)) rfl dX7_readLine_1 ?_
  refine c_get C hw (inC inW9) (kd_lt kp4 (by decide)) (ce9 kp4) rfl 6 (by decide) (wc w_170) (v := .int (F 4 6)) rfl dX7_readLine_4 ?_
  refine lv_if_ne (tgt := 14) C.1 C.2.1 dX7_readLine_7 (by decide) (fun c7 => ?_) (fun c7 => ?_)
  · replace hh := hh.1 c7
    refine lv_iconst (v := (0 : Int32)) C.1 C.2.1 dX7_readLine_14 (by decide) ?_
    exact tX7_readLine_b15 C hR hh hw hl
  · replace hh := hh.2 c7
    refine lv_iconst (v := (1 : Int32)) C.1 C.2.1 dX7_readLine_10 (by decide) ?_
    refine lv_goto (tgt := 15) C.1 C.2.1 dX7_readLine_11 (by decide) ?_
    exact tX7_readLine_b15 C hR hh hw hl
theorem ctX7_readLine (l : Launch) (D : va_G) (h : Nat → Nat) (cI cL cF cM : ClassId) (F : Nat → Nat → Int32) (L : Nat → Nat → Int64) (r : Nat → Nat → Nat) {K : cS → Prop} (hh : wpX7_readLine F L r K) : Cv l yX7_readLine wsX7_readLine rmX7_readLine [.ref (h 10)] D (cT cI cL cF cM) (cWu h cI cL cF cM) (F, L, r) K := by
  refine Cv_of (cc := cX7_readLine) (maxL := 2) (by decide) rfl (Nat.le_of_ble_eq_true rfl) ?_
  intro p e s m below meth c A Q C hw hR ls hl
  exact tX7_readLine_b0 C hR hh hw hl
theorem cdX7_readLine : yX7_readLine.cls = RX7 ∧ yX7_readLine.cls ≠ "java/lang/invoke/MethodHandle" ∧ yX7_readLine.cls ≠ "java/lang/invoke/VarHandle" ∧ (parseMethodDescriptor yX7_readLine.desc).map (fun d => d.parameters.length) = some 0 := by decide +kernel
abbrev rmX7_read : Room := { frames := 7, cells := 0, slots := 0, locals := 157 }
set_option maxHeartbeats 4000000 in
set_option maxRecDepth 100000 in
theorem tX7_read_b71 {K : Int32 → cS → Prop} (C : CallFix p m c cX7_read 3 s args wsX7_read RX7) (hR : Rti .boolean p l e rmX7_read s m args below meth c cX7_read D A (cT cI cL cF cM) (cWu h cI cL cF cM) K Q) {F : Nat → Nat → Int32} {L : Nat → Nat → Int64} {r : Nat → Nat → Nat} {k0 : Int32} (hh : wpX7_read_b71 F L r k0 K) {H : Heap} {locs : List Loc} {ls : Array Slot} (hw : Wd D A s (cT cI cL cF cM) (cW h cI cL cF cM F L r) H locs) (hl : lv_has ls 3 [(0, .ref (h 10))]) : W p l e rmX7_read s m args below meth c H locs 0 0 Q (F0 m 71 ls [.int k0]) := by
  unfold wpX7_read_b71 at hh
  obtain ⟨hb71, hh⟩ := hh
  exact hR _ _ _ (F, L, r) _ _ dX7_read_71 (isB_nar hb71) hh hw
set_option maxHeartbeats 4000000 in
set_option maxRecDepth 100000 in
theorem tX7_read_b56 {K : Int32 → cS → Prop} (C : CallFix p m c cX7_read 3 s args wsX7_read RX7) (hR : Rti .boolean p l e rmX7_read s m args below meth c cX7_read D A (cT cI cL cF cM) (cWu h cI cL cF cM) K Q) {F : Nat → Nat → Int32} {L : Nat → Nat → Int64} {r : Nat → Nat → Nat} (hh : wpX7_read_b56 F L r K) {H : Heap} {locs : List Loc} {ls : Array Slot} (hw : Wd D A s (cT cI cL cF cM) (cW h cI cL cF cM F L r) H locs) (hl : lv_has ls 3 [(0, .ref (h 10))]) : W p l e rmX7_read s m args below meth c H locs 0 0 Q (F0 m 56 ls []) := by
  unfold wpX7_read_b56 at hh
  refine lv_aload_n C.1 C.2.1 dX7_read_56 rfl (lv_at hl 0 rfl) ?_
  refine c_get C hw (inC inW7) (kd_lt kp10 (by decide)) (ce7 kp10) rfl 0 (by decide) (wc w_253) (v := .ref (h 4)) rfl dX7_read_57 ?_
  refine c_get C hw (inC inW9) (kd_lt kp4 (by decide)) (ce9 kp4) rfl 1 (by decide) (wc w_154) (v := .int (F 4 1)) rfl dX7_read_60 ?_
  refine lv_if_ne (tgt := 70) C.1 C.2.1 dX7_read_63 (by decide) (fun c63 => ?_) (fun c63 => ?_)
  · replace hh := hh.1 c63
    refine lv_iconst (v := (0 : Int32)) C.1 C.2.1 dX7_read_70 (by decide) ?_
    exact tX7_read_b71 C hR hh hw hl
  · replace hh := hh.2 c63
    refine lv_iconst (v := (1 : Int32)) C.1 C.2.1 dX7_read_66 (by decide) ?_
    refine lv_goto (tgt := 71) C.1 C.2.1 dX7_read_67 (by decide) ?_
    exact tX7_read_b71 C hR hh hw hl
set_option maxHeartbeats 4000000 in
set_option maxRecDepth 100000 in
theorem tX7_read_b20_body {B20 : (Nat → Nat → Int32) → (Nat → Nat → Int64) → (Nat → Nat → Nat) → Int32 → Prop} {K : Int32 → cS → Prop} (C : CallFix p m c cX7_read 3 s args wsX7_read RX7) (hR : Rti .boolean p l e rmX7_read s m args below meth c cX7_read D A (cT cI cL cF cM) (cWu h cI cL cF cM) K Q) (hB20 : ∀ (F : Nat → Nat → Int32) (L : Nat → Nat → Int64) (r : Nat → Nat → Nat) (x2 : Int32) (H : Heap) (locs : List Loc) (ls : Array Slot), B20 F L r x2 → Wd D A s (cT cI cL cF cM) (cW h cI cL cF cM F L r) H locs → lv_has ls 3 [(0, .ref (h 10)), (2, .int x2)] → W p l e rmX7_read s m args below meth c H locs 0 0 Q (F0 m 20 ls [])) {F : Nat → Nat → Int32} {L : Nat → Nat → Int64} {r : Nat → Nat → Nat} {x2 : Int32} (hh : wpX7_read_b20_body B20 F L r x2 K) {H : Heap} {locs : List Loc} {ls : Array Slot} (hw : Wd D A s (cT cI cL cF cM) (cW h cI cL cF cM F L r) H locs) (hl : lv_has ls 3 [(0, .ref (h 10)), (2, .int x2)]) : W p l e rmX7_read s m args below meth c H locs 0 0 Q (F0 m 20 ls []) := by
  unfold wpX7_read_b20_body at hh
  refine lv_iload_n C.1 C.2.1 dX7_read_20 rfl (lv_at hl 1 rfl) ?_
  refine lv_bipush (v := (30 : Int32)) C.1 C.2.1 dX7_read_21 (by decide) ?_
  refine lv_icmp_gt (tgt := 56) C.1 C.2.1 dX7_read_23 (by decide) (fun c23 => ?_) (fun c23 => ?_)
  · replace hh := hh.1 c23
    exact tX7_read_b56 C hR hh hw (lv_sub hl [0] rfl)
  · replace hh := hh.2 c23
    refine lv_aload_n C.1 C.2.1 dX7_read_26 rfl (lv_at hl 0 rfl) ?_
    refine c_get C hw (inC inW7) (kd_lt kp10 (by decide)) (ce7 kp10) rfl 0 (by decide) (wc w_253) (v := .ref (h 4)) rfl dX7_read_27 ?_
    refine c_get C hw (inC inW9) (kd_lt kp4 (by decide)) (ce9 kp4) rfl 1 (by decide) (wc w_154) (v := .int (F 4 1)) rfl dX7_read_30 ?_
    refine lv_if_ne (tgt := 56) C.1 C.2.1 dX7_read_33 (by decide) (fun c33 => ?_) (fun c33 => ?_)
    · replace hh := hh.1 c33
      exact tX7_read_b56 C hR hh hw (lv_sub hl [0] rfl)
    · replace hh := hh.2 c33
      refine lv_aload_n C.1 C.2.1 dX7_read_36 rfl (lv_at hl 0 rfl) ?_
      refine c_get C hw (inC inW7) (kd_lt kp10 (by decide)) (ce7 kp10) rfl 0 (by decide) (wc w_253) (v := .ref (h 4)) rfl dX7_read_37 ?_
      refine c_get C hw (inC inW9) (kd_lt kp4 (by decide)) (ce9 kp4) rfl 3 (by decide) (wc w_160) (v := .int (F 4 3)) rfl dX7_read_40 ?_
      refine lv_if_eq (tgt := 56) C.1 C.2.1 dX7_read_43 (by decide) (fun c43 => ?_) (fun c43 => ?_)
      · replace hh := hh.1 c43
        exact tX7_read_b56 C hR hh hw (lv_sub hl [0] rfl)
      · replace hh := hh.2 c43
        refine lv_aload_n C.1 C.2.1 dX7_read_46 rfl (lv_at hl 0 rfl) ?_
        refine c_Vv C hw (ctX7_readLine l D h cI cL cF cM F L r hh) (cwV 0 C.2.2.2.2 (gd_V w_731 w_733 w_6 w_116 w_734) rfl rfl rfl cdX7_readLine ⟨Nat.le_of_ble_eq_true rfl, Nat.le_of_ble_eq_true rfl⟩) rfl (kd_lt kp10 (by decide)) (ce7 kp10) rfl hl.1 (Nat.le_of_ble_eq_true rfl) dX7_read_47 ⟨Nat.zero_le _, Nat.zero_le _⟩ (fun u47 H locs hh hw => ?_) rfl
        refine lv_iinc (v := x2 + (1 : Int32)) (lv' := [(2, .int (x2 + (1 : Int32))), (0, .ref (h 10))]) C.1 C.2.1 dX7_read_50 hl (k := 1) rfl rfl (by decide) rfl (fun ls hl => ?_)
        refine lv_goto (tgt := 20) C.1 C.2.1 dX7_read_53 (by decide) ?_
        exact hB20 _ _ _ _ _ _ _ hh hw (lv_sub hl [1, 0] rfl)
theorem tX7_read_b20 {K : Int32 → cS → Prop} (C : CallFix p m c cX7_read 3 s args wsX7_read RX7) (hR : Rti .boolean p l e rmX7_read s m args below meth c cX7_read D A (cT cI cL cF cM) (cWu h cI cL cF cM) K Q) (n : Nat) : ∀ (F : Nat → Nat → Int32) (L : Nat → Nat → Int64) (r : Nat → Nat → Nat) (x2 : Int32) (H : Heap) (locs : List Loc) (ls : Array Slot), wpX7_read_b20 n F L r x2 K → Wd D A s (cT cI cL cF cM) (cW h cI cL cF cM F L r) H locs → lv_has ls 3 [(0, .ref (h 10)), (2, .int x2)] → W p l e rmX7_read s m args below meth c H locs 0 0 Q (F0 m 20 ls []) := by
  induction n with
  | zero => intro F L r x2 H locs ls hh; exact hh.elim
  | succ n ih => intro F L r x2 H locs ls hh hw hl; exact tX7_read_b20_body C hR ih hh hw hl
set_option maxHeartbeats 4000000 in
set_option maxRecDepth 100000 in
theorem tX7_read_b0 {K : Int32 → cS → Prop} (C : CallFix p m c cX7_read 3 s args wsX7_read RX7) (hR : Rti .boolean p l e rmX7_read s m args below meth c cX7_read D A (cT cI cL cF cM) (cWu h cI cL cF cM) K Q) {F : Nat → Nat → Int32} {L : Nat → Nat → Int64} {r : Nat → Nat → Nat} {x1 : Int32} (hh : wpX7_read_b0 F L r x1 K) {H : Heap} {locs : List Loc} {ls : Array Slot} (hw : Wd D A s (cT cI cL cF cM) (cW h cI cL cF cM F L r) H locs) (hl : lv_has ls 3 [(0, .ref (h 10)), (1, .int x1)]) : W p l e rmX7_read s m args below meth c H locs 0 0 Q (F0 m 0 ls []) := by
  unfold wpX7_read_b0 at hh
  refine lv_aload_n C.1 C.2.1 dX7_read_0 rfl (lv_at hl 0 rfl) ?_
  refine c_get C hw (inC inW7) (kd_lt kp10 (by decide)) (ce7 kp10) rfl 3 (by decide) (wc w_256) (v := .ref (h (r 10 3))) rfl dX7_read_1 ?_
  refine lv_iconst (v := (0 : Int32)) C.1 C.2.1 dX7_read_4 (by decide) ?_
  obtain ⟨hk0, hh⟩ := hh
  refine c_puti C hw (inC inW6) tyX6 tyX6_ok nmX6 (kd_lt hk0 (by decide)) (ce6 hk0) rfl 0 (by decide) (wc w_228) rfl (ty := .int) (by decide +kernel) rfl rfl (Nat.le_of_ble_eq_true rfl) rfl dX7_read_5 (fun H locs hw => ?_)
  refine lv_aload_n C.1 C.2.1 dX7_read_8 rfl (lv_at hl 0 rfl) ?_
  refine c_get C hw (inC inW7) (kd_lt kp10 (by decide)) (ce7 kp10) rfl 0 (by decide) (wc w_253) (v := .ref (h 4)) rfl dX7_read_9 ?_
  refine lv_iload_n C.1 C.2.1 dX7_read_12 rfl (lv_at hl 1 rfl) ?_
  refine va_ldcS C.1 C.2.1 C.2.2.2.1 hw.2.2.2.2.2.1 dX7_read_13 ?_
  refine c_Vv C hw (ctX9_open l D h cI cL cF cM 0 (by decide) (pt F (r 10 3) 0 (0 : Int32)) L r x1 hh) (cwV 2 C.2.2.2.2 (gd_V w_637 w_638 w_639 w_115 w_640) rfl rfl rfl cdX9_open ⟨Nat.le_of_ble_eq_true rfl, Nat.le_of_ble_eq_true rfl⟩) rfl (kd_lt kp4 (by decide)) (ce9 kp4) rfl hl.1 (Nat.le_of_ble_eq_true rfl) dX7_read_15 ⟨Nat.zero_le _, Nat.zero_le _⟩ (fun u15 H locs hh hw => ?_) rfl
  refine lv_iconst (v := (0 : Int32)) C.1 C.2.1 dX7_read_18 (by decide) ?_
  refine lv_istore_n (lv' := [(2, .int (0 : Int32)), (0, .ref (h 10)), (1, .int x1)]) C.1 C.2.1 dX7_read_19 rfl hl (by decide) rfl (fun ls hl => ?_)
  obtain ⟨n, hh⟩ := hh
  exact tX7_read_b20 C hR n _ _ _ _ _ _ _ hh hw (lv_sub hl [1, 0] rfl)
theorem ctX7_read (l : Launch) (D : va_G) (h : Nat → Nat) (cI cL cF cM : ClassId) (F : Nat → Nat → Int32) (L : Nat → Nat → Int64) (r : Nat → Nat → Nat) (x1 : Int32) {K : Int32 → cS → Prop} (hh : wpX7_read F L r x1 K) : Ci l yX7_read wsX7_read rmX7_read [.ref (h 10), .int x1] D (cT cI cL cF cM) (cWu h cI cL cF cM) (F, L, r) K := by
  refine Ci_of (cc := cX7_read) (maxL := 3) (by decide) rfl (Nat.le_of_ble_eq_true rfl) ?_
  intro p e s m below meth c A Q C hw hR ls hl
  exact tX7_read_b0 C hR hh hw hl
theorem cdX7_read : yX7_read.cls = RX7 ∧ yX7_read.cls ≠ "java/lang/invoke/MethodHandle" ∧ yX7_read.cls ≠ "java/lang/invoke/VarHandle" ∧ (parseMethodDescriptor yX7_read.desc).map (fun d => d.parameters.length) = some 1 := by decide +kernel
abbrev rmX7_exchange : Room := { frames := 0, cells := 0, slots := 0, locals := 0 }
set_option maxHeartbeats 4000000 in
set_option maxRecDepth 100000 in
theorem tX7_exchange_b0 {a1 : Nat} {K : Nat → cS → Prop} (C : CallFix p m c cX7_exchange 3 s args wsX7_exchange RX7) (hR : Rtr p l e rmX7_exchange s m args below meth c cX7_exchange D A (cT cI cL cF cM) (cWu h cI cL cF cM) h K Q) (ha1 : kd a1 = 6) {F : Nat → Nat → Int32} {L : Nat → Nat → Int64} {r : Nat → Nat → Nat} (hh : wpX7_exchange_b0 a1 F L r K) {H : Heap} {locs : List Loc} {ls : Array Slot} (hw : Wd D A s (cT cI cL cF cM) (cW h cI cL cF cM F L r) H locs) (hl : lv_has ls 3 [(0, .ref (h 10)), (1, .ref (h a1))]) : W p l e rmX7_exchange s m args below meth c H locs 0 0 Q (F0 m 0 ls []) := by
  unfold wpX7_exchange_b0 at hh
  refine lv_aload_n C.1 C.2.1 dX7_exchange_0 rfl (lv_at hl 0 rfl) ?_
  refine c_get C hw (inC inW7) (kd_lt kp10 (by decide)) (ce7 kp10) rfl 3 (by decide) (wc w_256) (v := .ref (h (r 10 3))) rfl dX7_exchange_1 ?_
  refine lv_astore_n (lv' := [(2, .ref (h (r 10 3))), (0, .ref (h 10)), (1, .ref (h a1))]) C.1 C.2.1 dX7_exchange_4 rfl hl (by decide) rfl (fun ls hl => ?_)
  refine lv_aload_n C.1 C.2.1 dX7_exchange_5 rfl (lv_at hl 1 rfl) ?_
  refine lv_aload_n C.1 C.2.1 dX7_exchange_6 rfl (lv_at hl 2 rfl) ?_
  refine c_putr (v := a1) C hw (inC inW7) tyX7 tyX7_ok nmX7 (kd_lt kp10 (by decide)) (ce7 kp10) rfl 3 (by decide) (wc w_256) rfl (ty := .object "RelayMouse$Rules") (by decide +kernel) rfl rfl (Nat.le_of_ble_eq_true rfl) rfl dX7_exchange_7 (fun H locs hw => ?_)
  refine lv_aload_n C.1 C.2.1 dX7_exchange_10 rfl (lv_at hl 0 rfl) ?_
  exact hR _ _ (r 10 3) (F, L, ptN r 10 3 a1) _ _ dX7_exchange_11 hh hw
theorem ctX7_exchange (l : Launch) (D : va_G) (h : Nat → Nat) (cI cL cF cM : ClassId) (a1 : Nat) (ha1 : kd a1 = 6) (F : Nat → Nat → Int32) (L : Nat → Nat → Int64) (r : Nat → Nat → Nat) {K : Nat → cS → Prop} (hh : wpX7_exchange a1 F L r K) : Cr l yX7_exchange wsX7_exchange rmX7_exchange [.ref (h 10), .ref (h a1)] D (cT cI cL cF cM) (cWu h cI cL cF cM) h (F, L, r) K := by
  refine Cr_of (cc := cX7_exchange) (maxL := 3) (by decide) rfl (Nat.le_of_ble_eq_true rfl) ?_
  intro p e s m below meth c A Q C hw hR ls hl
  exact tX7_exchange_b0 C hR ha1 hh hw hl
theorem cdX7_exchange : yX7_exchange.cls = RX7 ∧ yX7_exchange.cls ≠ "java/lang/invoke/MethodHandle" ∧ yX7_exchange.cls ≠ "java/lang/invoke/VarHandle" ∧ (parseMethodDescriptor yX7_exchange.desc).map (fun d => d.parameters.length) = some 1 := by decide +kernel
abbrev rmX8_forget : Room := { frames := 0, cells := 0, slots := 0, locals := 0 }
set_option maxHeartbeats 4000000 in
set_option maxRecDepth 100000 in
theorem tX8_forget_b0 {K : cS → Prop} (C : CallFix p m c cX8_forget 1 s args wsX8_forget RX8) (hR : Rtv p l e rmX8_forget s m args below meth c cX8_forget D A (cT cI cL cF cM) (cWu h cI cL cF cM) K Q) {F : Nat → Nat → Int32} {L : Nat → Nat → Int64} {r : Nat → Nat → Nat} (hh : wpX8_forget_b0 F L r K) {H : Heap} {locs : List Loc} {ls : Array Slot} (hw : Wd D A s (cT cI cL cF cM) (cW h cI cL cF cM F L r) H locs) (hl : lv_has ls 1 [(0, .ref (h 96))]) : W p l e rmX8_forget s m args below meth c H locs 0 0 Q (F0 m 0 ls []) := by
  unfold wpX8_forget_b0 at hh
  refine lv_aload_n C.1 C.2.1 dX8_forget_0 rfl (lv_at hl 0 rfl) ?_
  refine lv_iconst (v := (0 : Int32)) C.1 C.2.1 dX8_forget_1 (by decide) ?_
  refine c_puti C hw (inC inW8) tyX8 tyX8_ok nmX8 (kd_lt kp96 (by decide)) (ce8 kp96) rfl 6 (by decide) (wc w_481) rfl (ty := .int) (by decide +kernel) rfl rfl (Nat.le_of_ble_eq_true rfl) rfl dX8_forget_2 (fun H locs hw => ?_)
  refine lv_aload_n C.1 C.2.1 dX8_forget_5 rfl (lv_at hl 0 rfl) ?_
  refine lv_iconst (v := (0 : Int32)) C.1 C.2.1 dX8_forget_6 (by decide) ?_
  refine c_puti C hw (inC inW8) tyX8 tyX8_ok nmX8 (kd_lt kp96 (by decide)) (ce8 kp96) rfl 7 (by decide) (wc w_482) rfl (ty := .int) (by decide +kernel) rfl rfl (Nat.le_of_ble_eq_true rfl) rfl dX8_forget_7 (fun H locs hw => ?_)
  exact hR _ _ (pt (pt F 96 6 (0 : Int32)) 96 7 (0 : Int32), L, r) _ _ dX8_forget_10 hh hw
theorem ctX8_forget (l : Launch) (D : va_G) (h : Nat → Nat) (cI cL cF cM : ClassId) (F : Nat → Nat → Int32) (L : Nat → Nat → Int64) (r : Nat → Nat → Nat) {K : cS → Prop} (hh : wpX8_forget F L r K) : Cv l yX8_forget wsX8_forget rmX8_forget [.ref (h 96)] D (cT cI cL cF cM) (cWu h cI cL cF cM) (F, L, r) K := by
  refine Cv_of (cc := cX8_forget) (maxL := 1) (by decide) rfl (Nat.le_of_ble_eq_true rfl) ?_
  intro p e s m below meth c A Q C hw hR ls hl
  exact tX8_forget_b0 C hR hh hw hl
theorem cdX8_forget : yX8_forget.cls = RX8 ∧ yX8_forget.cls ≠ "java/lang/invoke/MethodHandle" ∧ yX8_forget.cls ≠ "java/lang/invoke/VarHandle" ∧ (parseMethodDescriptor yX8_forget.desc).map (fun d => d.parameters.length) = some 0 := by decide +kernel
abbrev rmX10_rules : Room := { frames := 8, cells := 0, slots := 0, locals := 179 }
set_option maxHeartbeats 4000000 in
set_option maxRecDepth 100000 in
theorem tX10_rules_b15 {K : Int32 → cS → Prop} (C : CallFix p m c cX10_rules 2 s args wsX10_rules RX10) (hR : Rti .int p l e rmX10_rules s m args below meth c cX10_rules D A (cT cI cL cF cM) (cWu h cI cL cF cM) K Q) {F : Nat → Nat → Int32} {L : Nat → Nat → Int64} {r : Nat → Nat → Nat} (hh : wpX10_rules_b15 F L r K) {H : Heap} {locs : List Loc} {ls : Array Slot} (hw : Wd D A s (cT cI cL cF cM) (cW h cI cL cF cM F L r) H locs) (hl : lv_has ls 2 [(0, .ref (h 0))]) : W p l e rmX10_rules s m args below meth c H locs 0 0 Q (F0 m 15 ls []) := by
  unfold wpX10_rules_b15 at hh
  refine lv_bipush (v := (-2 : Int32)) C.1 C.2.1 dX10_rules_15 (by decide) ?_
  exact hR _ _ _ (F, L, r) _ _ dX10_rules_17 rfl hh hw
set_option maxHeartbeats 4000000 in
set_option maxRecDepth 100000 in
theorem tX10_rules_b0 {K : Int32 → cS → Prop} (C : CallFix p m c cX10_rules 2 s args wsX10_rules RX10) (hR : Rti .int p l e rmX10_rules s m args below meth c cX10_rules D A (cT cI cL cF cM) (cWu h cI cL cF cM) K Q) {F : Nat → Nat → Int32} {L : Nat → Nat → Int64} {r : Nat → Nat → Nat} {x1 : Int32} (hh : wpX10_rules_b0 F L r x1 K) {H : Heap} {locs : List Loc} {ls : Array Slot} (hw : Wd D A s (cT cI cL cF cM) (cW h cI cL cF cM F L r) H locs) (hl : lv_has ls 2 [(0, .ref (h 0)), (1, .int x1)]) : W p l e rmX10_rules s m args below meth c H locs 0 0 Q (F0 m 0 ls []) := by
  unfold wpX10_rules_b0 at hh
  refine lv_iload_n C.1 C.2.1 dX10_rules_0 rfl (lv_at hl 1 rfl) ?_
  refine lv_if_lt (tgt := 15) C.1 C.2.1 dX10_rules_1 (by decide) (fun c1 => ?_) (fun c1 => ?_)
  · replace hh := hh.1 c1
    exact tX10_rules_b15 C hR hh hw (lv_sub hl [0] rfl)
  · replace hh := hh.2 c1
    refine lv_iload_n C.1 C.2.1 dX10_rules_4 rfl (lv_at hl 1 rfl) ?_
    refine lv_aload_n C.1 C.2.1 dX10_rules_5 rfl (lv_at hl 0 rfl) ?_
    refine c_get C hw (inC inW10) (kd_lt kp0 (by decide)) (ce10 kp0) rfl 0 (by decide) (wc w_570) (v := .ref (h 4)) rfl dX10_rules_6 ?_
    refine c_get C hw (inC inW9) (kd_lt kp4 (by decide)) (ce9 kp4) rfl 0 (by decide) (wc w_153) (v := .int (F 4 0)) rfl dX10_rules_9 ?_
    refine lv_icmp_le (tgt := 18) C.1 C.2.1 dX10_rules_12 (by decide) (fun c12 => ?_) (fun c12 => ?_)
    · replace hh := hh.1 c12
      refine lv_aload_n C.1 C.2.1 dX10_rules_18 rfl (lv_at hl 0 rfl) ?_
      refine c_get C hw (inC inW10) (kd_lt kp0 (by decide)) (ce10 kp0) rfl 1 (by decide) (wc w_571) (v := .ref (h 10)) rfl dX10_rules_19 ?_
      refine lv_iload_n C.1 C.2.1 dX10_rules_22 rfl (lv_at hl 1 rfl) ?_
      refine c_Vi C hw (ctX7_read l D h cI cL cF cM F L r x1 hh) (cwV 1 C.2.2.2.2 (gd_V w_632 w_633 w_634 w_116 w_635) rfl rfl rfl cdX7_read ⟨Nat.le_of_ble_eq_true rfl, Nat.le_of_ble_eq_true rfl⟩) rfl (kd_lt kp10 (by decide)) (ce7 kp10) rfl hl.1 (Nat.le_of_ble_eq_true rfl) dX10_rules_23 ⟨Nat.zero_le _, Nat.zero_le _⟩ (fun r23 u23 H locs hh hw => ?_) rfl
      refine lv_if_ne (tgt := 31) C.1 C.2.1 dX10_rules_26 (by decide) (fun c26 => ?_) (fun c26 => ?_)
      · replace hh := hh.1 c26
        refine lv_aload_n C.1 C.2.1 dX10_rules_31 rfl (lv_at hl 0 rfl) ?_
        refine lv_aload_n C.1 C.2.1 dX10_rules_32 rfl (lv_at hl 0 rfl) ?_
        refine c_get C hw (inC inW10) (kd_lt kp0 (by decide)) (ce10 kp0) rfl 1 (by decide) (wc w_571) (v := .ref (h 10)) rfl dX10_rules_33 ?_
        refine lv_aload_n C.1 C.2.1 dX10_rules_36 rfl (lv_at hl 0 rfl) ?_
        refine c_get C hw (inC inW10) (kd_lt kp0 (by decide)) (ce10 kp0) rfl 3 (by decide) (wc w_573) (v := .ref (h (u23.2.2 0 3))) rfl dX10_rules_37 ?_
        obtain ⟨hk0, hh⟩ := hh
        refine c_Vr C hw (ctX7_exchange l D h cI cL cF cM (u23.2.2 0 3) hk0 u23.1 u23.2.1 u23.2.2 hh) (cwV 1 C.2.2.2.2 (gd_V w_803 w_804 w_805 w_116 w_806) rfl rfl rfl cdX7_exchange ⟨Nat.le_of_ble_eq_true rfl, Nat.le_of_ble_eq_true rfl⟩) rfl (kd_lt kp10 (by decide)) (ce7 kp10) rfl hl.1 (Nat.le_of_ble_eq_true rfl) dX10_rules_40 ⟨Nat.zero_le _, Nat.zero_le _⟩ (fun r40 u40 H locs hh hw => ?_) rfl
        refine c_putr (v := r40) C hw (inC inW10) tyX10 tyX10_ok nmX10 (kd_lt kp0 (by decide)) (ce10 kp0) rfl 3 (by decide) (wc w_573) rfl (ty := .object "RelayMouse$Rules") (by decide +kernel) rfl rfl (Nat.le_of_ble_eq_true rfl) rfl dX10_rules_43 (fun H locs hw => ?_)
        refine lv_aload_n C.1 C.2.1 dX10_rules_46 rfl (lv_at hl 0 rfl) ?_
        refine c_get C hw (inC inW10) (kd_lt kp0 (by decide)) (ce10 kp0) rfl 6 (by decide) (wc w_576) (v := .ref (h 74)) rfl dX10_rules_47 ?_
        refine lv_iconst (v := (-1 : Int32)) C.1 C.2.1 dX10_rules_50 (by decide) ?_
        refine c_puti C hw (inC inW3) tyX3 tyX3_ok nmX3 (kd_lt kp74 (by decide)) (ce3 kp74) rfl 6 (by decide) (wc w_406) rfl (ty := .int) (by decide +kernel) rfl rfl (Nat.le_of_ble_eq_true rfl) rfl dX10_rules_51 (fun H locs hw => ?_)
        refine lv_aload_n C.1 C.2.1 dX10_rules_54 rfl (lv_at hl 0 rfl) ?_
        refine c_get C hw (inC inW10) (kd_lt kp0 (by decide)) (ce10 kp0) rfl 13 (by decide) (wc w_583) (v := .ref (h 96)) rfl dX10_rules_55 ?_
        refine c_Vv C hw (ctX8_forget l D h cI cL cF cM (pt u40.1 74 6 (-1 : Int32)) u40.2.1 (ptN u40.2.2 0 3 r40) hh) (cwV 0 C.2.2.2.2 (gd_V w_807 w_808 w_809 w_123 w_810) rfl rfl rfl cdX8_forget ⟨Nat.le_of_ble_eq_true rfl, Nat.le_of_ble_eq_true rfl⟩) rfl (kd_lt kp96 (by decide)) (ce8 kp96) rfl hl.1 (Nat.le_of_ble_eq_true rfl) dX10_rules_58 ⟨Nat.zero_le _, Nat.zero_le _⟩ (fun u58 H locs hh hw => ?_) rfl
        refine lv_aload_n C.1 C.2.1 dX10_rules_61 rfl (lv_at hl 0 rfl) ?_
        refine c_get C hw (inC inW10) (kd_lt kp0 (by decide)) (ce10 kp0) rfl 3 (by decide) (wc w_573) (v := .ref (h (u58.2.2 0 3))) rfl dX10_rules_62 ?_
        obtain ⟨hk1, hh⟩ := hh
        refine c_get C hw (inC inW6) (kd_lt hk1 (by decide)) (ce6 hk1) rfl 0 (by decide) (wc w_229) (v := .int (u58.1 (u58.2.2 0 3) 0)) rfl dX10_rules_65 ?_
        exact hR _ _ _ (u58.1, u58.2.1, u58.2.2) _ _ dX10_rules_68 rfl hh hw
      · replace hh := hh.2 c26
        refine lv_iconst (v := (-1 : Int32)) C.1 C.2.1 dX10_rules_29 (by decide) ?_
        exact hR _ _ _ (u23.1, u23.2.1, u23.2.2) _ _ dX10_rules_30 rfl hh hw
    · replace hh := hh.2 c12
      exact tX10_rules_b15 C hR hh hw (lv_sub hl [0] rfl)
theorem ctX10_rules (l : Launch) (D : va_G) (h : Nat → Nat) (cI cL cF cM : ClassId) (F : Nat → Nat → Int32) (L : Nat → Nat → Int64) (r : Nat → Nat → Nat) (x1 : Int32) {K : Int32 → cS → Prop} (hh : wpX10_rules F L r x1 K) : Ci l yX10_rules wsX10_rules rmX10_rules [.ref (h 0), .int x1] D (cT cI cL cF cM) (cWu h cI cL cF cM) (F, L, r) K := by
  refine Ci_of (cc := cX10_rules) (maxL := 2) (by decide) rfl (Nat.le_of_ble_eq_true rfl) ?_
  intro p e s m below meth c A Q C hw hR ls hl
  exact tX10_rules_b0 C hR hh hw hl
theorem cdX10_rules : yX10_rules.cls = RX10 ∧ yX10_rules.cls ≠ "java/lang/invoke/MethodHandle" ∧ yX10_rules.cls ≠ "java/lang/invoke/VarHandle" ∧ (parseMethodDescriptor yX10_rules.desc).map (fun d => d.parameters.length) = some 1 := by decide +kernel
abbrev rmX4_clear : Room := { frames := 0, cells := 0, slots := 0, locals := 0 }
set_option maxHeartbeats 4000000 in
set_option maxRecDepth 100000 in
theorem tX4_clear_b55 {a0 : Nat} {K : cS → Prop} (C : CallFix p m c cX4_clear 2 s args wsX4_clear RX4) (hR : Rtv p l e rmX4_clear s m args below meth c cX4_clear D A (cT cI cL cF cM) (cWu h cI cL cF cM) K Q) (ha0 : kd a0 = 4) {F : Nat → Nat → Int32} {L : Nat → Nat → Int64} {r : Nat → Nat → Nat} (hh : wpX4_clear_b55 a0 F L r K) {H : Heap} {locs : List Loc} {ls : Array Slot} (hw : Wd D A s (cT cI cL cF cM) (cW h cI cL cF cM F L r) H locs) (hl : lv_has ls 2 [(0, .ref (h a0))]) : W p l e rmX4_clear s m args below meth c H locs 0 0 Q (F0 m 55 ls []) := by
  unfold wpX4_clear_b55 at hh
  exact hR _ _ (F, L, r) _ _ dX4_clear_55 hh hw
set_option maxHeartbeats 4000000 in
set_option maxRecDepth 100000 in
theorem tX4_clear_b17_body {a0 : Nat} {B17 : (Nat → Nat → Int32) → (Nat → Nat → Int64) → (Nat → Nat → Nat) → Int32 → Prop} {K : cS → Prop} (C : CallFix p m c cX4_clear 2 s args wsX4_clear RX4) (hR : Rtv p l e rmX4_clear s m args below meth c cX4_clear D A (cT cI cL cF cM) (cWu h cI cL cF cM) K Q) (ha0 : kd a0 = 4) (hB17 : ∀ (F : Nat → Nat → Int32) (L : Nat → Nat → Int64) (r : Nat → Nat → Nat) (x1 : Int32) (H : Heap) (locs : List Loc) (ls : Array Slot), B17 F L r x1 → Wd D A s (cT cI cL cF cM) (cW h cI cL cF cM F L r) H locs → lv_has ls 2 [(0, .ref (h a0)), (1, .int x1)] → W p l e rmX4_clear s m args below meth c H locs 0 0 Q (F0 m 17 ls [])) {F : Nat → Nat → Int32} {L : Nat → Nat → Int64} {r : Nat → Nat → Nat} {x1 : Int32} (hh : wpX4_clear_b17_body B17 a0 F L r x1 K) {H : Heap} {locs : List Loc} {ls : Array Slot} (hw : Wd D A s (cT cI cL cF cM) (cW h cI cL cF cM F L r) H locs) (hl : lv_has ls 2 [(0, .ref (h a0)), (1, .int x1)]) : W p l e rmX4_clear s m args below meth c H locs 0 0 Q (F0 m 17 ls []) := by
  unfold wpX4_clear_b17_body at hh
  refine lv_iload_n C.1 C.2.1 dX4_clear_17 rfl (lv_at hl 1 rfl) ?_
  refine lv_aload_n C.1 C.2.1 dX4_clear_18 rfl (lv_at hl 0 rfl) ?_
  refine c_get C hw (inC inW4) (kd_lt ha0 (by decide)) (ce4 ha0) rfl 4 (by decide) (wc w_290) (v := .ref (h (a0 + 2))) rfl dX4_clear_19 ?_
  refine c_len C hw (kd_lt (kd4_2 ha0) (by decide)) (ce21 (kd4_2 ha0)) (v := (24 : Int32)) (by decide) dX4_clear_22 ?_
  refine lv_icmp_ge (tgt := 55) C.1 C.2.1 dX4_clear_23 (by decide) (fun c23 => ?_) (fun c23 => ?_)
  · replace hh := hh.1 c23
    exact tX4_clear_b55 C hR ha0 hh hw (lv_sub hl [0] rfl)
  · replace hh := hh.2 c23
    refine lv_iload_n C.1 C.2.1 dX4_clear_26 rfl (lv_at hl 1 rfl) ?_
    refine lv_aload_n C.1 C.2.1 dX4_clear_27 rfl (lv_at hl 0 rfl) ?_
    refine c_get C hw (inC inW4) (kd_lt ha0 (by decide)) (ce4 ha0) rfl 5 (by decide) (wc w_292) (v := .ref (h (a0 + 3))) rfl dX4_clear_28 ?_
    refine c_len C hw (kd_lt (kd4_3 ha0) (by decide)) (ce21 (kd4_3 ha0)) (v := (24 : Int32)) (by decide) dX4_clear_31 ?_
    refine lv_icmp_ge (tgt := 55) C.1 C.2.1 dX4_clear_32 (by decide) (fun c32 => ?_) (fun c32 => ?_)
    · replace hh := hh.1 c32
      exact tX4_clear_b55 C hR ha0 hh hw (lv_sub hl [0] rfl)
    · replace hh := hh.2 c32
      refine lv_aload_n C.1 C.2.1 dX4_clear_35 rfl (lv_at hl 0 rfl) ?_
      refine c_get C hw (inC inW4) (kd_lt ha0 (by decide)) (ce4 ha0) rfl 4 (by decide) (wc w_290) (v := .ref (h (a0 + 2))) rfl dX4_clear_36 ?_
      refine lv_iload_n C.1 C.2.1 dX4_clear_39 rfl (lv_at hl 1 rfl) ?_
      refine lv_iconst (v := (0 : Int32)) C.1 C.2.1 dX4_clear_40 (by decide) ?_
      obtain ⟨hi41, hh⟩ := hh
      refine c_ias C hw (kd_lt (kd4_2 ha0) (by decide)) (ce21 (kd4_2 ha0)) hi41 dX4_clear_41 (fun H locs hw => ?_)
      refine lv_aload_n C.1 C.2.1 dX4_clear_42 rfl (lv_at hl 0 rfl) ?_
      refine c_get C hw (inC inW4) (kd_lt ha0 (by decide)) (ce4 ha0) rfl 5 (by decide) (wc w_292) (v := .ref (h (a0 + 3))) rfl dX4_clear_43 ?_
      refine lv_iload_n C.1 C.2.1 dX4_clear_46 rfl (lv_at hl 1 rfl) ?_
      refine lv_iconst (v := (0 : Int32)) C.1 C.2.1 dX4_clear_47 (by decide) ?_
      obtain ⟨hi48, hh⟩ := hh
      refine c_ias C hw (kd_lt (kd4_3 ha0) (by decide)) (ce21 (kd4_3 ha0)) hi48 dX4_clear_48 (fun H locs hw => ?_)
      refine lv_iinc (v := x1 + (1 : Int32)) (lv' := [(1, .int (x1 + (1 : Int32))), (0, .ref (h a0))]) C.1 C.2.1 dX4_clear_49 hl (k := 1) rfl rfl (by decide) rfl (fun ls hl => ?_)
      refine lv_goto (tgt := 17) C.1 C.2.1 dX4_clear_52 (by decide) ?_
      exact hB17 _ _ _ _ _ _ _ hh hw (lv_sub hl [1, 0] rfl)
theorem tX4_clear_b17 {a0 : Nat} {K : cS → Prop} (C : CallFix p m c cX4_clear 2 s args wsX4_clear RX4) (hR : Rtv p l e rmX4_clear s m args below meth c cX4_clear D A (cT cI cL cF cM) (cWu h cI cL cF cM) K Q) (ha0 : kd a0 = 4) (n : Nat) : ∀ (F : Nat → Nat → Int32) (L : Nat → Nat → Int64) (r : Nat → Nat → Nat) (x1 : Int32) (H : Heap) (locs : List Loc) (ls : Array Slot), wpX4_clear_b17 a0 n F L r x1 K → Wd D A s (cT cI cL cF cM) (cW h cI cL cF cM F L r) H locs → lv_has ls 2 [(0, .ref (h a0)), (1, .int x1)] → W p l e rmX4_clear s m args below meth c H locs 0 0 Q (F0 m 17 ls []) := by
  induction n with
  | zero => intro F L r x1 H locs ls hh; exact hh.elim
  | succ n ih => intro F L r x1 H locs ls hh hw hl; exact tX4_clear_b17_body C hR ha0 ih hh hw hl
set_option maxHeartbeats 4000000 in
set_option maxRecDepth 100000 in
theorem tX4_clear_b0 {a0 : Nat} {K : cS → Prop} (C : CallFix p m c cX4_clear 2 s args wsX4_clear RX4) (hR : Rtv p l e rmX4_clear s m args below meth c cX4_clear D A (cT cI cL cF cM) (cWu h cI cL cF cM) K Q) (ha0 : kd a0 = 4) {F : Nat → Nat → Int32} {L : Nat → Nat → Int64} {r : Nat → Nat → Nat} (hh : wpX4_clear_b0 a0 F L r K) {H : Heap} {locs : List Loc} {ls : Array Slot} (hw : Wd D A s (cT cI cL cF cM) (cW h cI cL cF cM F L r) H locs) (hl : lv_has ls 2 [(0, .ref (h a0))]) : W p l e rmX4_clear s m args below meth c H locs 0 0 Q (F0 m 0 ls []) := by
  unfold wpX4_clear_b0 at hh
  refine lv_aload_n C.1 C.2.1 dX4_clear_0 rfl (lv_at hl 0 rfl) ?_
  refine lv_iconst (v := (0 : Int32)) C.1 C.2.1 dX4_clear_1 (by decide) ?_
  refine c_puti C hw (inC inW4) tyX4 tyX4_ok nmX4 (kd_lt ha0 (by decide)) (ce4 ha0) rfl 0 (by decide) (wc w_278) rfl (ty := .int) (by decide +kernel) rfl rfl (Nat.le_of_ble_eq_true rfl) rfl dX4_clear_2 (fun H locs hw => ?_)
  refine lv_aload_n C.1 C.2.1 dX4_clear_5 rfl (lv_at hl 0 rfl) ?_
  refine lv_iconst (v := (0 : Int32)) C.1 C.2.1 dX4_clear_6 (by decide) ?_
  refine c_puti C hw (inC inW4) tyX4 tyX4_ok nmX4 (kd_lt ha0 (by decide)) (ce4 ha0) rfl 1 (by decide) (wc w_283) rfl (ty := .int) (by decide +kernel) rfl rfl (Nat.le_of_ble_eq_true rfl) rfl dX4_clear_7 (fun H locs hw => ?_)
  refine lv_aload_n C.1 C.2.1 dX4_clear_10 rfl (lv_at hl 0 rfl) ?_
  refine lv_iconst (v := (0 : Int32)) C.1 C.2.1 dX4_clear_11 (by decide) ?_
  refine c_puti C hw (inC inW4) tyX4 tyX4_ok nmX4 (kd_lt ha0 (by decide)) (ce4 ha0) rfl 2 (by decide) (wc w_286) rfl (ty := .int) (by decide +kernel) rfl rfl (Nat.le_of_ble_eq_true rfl) rfl dX4_clear_12 (fun H locs hw => ?_)
  refine lv_iconst (v := (0 : Int32)) C.1 C.2.1 dX4_clear_15 (by decide) ?_
  refine lv_istore_n (lv' := [(1, .int (0 : Int32)), (0, .ref (h a0))]) C.1 C.2.1 dX4_clear_16 rfl hl (by decide) rfl (fun ls hl => ?_)
  obtain ⟨n, hh⟩ := hh
  exact tX4_clear_b17 C hR ha0 n _ _ _ _ _ _ _ hh hw (lv_sub hl [1, 0] rfl)
theorem ctX4_clear (l : Launch) (D : va_G) (h : Nat → Nat) (cI cL cF cM : ClassId) (a0 : Nat) (ha0 : kd a0 = 4) (F : Nat → Nat → Int32) (L : Nat → Nat → Int64) (r : Nat → Nat → Nat) {K : cS → Prop} (hh : wpX4_clear a0 F L r K) : Cv l yX4_clear wsX4_clear rmX4_clear [.ref (h a0)] D (cT cI cL cF cM) (cWu h cI cL cF cM) (F, L, r) K := by
  refine Cv_of (cc := cX4_clear) (maxL := 2) (by decide) rfl (Nat.le_of_ble_eq_true rfl) ?_
  intro p e s m below meth c A Q C hw hR ls hl
  exact tX4_clear_b0 C hR ha0 hh hw hl
theorem cdX4_clear : yX4_clear.cls = RX4 ∧ yX4_clear.cls ≠ "java/lang/invoke/MethodHandle" ∧ yX4_clear.cls ≠ "java/lang/invoke/VarHandle" ∧ (parseMethodDescriptor yX4_clear.desc).map (fun d => d.parameters.length) = some 0 := by decide +kernel
abbrev rmX5_isName : Room := { frames := 0, cells := 0, slots := 0, locals := 0 }
set_option maxHeartbeats 4000000 in
set_option maxRecDepth 100000 in
theorem tX5_isName_b37 {K : Int32 → cS → Prop} (C : CallFix p m c cX5_isName 1 s args wsX5_isName RX5) (hR : Rti .boolean p l e rmX5_isName s m args below meth c cX5_isName D A (cT cI cL cF cM) (cWu h cI cL cF cM) K Q) {F : Nat → Nat → Int32} {L : Nat → Nat → Int64} {r : Nat → Nat → Nat} {k0 : Int32} (hh : wpX5_isName_b37 F L r k0 K) {H : Heap} {locs : List Loc} {ls : Array Slot} (hw : Wd D A s (cT cI cL cF cM) (cW h cI cL cF cM F L r) H locs) (hl : lv_has ls 1 [(0, .ref (h 12))]) : W p l e rmX5_isName s m args below meth c H locs 0 0 Q (F0 m 37 ls [.int k0]) := by
  unfold wpX5_isName_b37 at hh
  obtain ⟨hb37, hh⟩ := hh
  exact hR _ _ _ (F, L, r) _ _ dX5_isName_37 (isB_nar hb37) hh hw
set_option maxHeartbeats 4000000 in
set_option maxRecDepth 100000 in
theorem tX5_isName_b36 {K : Int32 → cS → Prop} (C : CallFix p m c cX5_isName 1 s args wsX5_isName RX5) (hR : Rti .boolean p l e rmX5_isName s m args below meth c cX5_isName D A (cT cI cL cF cM) (cWu h cI cL cF cM) K Q) {F : Nat → Nat → Int32} {L : Nat → Nat → Int64} {r : Nat → Nat → Nat} (hh : wpX5_isName_b36 F L r K) {H : Heap} {locs : List Loc} {ls : Array Slot} (hw : Wd D A s (cT cI cL cF cM) (cW h cI cL cF cM F L r) H locs) (hl : lv_has ls 1 [(0, .ref (h 12))]) : W p l e rmX5_isName s m args below meth c H locs 0 0 Q (F0 m 36 ls []) := by
  unfold wpX5_isName_b36 at hh
  refine lv_iconst (v := (0 : Int32)) C.1 C.2.1 dX5_isName_36 (by decide) ?_
  exact tX5_isName_b37 C hR hh hw hl
set_option maxHeartbeats 4000000 in
set_option maxRecDepth 100000 in
theorem tX5_isName_b0 {K : Int32 → cS → Prop} (C : CallFix p m c cX5_isName 1 s args wsX5_isName RX5) (hR : Rti .boolean p l e rmX5_isName s m args below meth c cX5_isName D A (cT cI cL cF cM) (cWu h cI cL cF cM) K Q) {F : Nat → Nat → Int32} {L : Nat → Nat → Int64} {r : Nat → Nat → Nat} (hh : wpX5_isName_b0 F L r K) {H : Heap} {locs : List Loc} {ls : Array Slot} (hw : Wd D A s (cT cI cL cF cM) (cW h cI cL cF cM F L r) H locs) (hl : lv_has ls 1 [(0, .ref (h 12))]) : W p l e rmX5_isName s m args below meth c H locs 0 0 Q (F0 m 0 ls []) := by
  unfold wpX5_isName_b0 at hh
  refine lv_aload_n C.1 C.2.1 dX5_isName_0 rfl (lv_at hl 0 rfl) ?_
  refine c_get C hw (inC inW5) (kd_lt kp12 (by decide)) (ce5 kp12) rfl 0 (by decide) (wc w_307) (v := .ref (h 4)) rfl dX5_isName_1 ?_
  refine c_get C hw (inC inW9) (kd_lt kp4 (by decide)) (ce9 kp4) rfl 3 (by decide) (wc w_161) (v := .int (F 4 3)) rfl dX5_isName_4 ?_
  refine lv_iconst (v := (1 : Int32)) C.1 C.2.1 dX5_isName_7 (by decide) ?_
  refine lv_icmp_ne (tgt := 36) C.1 C.2.1 dX5_isName_8 (by decide) (fun c8 => ?_) (fun c8 => ?_)
  · replace hh := hh.1 c8
    exact tX5_isName_b36 C hR hh hw hl
  · replace hh := hh.2 c8
    refine lv_aload_n C.1 C.2.1 dX5_isName_11 rfl (lv_at hl 0 rfl) ?_
    refine c_get C hw (inC inW5) (kd_lt kp12 (by decide)) (ce5 kp12) rfl 0 (by decide) (wc w_307) (v := .ref (h 4)) rfl dX5_isName_12 ?_
    refine c_get C hw (inC inW9) (kd_lt kp4 (by decide)) (ce9 kp4) rfl 6 (by decide) (wc w_171) (v := .int (F 4 6)) rfl dX5_isName_15 ?_
    refine lv_iconst (v := (-1 : Int32)) C.1 C.2.1 dX5_isName_18 (by decide) ?_
    refine lv_icmp_ne (tgt := 36) C.1 C.2.1 dX5_isName_19 (by decide) (fun c19 => ?_) (fun c19 => ?_)
    · replace hh := hh.1 c19
      exact tX5_isName_b36 C hR hh hw hl
    · replace hh := hh.2 c19
      refine lv_aload_n C.1 C.2.1 dX5_isName_22 rfl (lv_at hl 0 rfl) ?_
      refine c_get C hw (inC inW5) (kd_lt kp12 (by decide)) (ce5 kp12) rfl 0 (by decide) (wc w_307) (v := .ref (h 4)) rfl dX5_isName_23 ?_
      refine c_get C hw (inC inW9) (kd_lt kp4 (by decide)) (ce9 kp4) rfl 5 (by decide) (wc w_167) (v := .int (F 4 5)) rfl dX5_isName_26 ?_
      refine lv_if_eq (tgt := 36) C.1 C.2.1 dX5_isName_29 (by decide) (fun c29 => ?_) (fun c29 => ?_)
      · replace hh := hh.1 c29
        exact tX5_isName_b36 C hR hh hw hl
      · replace hh := hh.2 c29
        refine lv_iconst (v := (1 : Int32)) C.1 C.2.1 dX5_isName_32 (by decide) ?_
        refine lv_goto (tgt := 37) C.1 C.2.1 dX5_isName_33 (by decide) ?_
        exact tX5_isName_b37 C hR hh hw hl
theorem ctX5_isName (l : Launch) (D : va_G) (h : Nat → Nat) (cI cL cF cM : ClassId) (F : Nat → Nat → Int32) (L : Nat → Nat → Int64) (r : Nat → Nat → Nat) {K : Int32 → cS → Prop} (hh : wpX5_isName F L r K) : Ci l yX5_isName wsX5_isName rmX5_isName [.ref (h 12)] D (cT cI cL cF cM) (cWu h cI cL cF cM) (F, L, r) K := by
  refine Ci_of (cc := cX5_isName) (maxL := 1) (by decide) rfl (Nat.le_of_ble_eq_true rfl) ?_
  intro p e s m below meth c A Q C hw hR ls hl
  exact tX5_isName_b0 C hR hh hw hl
theorem cdX5_isName : yX5_isName.cls = RX5 ∧ yX5_isName.cls ≠ "java/lang/invoke/MethodHandle" ∧ yX5_isName.cls ≠ "java/lang/invoke/VarHandle" ∧ (parseMethodDescriptor yX5_isName.desc).map (fun d => d.parameters.length) = some 0 := by decide +kernel
end
