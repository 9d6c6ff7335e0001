section
variable {p : Program} {l : Launch} {e : Env} {s : State} {m : MethodId} {args : Array Value} {below : List Frame} {meth : Method} {c : Code} {D : va_G} {A : Nat → Prop} {h : Nat → Nat} {cI cL cF cM : ClassId} {Q : State → Prop}
abbrev rmX4_relaysBy : Room := { frames := 1, cells := 0, slots := 0, locals := 26 }
set_option maxHeartbeats 4000000 in
set_option maxRecDepth 100000 in
theorem tX4_relaysBy_b4_body {a0 : Nat} {B4 : (Nat → Nat → Int32) → (Nat → Nat → Int64) → (Nat → Nat → Nat) → Int32 → Int32 → Int32 → Prop} {K : Int32 → cS → Prop} (C : CallFix p m c cX4_relaysBy 4 s args wsX4_relaysBy RX4) (hR : Rti .int p l e rmX4_relaysBy s m args below meth c cX4_relaysBy D A (cT cI cL cF cM) (cWu h cI cL cF cM) K Q) (ha0 : kd a0 = 4) (hB4 : ∀ (F : Nat → Nat → Int32) (L : Nat → Nat → Int64) (r : Nat → Nat → Nat) (x1 : Int32) (x2 : Int32) (x3 : Int32) (H : Heap) (locs : List Loc) (ls : Array Slot), B4 F L r x1 x2 x3 → Wd D A s (cT cI cL cF cM) (cW h cI cL cF cM F L r) H locs → lv_has ls 4 [(0, .ref (h a0)), (1, .int x1), (2, .int x2), (3, .int x3)] → W p l e rmX4_relaysBy s m args below meth c H locs 0 0 Q (F0 m 4 ls [])) {F : Nat → Nat → Int32} {L : Nat → Nat → Int64} {r : Nat → Nat → Nat} {x1 : Int32} {x2 : Int32} {x3 : Int32} (hh : wpX4_relaysBy_b4_body B4 a0 F L r x1 x2 x3 K) {H : Heap} {locs : List Loc} {ls : Array Slot} (hw : Wd D A s (cT cI cL cF cM) (cW h cI cL cF cM F L r) H locs) (hl : lv_has ls 4 [(0, .ref (h a0)), (1, .int x1), (2, .int x2), (3, .int x3)]) : W p l e rmX4_relaysBy s m args below meth c H locs 0 0 Q (F0 m 4 ls []) := by
  unfold wpX4_relaysBy_b4_body at hh
  refine lv_iload_n C.1 C.2.1 dX4_relaysBy_4 rfl (lv_at hl 3 rfl) ?_
  refine lv_aload_n C.1 C.2.1 dX4_relaysBy_5 rfl (lv_at hl 0 rfl) ?_
  refine c_get C hw (inC inW4) (kd_lt ha0 (by decide)) (ce4 ha0) rfl 0 (by decide) (wc w_278) (v := .int (F a0 0)) rfl dX4_relaysBy_6 ?_
  refine lv_icmp_ge (tgt := 29) C.1 C.2.1 dX4_relaysBy_9 (by decide) (fun c9 => ?_) (fun c9 => ?_)
  · replace hh := hh.1 c9
    refine lv_iload_n C.1 C.2.1 dX4_relaysBy_29 rfl (lv_at hl 2 rfl) ?_
    exact hR _ _ _ (F, L, r) _ _ dX4_relaysBy_30 rfl hh hw
  · replace hh := hh.2 c9
    refine lv_iload_n C.1 C.2.1 dX4_relaysBy_12 rfl (lv_at hl 2 rfl) ?_
    refine lv_aload_n C.1 C.2.1 dX4_relaysBy_13 rfl (lv_at hl 0 rfl) ?_
    refine lv_iload_n C.1 C.2.1 dX4_relaysBy_14 rfl (lv_at hl 3 rfl) ?_
    refine lv_iload_n C.1 C.2.1 dX4_relaysBy_15 rfl (lv_at hl 1 rfl) ?_
    refine c_Vi C hw (ctX4_valueOf l D h cI cL cF cM a0 ha0 F L r x3 x1 hh) (cwV 2 C.2.2.2.2 (gd_V w_1177 w_1178 w_1179 w_119 w_1180) rfl rfl rfl cdX4_valueOf ⟨Nat.le_of_ble_eq_true rfl, Nat.le_of_ble_eq_true rfl⟩) rfl (kd_lt ha0 (by decide)) (ce4 ha0) rfl hl.1 (Nat.le_of_ble_eq_true rfl) dX4_relaysBy_16 ⟨Nat.zero_le _, Nat.zero_le _⟩ (fun r16 u16 H locs hh hw => ?_) rfl
    refine lv_iload_n C.1 C.2.1 dX4_relaysBy_19 rfl (lv_at hl 3 rfl) ?_
    refine g_ishl C dX4_relaysBy_20 ?_
    refine lv_ior C.1 C.2.1 dX4_relaysBy_21 ?_
    refine lv_istore_n (lv' := [(2, .int (x2 ||| (jshl r16 x3))), (0, .ref (h a0)), (1, .int x1), (3, .int x3)]) C.1 C.2.1 dX4_relaysBy_22 rfl hl (by decide) rfl (fun ls hl => ?_)
    refine lv_iinc (v := x3 + (1 : Int32)) (lv' := [(3, .int (x3 + (1 : Int32))), (2, .int (x2 ||| (jshl r16 x3))), (0, .ref (h a0)), (1, .int x1)]) C.1 C.2.1 dX4_relaysBy_23 hl (k := 3) rfl rfl (by decide) rfl (fun ls hl => ?_)
    refine lv_goto (tgt := 4) C.1 C.2.1 dX4_relaysBy_26 (by decide) ?_
    exact hB4 _ _ _ _ _ _ _ _ _ hh hw (lv_sub hl [2, 3, 1, 0] rfl)
theorem tX4_relaysBy_b4 {a0 : Nat} {K : Int32 → cS → Prop} (C : CallFix p m c cX4_relaysBy 4 s args wsX4_relaysBy RX4) (hR : Rti .int p l e rmX4_relaysBy s m args below meth c cX4_relaysBy D A (cT cI cL cF cM) (cWu h cI cL cF cM) K Q) (ha0 : kd a0 = 4) (n : Nat) : ∀ (F : Nat → Nat → Int32) (L : Nat → Nat → Int64) (r : Nat → Nat → Nat) (x1 : Int32) (x2 : Int32) (x3 : Int32) (H : Heap) (locs : List Loc) (ls : Array Slot), wpX4_relaysBy_b4 a0 n F L r x1 x2 x3 K → Wd D A s (cT cI cL cF cM) (cW h cI cL cF cM F L r) H locs → lv_has ls 4 [(0, .ref (h a0)), (1, .int x1), (2, .int x2), (3, .int x3)] → W p l e rmX4_relaysBy s m args below meth c H locs 0 0 Q (F0 m 4 ls []) := by
  induction n with
  | zero => intro F L r x1 x2 x3 H locs ls hh; exact hh.elim
  | succ n ih => intro F L r x1 x2 x3 H locs ls hh hw hl; exact tX4_relaysBy_b4_body C hR ha0 ih hh hw hl
set_option maxHeartbeats 4000000 in
set_option maxRecDepth 100000 in
theorem tX4_relaysBy_b0 {a0 : Nat} {K : Int32 → cS → Prop} (C : CallFix p m c cX4_relaysBy 4 s args wsX4_relaysBy RX4) (hR : Rti .int p l e rmX4_relaysBy s m args below meth c cX4_relaysBy D A (cT cI cL cF cM) (cWu h cI cL cF cM) K Q) (ha0 : kd a0 = 4) {F : Nat → Nat → Int32} {L : Nat → Nat → Int64} {r : Nat → Nat → Nat} {x1 : Int32} (hh : wpX4_relaysBy_b0 a0 F L r x1 K) {H : Heap} {locs : List Loc} {ls : Array Slot} (hw : Wd D A s (cT cI cL cF cM) (cW h cI cL cF cM F L r) H locs) (hl : lv_has ls 4 [(0, .ref (h a0)), (1, .int x1)]) : W p l e rmX4_relaysBy s m args below meth c H locs 0 0 Q (F0 m 0 ls []) := by
  unfold wpX4_relaysBy_b0 at hh
  refine lv_iconst (v := (0 : Int32)) C.1 C.2.1 dX4_relaysBy_0 (by decide) ?_
  refine lv_istore_n (lv' := [(2, .int (0 : Int32)), (0, .ref (h a0)), (1, .int x1)]) C.1 C.2.1 dX4_relaysBy_1 rfl hl (by decide) rfl (fun ls hl => ?_)
  refine lv_iconst (v := (0 : Int32)) C.1 C.2.1 dX4_relaysBy_2 (by decide) ?_
  refine lv_istore_n (lv' := [(3, .int (0 : Int32)), (2, .int (0 : Int32)), (0, .ref (h a0)), (1, .int x1)]) C.1 C.2.1 dX4_relaysBy_3 rfl hl (by decide) rfl (fun ls hl => ?_)
  obtain ⟨n, hh⟩ := hh
  exact tX4_relaysBy_b4 C hR ha0 n _ _ _ _ _ _ _ _ _ hh hw (lv_sub hl [2, 3, 1, 0] rfl)
theorem ctX4_relaysBy (l : Launch) (D : va_G) (h : Nat → Nat) (cI cL cF cM : ClassId) (a0 : Nat) (ha0 : kd a0 = 4) (F : Nat → Nat → Int32) (L : Nat → Nat → Int64) (r : Nat → Nat → Nat) (x1 : Int32) {K : Int32 → cS → Prop} (hh : wpX4_relaysBy a0 F L r x1 K) : Ci l yX4_relaysBy wsX4_relaysBy rmX4_relaysBy [.ref (h a0), .int x1] D (cT cI cL cF cM) (cWu h cI cL cF cM) (F, L, r) K := by
  refine Ci_of (cc := cX4_relaysBy) (maxL := 4) (by decide) rfl (Nat.le_of_ble_eq_true rfl) ?_
  intro p e s m below meth c A Q C hw hR ls hl
  exact tX4_relaysBy_b0 C hR ha0 hh hw hl
theorem cdX4_relaysBy : yX4_relaysBy.cls = RX4 ∧ yX4_relaysBy.cls ≠ "java/lang/invoke/MethodHandle" ∧ yX4_relaysBy.cls ≠ "java/lang/invoke/VarHandle" ∧ (parseMethodDescriptor yX4_relaysBy.desc).map (fun d => d.parameters.length) = some 1 := by decide +kernel
abbrev rmX4_outputsBy : Room := { frames := 1, cells := 0, slots := 0, locals := 26 }
set_option maxHeartbeats 4000000 in
set_option maxRecDepth 100000 in
theorem tX4_outputsBy_b4_body {a0 : Nat} {B4 : (Nat → Nat → Int32) → (Nat → Nat → Int64) → (Nat → Nat → Nat) → Int32 → Int32 → Int32 → Prop} {K : Int32 → cS → Prop} (C : CallFix p m c cX4_outputsBy 4 s args wsX4_outputsBy RX4) (hR : Rti .int p l e rmX4_outputsBy s m args below meth c cX4_outputsBy D A (cT cI cL cF cM) (cWu h cI cL cF cM) K Q) (ha0 : kd a0 = 4) (hB4 : ∀ (F : Nat → Nat → Int32) (L : Nat → Nat → Int64) (r : Nat → Nat → Nat) (x1 : Int32) (x2 : Int32) (x3 : Int32) (H : Heap) (locs : List Loc) (ls : Array Slot), B4 F L r x1 x2 x3 → Wd D A s (cT cI cL cF cM) (cW h cI cL cF cM F L r) H locs → lv_has ls 4 [(0, .ref (h a0)), (1, .int x1), (2, .int x2), (3, .int x3)] → W p l e rmX4_outputsBy s m args below meth c H locs 0 0 Q (F0 m 4 ls [])) {F : Nat → Nat → Int32} {L : Nat → Nat → Int64} {r : Nat → Nat → Nat} {x1 : Int32} {x2 : Int32} {x3 : Int32} (hh : wpX4_outputsBy_b4_body B4 a0 F L r x1 x2 x3 K) {H : Heap} {locs : List Loc} {ls : Array Slot} (hw : Wd D A s (cT cI cL cF cM) (cW h cI cL cF cM F L r) H locs) (hl : lv_has ls 4 [(0, .ref (h a0)), (1, .int x1), (2, .int x2), (3, .int x3)]) : W p l e rmX4_outputsBy s m args below meth c H locs 0 0 Q (F0 m 4 ls []) := by
  unfold wpX4_outputsBy_b4_body at hh
  refine lv_iload_n C.1 C.2.1 dX4_outputsBy_4 rfl (lv_at hl 3 rfl) ?_
  refine lv_iconst (v := (4 : Int32)) C.1 C.2.1 dX4_outputsBy_5 (by decide) ?_
  refine lv_icmp_gt (tgt := 29) C.1 C.2.1 dX4_outputsBy_6 (by decide) (fun c6 => ?_) (fun c6 => ?_)
  · replace hh := hh.1 c6
    refine lv_iload_n C.1 C.2.1 dX4_outputsBy_29 rfl (lv_at hl 2 rfl) ?_
    exact hR _ _ _ (F, L, r) _ _ dX4_outputsBy_30 rfl hh hw
  · replace hh := hh.2 c6
    refine lv_iload_n C.1 C.2.1 dX4_outputsBy_9 rfl (lv_at hl 2 rfl) ?_
    refine lv_aload_n C.1 C.2.1 dX4_outputsBy_10 rfl (lv_at hl 0 rfl) ?_
    refine lv_iload_n C.1 C.2.1 dX4_outputsBy_11 rfl (lv_at hl 3 rfl) ?_
    refine wd_Si C hw (ctX4_placeOfOutput l D x3 hh) (va_cwS 1 C.2.2.2.2 (gd_S w_1185 w_849 (ini_cls rfl w_119) w_850) rfl rfl rfl cdX4_placeOfOutput ⟨Nat.le_of_ble_eq_true rfl, Nat.le_of_ble_eq_true rfl⟩) rfl hl.1 (Nat.le_of_ble_eq_true rfl) dX4_outputsBy_12 ⟨Nat.zero_le _, Nat.zero_le _⟩ (fun r12 H locs hh hw => ?_) rfl
    refine lv_iload_n C.1 C.2.1 dX4_outputsBy_15 rfl (lv_at hl 1 rfl) ?_
    refine c_Vi C hw (ctX4_valueOf l D h cI cL cF cM a0 ha0 F L r r12 x1 hh) (cwV 2 C.2.2.2.2 (gd_V w_1177 w_1178 w_1179 w_119 w_1180) rfl rfl rfl cdX4_valueOf ⟨Nat.le_of_ble_eq_true rfl, Nat.le_of_ble_eq_true rfl⟩) rfl (kd_lt ha0 (by decide)) (ce4 ha0) rfl hl.1 (Nat.le_of_ble_eq_true rfl) dX4_outputsBy_16 ⟨Nat.zero_le _, Nat.zero_le _⟩ (fun r16 u16 H locs hh hw => ?_) rfl
    refine lv_iload_n C.1 C.2.1 dX4_outputsBy_19 rfl (lv_at hl 3 rfl) ?_
    refine g_ishl C dX4_outputsBy_20 ?_
    refine lv_ior C.1 C.2.1 dX4_outputsBy_21 ?_
    refine lv_istore_n (lv' := [(2, .int (x2 ||| (jshl r16 x3))), (0, .ref (h a0)), (1, .int x1), (3, .int x3)]) C.1 C.2.1 dX4_outputsBy_22 rfl hl (by decide) rfl (fun ls hl => ?_)
    refine lv_iinc (v := x3 + (1 : Int32)) (lv' := [(3, .int (x3 + (1 : Int32))), (2, .int (x2 ||| (jshl r16 x3))), (0, .ref (h a0)), (1, .int x1)]) C.1 C.2.1 dX4_outputsBy_23 hl (k := 3) rfl rfl (by decide) rfl (fun ls hl => ?_)
    refine lv_goto (tgt := 4) C.1 C.2.1 dX4_outputsBy_26 (by decide) ?_
    exact hB4 _ _ _ _ _ _ _ _ _ hh hw (lv_sub hl [2, 3, 1, 0] rfl)
theorem tX4_outputsBy_b4 {a0 : Nat} {K : Int32 → cS → Prop} (C : CallFix p m c cX4_outputsBy 4 s args wsX4_outputsBy RX4) (hR : Rti .int p l e rmX4_outputsBy s m args below meth c cX4_outputsBy D A (cT cI cL cF cM) (cWu h cI cL cF cM) K Q) (ha0 : kd a0 = 4) (n : Nat) : ∀ (F : Nat → Nat → Int32) (L : Nat → Nat → Int64) (r : Nat → Nat → Nat) (x1 : Int32) (x2 : Int32) (x3 : Int32) (H : Heap) (locs : List Loc) (ls : Array Slot), wpX4_outputsBy_b4 a0 n F L r x1 x2 x3 K → Wd D A s (cT cI cL cF cM) (cW h cI cL cF cM F L r) H locs → lv_has ls 4 [(0, .ref (h a0)), (1, .int x1), (2, .int x2), (3, .int x3)] → W p l e rmX4_outputsBy s m args below meth c H locs 0 0 Q (F0 m 4 ls []) := by
  induction n with
  | zero => intro F L r x1 x2 x3 H locs ls hh; exact hh.elim
  | succ n ih => intro F L r x1 x2 x3 H locs ls hh hw hl; exact tX4_outputsBy_b4_body C hR ha0 ih hh hw hl
set_option maxHeartbeats 4000000 in
set_option maxRecDepth 100000 in
theorem tX4_outputsBy_b0 {a0 : Nat} {K : Int32 → cS → Prop} (C : CallFix p m c cX4_outputsBy 4 s args wsX4_outputsBy RX4) (hR : Rti .int p l e rmX4_outputsBy s m args below meth c cX4_outputsBy D A (cT cI cL cF cM) (cWu h cI cL cF cM) K Q) (ha0 : kd a0 = 4) {F : Nat → Nat → Int32} {L : Nat → Nat → Int64} {r : Nat → Nat → Nat} {x1 : Int32} (hh : wpX4_outputsBy_b0 a0 F L r x1 K) {H : Heap} {locs : List Loc} {ls : Array Slot} (hw : Wd D A s (cT cI cL cF cM) (cW h cI cL cF cM F L r) H locs) (hl : lv_has ls 4 [(0, .ref (h a0)), (1, .int x1)]) : W p l e rmX4_outputsBy s m args below meth c H locs 0 0 Q (F0 m 0 ls []) := by
  unfold wpX4_outputsBy_b0 at hh
  refine lv_iconst (v := (0 : Int32)) C.1 C.2.1 dX4_outputsBy_0 (by decide) ?_
  refine lv_istore_n (lv' := [(2, .int (0 : Int32)), (0, .ref (h a0)), (1, .int x1)]) C.1 C.2.1 dX4_outputsBy_1 rfl hl (by decide) rfl (fun ls hl => ?_)
  refine lv_iconst (v := (1 : Int32)) C.1 C.2.1 dX4_outputsBy_2 (by decide) ?_
  refine lv_istore_n (lv' := [(3, .int (1 : Int32)), (2, .int (0 : Int32)), (0, .ref (h a0)), (1, .int x1)]) C.1 C.2.1 dX4_outputsBy_3 rfl hl (by decide) rfl (fun ls hl => ?_)
  obtain ⟨n, hh⟩ := hh
  exact tX4_outputsBy_b4 C hR ha0 n _ _ _ _ _ _ _ _ _ hh hw (lv_sub hl [2, 3, 1, 0] rfl)
theorem ctX4_outputsBy (l : Launch) (D : va_G) (h : Nat → Nat) (cI cL cF cM : ClassId) (a0 : Nat) (ha0 : kd a0 = 4) (F : Nat → Nat → Int32) (L : Nat → Nat → Int64) (r : Nat → Nat → Nat) (x1 : Int32) {K : Int32 → cS → Prop} (hh : wpX4_outputsBy a0 F L r x1 K) : Ci l yX4_outputsBy wsX4_outputsBy rmX4_outputsBy [.ref (h a0), .int x1] D (cT cI cL cF cM) (cWu h cI cL cF cM) (F, L, r) K := by
  refine Ci_of (cc := cX4_outputsBy) (maxL := 4) (by decide) rfl (Nat.le_of_ble_eq_true rfl) ?_
  intro p e s m below meth c A Q C hw hR ls hl
  exact tX4_outputsBy_b0 C hR ha0 hh hw hl
theorem cdX4_outputsBy : yX4_outputsBy.cls = RX4 ∧ yX4_outputsBy.cls ≠ "java/lang/invoke/MethodHandle" ∧ yX4_outputsBy.cls ≠ "java/lang/invoke/VarHandle" ∧ (parseMethodDescriptor yX4_outputsBy.desc).map (fun d => d.parameters.length) = some 1 := by decide +kernel
abbrev rmX3_doOutputs : Room := { frames := 1, cells := 0, slots := 0, locals := 22 }
set_option maxHeartbeats 4000000 in
set_option maxRecDepth 100000 in
theorem tX3_doOutputs_b51 {a0 : Nat} {a2 : Nat} {K : cS → Prop} (C : CallFix p m c cX3_doOutputs 3 s args wsX3_doOutputs RX3) (hR : Rtv p l e rmX3_doOutputs s m args below meth c cX3_doOutputs D A (cT cI cL cF cM) (cWu h cI cL cF cM) K Q) (ha0 : kd a0 = 3) (ha2 : kd a2 = 1) {F : Nat → Nat → Int32} {L : Nat → Nat → Int64} {r : Nat → Nat → Nat} (hh : wpX3_doOutputs_b51 a0 a2 F L r K) {H : Heap} {locs : List Loc} {ls : Array Slot} (hw : Wd D A s (cT cI cL cF cM) (cW h cI cL cF cM F L r) H locs) (hl : lv_has ls 3 [(0, .ref (h a0))]) : W p l e rmX3_doOutputs s m args below meth c H locs 0 0 Q (F0 m 51 ls []) := by
  unfold wpX3_doOutputs_b51 at hh
  exact hR _ _ (F, L, r) _ _ dX3_doOutputs_51 hh hw
set_option maxHeartbeats 4000000 in
set_option maxRecDepth 100000 in
theorem tX3_doOutputs_b38 {a0 : Nat} {a2 : Nat} {K : cS → Prop} (C : CallFix p m c cX3_doOutputs 3 s args wsX3_doOutputs RX3) (hR : Rtv p l e rmX3_doOutputs s m args below meth c cX3_doOutputs D A (cT cI cL cF cM) (cWu h cI cL cF cM) K Q) (ha0 : kd a0 = 3) (ha2 : kd a2 = 1) {F : Nat → Nat → Int32} {L : Nat → Nat → Int64} {r : Nat → Nat → Nat} {x1 : Int32} (hh : wpX3_doOutputs_b38 a0 a2 F L r x1 K) {H : Heap} {locs : List Loc} {ls : Array Slot} (hw : Wd D A s (cT cI cL cF cM) (cW h cI cL cF cM F L r) H locs) (hl : lv_has ls 3 [(0, .ref (h a0)), (1, .int x1), (2, .ref (h a2))]) : W p l e rmX3_doOutputs s m args below meth c H locs 0 0 Q (F0 m 38 ls []) := by
  unfold wpX3_doOutputs_b38 at hh
  refine lv_iload_n C.1 C.2.1 dX3_doOutputs_38 rfl (lv_at hl 1 rfl) ?_
  refine lv_iconst (v := (1 : Int32)) C.1 C.2.1 dX3_doOutputs_39 (by decide) ?_
  refine g_ishr C dX3_doOutputs_40 ?_
  refine lv_iconst (v := (1 : Int32)) C.1 C.2.1 dX3_doOutputs_41 (by decide) ?_
  refine lv_iand C.1 C.2.1 dX3_doOutputs_42 ?_
  refine lv_if_eq (tgt := 51) C.1 C.2.1 dX3_doOutputs_43 (by decide) (fun c43 => ?_) (fun c43 => ?_)
  · replace hh := hh.1 c43
    exact tX3_doOutputs_b51 C hR ha0 ha2 hh hw (lv_sub hl [0] rfl)
  · replace hh := hh.2 c43
    refine lv_aload_n C.1 C.2.1 dX3_doOutputs_46 rfl (lv_at hl 0 rfl) ?_
    refine lv_aload_n C.1 C.2.1 dX3_doOutputs_47 rfl (lv_at hl 2 rfl) ?_
    refine c_Vv C hw (ctX3_advance l D h cI cL cF cM a0 a2 ha0 ha2 F L r hh) (cwV 1 C.2.2.2.2 (gd_V w_1026 w_1028 w_34 w_121 w_1029) rfl rfl rfl cdX3_advance ⟨Nat.le_of_ble_eq_true rfl, Nat.le_of_ble_eq_true rfl⟩) rfl (kd_lt ha0 (by decide)) (ce3 ha0) rfl hl.1 (Nat.le_of_ble_eq_true rfl) dX3_doOutputs_48 ⟨Nat.zero_le _, Nat.zero_le _⟩ (fun u48 H locs hh hw => ?_) rfl
    exact tX3_doOutputs_b51 C hR ha0 ha2 hh hw (lv_sub hl [0] rfl)
set_option maxHeartbeats 4000000 in
set_option maxRecDepth 100000 in
theorem tX3_doOutputs_b25 {a0 : Nat} {a2 : Nat} {K : cS → Prop} (C : CallFix p m c cX3_doOutputs 3 s args wsX3_doOutputs RX3) (hR : Rtv p l e rmX3_doOutputs s m args below meth c cX3_doOutputs D A (cT cI cL cF cM) (cWu h cI cL cF cM) K Q) (ha0 : kd a0 = 3) (ha2 : kd a2 = 1) {F : Nat → Nat → Int32} {L : Nat → Nat → Int64} {r : Nat → Nat → Nat} {x1 : Int32} (hh : wpX3_doOutputs_b25 a0 a2 F L r x1 K) {H : Heap} {locs : List Loc} {ls : Array Slot} (hw : Wd D A s (cT cI cL cF cM) (cW h cI cL cF cM F L r) H locs) (hl : lv_has ls 3 [(0, .ref (h a0)), (1, .int x1), (2, .ref (h a2))]) : W p l e rmX3_doOutputs s m args below meth c H locs 0 0 Q (F0 m 25 ls []) := by
  unfold wpX3_doOutputs_b25 at hh
  refine lv_iload_n C.1 C.2.1 dX3_doOutputs_25 rfl (lv_at hl 1 rfl) ?_
  refine lv_iconst (v := (3 : Int32)) C.1 C.2.1 dX3_doOutputs_26 (by decide) ?_
  refine g_ishr C dX3_doOutputs_27 ?_
  refine lv_iconst (v := (1 : Int32)) C.1 C.2.1 dX3_doOutputs_28 (by decide) ?_
  refine lv_iand C.1 C.2.1 dX3_doOutputs_29 ?_
  refine lv_if_eq (tgt := 38) C.1 C.2.1 dX3_doOutputs_30 (by decide) (fun c30 => ?_) (fun c30 => ?_)
  · replace hh := hh.1 c30
    exact tX3_doOutputs_b38 C hR ha0 ha2 hh hw hl
  · replace hh := hh.2 c30
    refine lv_aload_n C.1 C.2.1 dX3_doOutputs_33 rfl (lv_at hl 0 rfl) ?_
    refine lv_iconst (v := (1 : Int32)) C.1 C.2.1 dX3_doOutputs_34 (by decide) ?_
    refine c_Vv C hw (ctX3_turn l D h cI cL cF cM a0 ha0 F L r (1 : Int32) hh) (cwV 1 C.2.2.2.2 (gd_V w_1017 w_1019 w_32 w_121 w_1020) rfl rfl rfl cdX3_turn ⟨Nat.le_of_ble_eq_true rfl, Nat.le_of_ble_eq_true rfl⟩) rfl (kd_lt ha0 (by decide)) (ce3 ha0) rfl hl.1 (Nat.le_of_ble_eq_true rfl) dX3_doOutputs_35 ⟨Nat.zero_le _, Nat.zero_le _⟩ (fun u35 H locs hh hw => ?_) rfl
    exact tX3_doOutputs_b38 C hR ha0 ha2 hh hw hl
set_option maxHeartbeats 4000000 in
set_option maxRecDepth 100000 in
theorem tX3_doOutputs_b12 {a0 : Nat} {a2 : Nat} {K : cS → Prop} (C : CallFix p m c cX3_doOutputs 3 s args wsX3_doOutputs RX3) (hR : Rtv p l e rmX3_doOutputs s m args below meth c cX3_doOutputs D A (cT cI cL cF cM) (cWu h cI cL cF cM) K Q) (ha0 : kd a0 = 3) (ha2 : kd a2 = 1) {F : Nat → Nat → Int32} {L : Nat → Nat → Int64} {r : Nat → Nat → Nat} {x1 : Int32} (hh : wpX3_doOutputs_b12 a0 a2 F L r x1 K) {H : Heap} {locs : List Loc} {ls : Array Slot} (hw : Wd D A s (cT cI cL cF cM) (cW h cI cL cF cM F L r) H locs) (hl : lv_has ls 3 [(0, .ref (h a0)), (1, .int x1), (2, .ref (h a2))]) : W p l e rmX3_doOutputs s m args below meth c H locs 0 0 Q (F0 m 12 ls []) := by
  unfold wpX3_doOutputs_b12 at hh
  refine lv_iload_n C.1 C.2.1 dX3_doOutputs_12 rfl (lv_at hl 1 rfl) ?_
  refine lv_iconst (v := (2 : Int32)) C.1 C.2.1 dX3_doOutputs_13 (by decide) ?_
  refine g_ishr C dX3_doOutputs_14 ?_
  refine lv_iconst (v := (1 : Int32)) C.1 C.2.1 dX3_doOutputs_15 (by decide) ?_
  refine lv_iand C.1 C.2.1 dX3_doOutputs_16 ?_
  refine lv_if_eq (tgt := 25) C.1 C.2.1 dX3_doOutputs_17 (by decide) (fun c17 => ?_) (fun c17 => ?_)
  · replace hh := hh.1 c17
    exact tX3_doOutputs_b25 C hR ha0 ha2 hh hw hl
  · replace hh := hh.2 c17
    refine lv_aload_n C.1 C.2.1 dX3_doOutputs_20 rfl (lv_at hl 0 rfl) ?_
    refine lv_iconst (v := (3 : Int32)) C.1 C.2.1 dX3_doOutputs_21 (by decide) ?_
    refine c_Vv C hw (ctX3_turn l D h cI cL cF cM a0 ha0 F L r (3 : Int32) hh) (cwV 1 C.2.2.2.2 (gd_V w_1017 w_1019 w_32 w_121 w_1020) rfl rfl rfl cdX3_turn ⟨Nat.le_of_ble_eq_true rfl, Nat.le_of_ble_eq_true rfl⟩) rfl (kd_lt ha0 (by decide)) (ce3 ha0) rfl hl.1 (Nat.le_of_ble_eq_true rfl) dX3_doOutputs_22 ⟨Nat.zero_le _, Nat.zero_le _⟩ (fun u22 H locs hh hw => ?_) rfl
    exact tX3_doOutputs_b25 C hR ha0 ha2 hh hw hl
set_option maxHeartbeats 4000000 in
set_option maxRecDepth 100000 in
theorem tX3_doOutputs_b0 {a0 : Nat} {a2 : Nat} {K : cS → Prop} (C : CallFix p m c cX3_doOutputs 3 s args wsX3_doOutputs RX3) (hR : Rtv p l e rmX3_doOutputs s m args below meth c cX3_doOutputs D A (cT cI cL cF cM) (cWu h cI cL cF cM) K Q) (ha0 : kd a0 = 3) (ha2 : kd a2 = 1) {F : Nat → Nat → Int32} {L : Nat → Nat → Int64} {r : Nat → Nat → Nat} {x1 : Int32} (hh : wpX3_doOutputs_b0 a0 a2 F L r x1 K) {H : Heap} {locs : List Loc} {ls : Array Slot} (hw : Wd D A s (cT cI cL cF cM) (cW h cI cL cF cM F L r) H locs) (hl : lv_has ls 3 [(0, .ref (h a0)), (1, .int x1), (2, .ref (h a2))]) : W p l e rmX3_doOutputs s m args below meth c H locs 0 0 Q (F0 m 0 ls []) := by
  unfold wpX3_doOutputs_b0 at hh
  refine lv_iload_n C.1 C.2.1 dX3_doOutputs_0 rfl (lv_at hl 1 rfl) ?_
  refine lv_iconst (v := (4 : Int32)) C.1 C.2.1 dX3_doOutputs_1 (by decide) ?_
  refine g_ishr C dX3_doOutputs_2 ?_
  refine lv_iconst (v := (1 : Int32)) C.1 C.2.1 dX3_doOutputs_3 (by decide) ?_
  refine lv_iand C.1 C.2.1 dX3_doOutputs_4 ?_
  refine lv_if_eq (tgt := 12) C.1 C.2.1 dX3_doOutputs_5 (by decide) (fun c5 => ?_) (fun c5 => ?_)
  · replace hh := hh.1 c5
    exact tX3_doOutputs_b12 C hR ha0 ha2 hh hw hl
  · replace hh := hh.2 c5
    refine lv_aload_n C.1 C.2.1 dX3_doOutputs_8 rfl (lv_at hl 0 rfl) ?_
    refine c_Vv C hw (ctX3_markWay l D h cI cL cF cM a0 ha0 F L r hh) (cwV 0 C.2.2.2.2 (gd_V w_1021 w_1023 w_33 w_121 w_1024) rfl rfl rfl cdX3_markWay ⟨Nat.le_of_ble_eq_true rfl, Nat.le_of_ble_eq_true rfl⟩) rfl (kd_lt ha0 (by decide)) (ce3 ha0) rfl hl.1 (Nat.le_of_ble_eq_true rfl) dX3_doOutputs_9 ⟨Nat.zero_le _, Nat.zero_le _⟩ (fun u9 H locs hh hw => ?_) rfl
    exact tX3_doOutputs_b12 C hR ha0 ha2 hh hw hl
theorem ctX3_doOutputs (l : Launch) (D : va_G) (h : Nat → Nat) (cI cL cF cM : ClassId) (a0 : Nat) (a2 : Nat) (ha0 : kd a0 = 3) (ha2 : kd a2 = 1) (F : Nat → Nat → Int32) (L : Nat → Nat → Int64) (r : Nat → Nat → Nat) (x1 : Int32) {K : cS → Prop} (hh : wpX3_doOutputs a0 a2 F L r x1 K) : Cv l yX3_doOutputs wsX3_doOutputs rmX3_doOutputs [.ref (h a0), .int x1, .ref (h a2)] D (cT cI cL cF cM) (cWu h cI cL cF cM) (F, L, r) K := by
  refine Cv_of (cc := cX3_doOutputs) (maxL := 3) (by decide) rfl (Nat.le_of_ble_eq_true rfl) ?_
  intro p e s m below meth c A Q C hw hR ls hl
  exact tX3_doOutputs_b0 C hR ha0 ha2 hh hw hl
theorem cdX3_doOutputs : yX3_doOutputs.cls = RX3 ∧ yX3_doOutputs.cls ≠ "java/lang/invoke/MethodHandle" ∧ yX3_doOutputs.cls ≠ "java/lang/invoke/VarHandle" ∧ (parseMethodDescriptor yX3_doOutputs.desc).map (fun d => d.parameters.length) = some 2 := by decide +kernel
abbrev rmX0_step : Room := { frames := 2, cells := 0, slots := 0, locals := 49 }
set_option maxHeartbeats 4000000 in
set_option maxRecDepth 100000 in
theorem tX0_step_b0 {a0 : Nat} {a1 : Nat} {a2 : Nat} {a3 : Nat} {K : cS → Prop} (C : CallFix p m c cX0_step 4 s args wsX0_step RX0) (hR : Rtv p l e rmX0_step s m args below meth c cX0_step D A (cT cI cL cF cM) (cWu h cI cL cF cM) K Q) (ha0 : kd a0 = 0) (ha1 : kd a1 = 4) (ha2 : kd a2 = 3) (ha3 : kd a3 = 1) {F : Nat → Nat → Int32} {L : Nat → Nat → Int64} {r : Nat → Nat → Nat} (hh : wpX0_step_b0 a0 a1 a2 a3 F L r K) {H : Heap} {locs : List Loc} {ls : Array Slot} (hw : Wd D A s (cT cI cL cF cM) (cW h cI cL cF cM F L r) H locs) (hl : lv_has ls 4 [(0, .ref (h a0)), (1, .ref (h a1)), (2, .ref (h a2)), (3, .ref (h a3))]) : W p l e rmX0_step s m args below meth c H locs 0 0 Q (F0 m 0 ls []) := by
  unfold wpX0_step_b0 at hh
  refine lv_aload_n C.1 C.2.1 dX0_step_0 rfl (lv_at hl 0 rfl) ?_
  refine lv_aload_n C.1 C.2.1 dX0_step_1 rfl (lv_at hl 2 rfl) ?_
  refine lv_aload_n C.1 C.2.1 dX0_step_2 rfl (lv_at hl 3 rfl) ?_
  refine c_Vi C hw (ctX3_inputs l D h cI cL cF cM a2 a3 ha2 ha3 F L r hh) (cwV 1 C.2.2.2.2 (gd_V w_1167 w_1168 w_1169 w_121 w_1170) rfl rfl rfl cdX3_inputs ⟨Nat.le_of_ble_eq_true rfl, Nat.le_of_ble_eq_true rfl⟩) rfl (kd_lt ha2 (by decide)) (ce3 ha2) rfl hl.1 (Nat.le_of_ble_eq_true rfl) dX0_step_3 ⟨Nat.zero_le _, Nat.zero_le _⟩ (fun r3 u3 H locs hh hw => ?_) rfl
  refine c_puti C hw (inC inW0) tyX0 tyX0_ok nmX0 (kd_lt ha0 (by decide)) (ce0 ha0) rfl 6 (by decide) (wc w_447) rfl (ty := .int) (by decide +kernel) rfl rfl (Nat.le_of_ble_eq_true rfl) rfl dX0_step_6 (fun H locs hw => ?_)
  refine lv_aload_n C.1 C.2.1 dX0_step_9 rfl (lv_at hl 0 rfl) ?_
  refine lv_aload_n C.1 C.2.1 dX0_step_10 rfl (lv_at hl 0 rfl) ?_
  refine c_get C hw (inC inW0) (kd_lt ha0 (by decide)) (ce0 ha0) rfl 0 (by decide) (wc w_439) (v := .int ((pt u3.1 a0 6 r3) a0 0)) rfl dX0_step_11 ?_
  refine c_puti C hw (inC inW0) tyX0 tyX0_ok nmX0 (kd_lt ha0 (by decide)) (ce0 ha0) rfl 4 (by decide) (wc w_445) rfl (ty := .int) (by decide +kernel) rfl rfl (Nat.le_of_ble_eq_true rfl) rfl dX0_step_14 (fun H locs hw => ?_)
  refine lv_aload_n C.1 C.2.1 dX0_step_17 rfl (lv_at hl 0 rfl) ?_
  refine lv_aload_n C.1 C.2.1 dX0_step_18 rfl (lv_at hl 1 rfl) ?_
  refine lv_aload_n C.1 C.2.1 dX0_step_19 rfl (lv_at hl 0 rfl) ?_
  refine c_get C hw (inC inW0) (kd_lt ha0 (by decide)) (ce0 ha0) rfl 4 (by decide) (wc w_445) (v := .int ((pt (pt u3.1 a0 6 r3) a0 4 ((pt u3.1 a0 6 r3) a0 0)) a0 4)) rfl dX0_step_20 ?_
  refine lv_aload_n C.1 C.2.1 dX0_step_23 rfl (lv_at hl 0 rfl) ?_
  refine c_get C hw (inC inW0) (kd_lt ha0 (by decide)) (ce0 ha0) rfl 6 (by decide) (wc w_447) (v := .int ((pt (pt u3.1 a0 6 r3) a0 4 ((pt u3.1 a0 6 r3) a0 0)) a0 6)) rfl dX0_step_24 ?_
  refine lv_ior C.1 C.2.1 dX0_step_27 ?_
  refine c_Vi C hw (ctX4_relaysBy l D h cI cL cF cM a1 ha1 (pt (pt u3.1 a0 6 r3) a0 4 ((pt u3.1 a0 6 r3) a0 0)) u3.2.1 u3.2.2 (((pt (pt u3.1 a0 6 r3) a0 4 ((pt u3.1 a0 6 r3) a0 0)) a0 4) ||| ((pt (pt u3.1 a0 6 r3) a0 4 ((pt u3.1 a0 6 r3) a0 0)) a0 6)) hh) (cwV 1 C.2.2.2.2 (gd_V w_1173 w_1174 w_1175 w_119 w_1176) rfl rfl rfl cdX4_relaysBy ⟨Nat.le_of_ble_eq_true rfl, Nat.le_of_ble_eq_true rfl⟩) rfl (kd_lt ha1 (by decide)) (ce4 ha1) rfl hl.1 (Nat.le_of_ble_eq_true rfl) dX0_step_28 ⟨Nat.zero_le _, Nat.zero_le _⟩ (fun r28 u28 H locs hh hw => ?_) rfl
  refine c_Vv C hw (ctX0_settle l D h cI cL cF cM a0 ha0 u28.1 u28.2.1 u28.2.2 r28 hh) (cwV 1 C.2.2.2.2 (gd_V w_929 w_930 w_931 w_122 w_932) rfl rfl rfl cdX0_settle ⟨Nat.le_of_ble_eq_true rfl, Nat.le_of_ble_eq_true rfl⟩) rfl (kd_lt ha0 (by decide)) (ce0 ha0) rfl hl.1 (Nat.le_of_ble_eq_true rfl) dX0_step_31 ⟨Nat.zero_le _, Nat.zero_le _⟩ (fun u31 H locs hh hw => ?_) rfl
  refine lv_aload_n C.1 C.2.1 dX0_step_34 rfl (lv_at hl 0 rfl) ?_
  refine lv_aload_n C.1 C.2.1 dX0_step_35 rfl (lv_at hl 0 rfl) ?_
  refine c_get C hw (inC inW0) (kd_lt ha0 (by decide)) (ce0 ha0) rfl 0 (by decide) (wc w_439) (v := .int (u31.1 a0 0)) rfl dX0_step_36 ?_
  refine c_puti C hw (inC inW0) tyX0 tyX0_ok nmX0 (kd_lt ha0 (by decide)) (ce0 ha0) rfl 5 (by decide) (wc w_446) rfl (ty := .int) (by decide +kernel) rfl rfl (Nat.le_of_ble_eq_true rfl) rfl dX0_step_39 (fun H locs hw => ?_)
  refine lv_aload_n C.1 C.2.1 dX0_step_42 rfl (lv_at hl 0 rfl) ?_
  refine lv_iconst (v := (1 : Int32)) C.1 C.2.1 dX0_step_43 (by decide) ?_
  refine c_puti C hw (inC inW0) tyX0 tyX0_ok nmX0 (kd_lt ha0 (by decide)) (ce0 ha0) rfl 3 (by decide) (wc w_444) rfl (ty := .boolean) (by decide +kernel) rfl rfl (Nat.le_of_ble_eq_true rfl) rfl dX0_step_44 (fun H locs hw => ?_)
  refine lv_aload_n C.1 C.2.1 dX0_step_47 rfl (lv_at hl 2 rfl) ?_
  refine lv_aload_n C.1 C.2.1 dX0_step_48 rfl (lv_at hl 1 rfl) ?_
  refine lv_aload_n C.1 C.2.1 dX0_step_49 rfl (lv_at hl 0 rfl) ?_
  refine c_get C hw (inC inW0) (kd_lt ha0 (by decide)) (ce0 ha0) rfl 5 (by decide) (wc w_446) (v := .int ((pt (pt u31.1 a0 5 (u31.1 a0 0)) a0 3 (1 : Int32)) a0 5)) rfl dX0_step_50 ?_
  refine lv_aload_n C.1 C.2.1 dX0_step_53 rfl (lv_at hl 0 rfl) ?_
  refine c_get C hw (inC inW0) (kd_lt ha0 (by decide)) (ce0 ha0) rfl 6 (by decide) (wc w_447) (v := .int ((pt (pt u31.1 a0 5 (u31.1 a0 0)) a0 3 (1 : Int32)) a0 6)) rfl dX0_step_54 ?_
  refine lv_ior C.1 C.2.1 dX0_step_57 ?_
  refine c_Vi C hw (ctX4_outputsBy l D h cI cL cF cM a1 ha1 (pt (pt u31.1 a0 5 (u31.1 a0 0)) a0 3 (1 : Int32)) u31.2.1 u31.2.2 (((pt (pt u31.1 a0 5 (u31.1 a0 0)) a0 3 (1 : Int32)) a0 5) ||| ((pt (pt u31.1 a0 5 (u31.1 a0 0)) a0 3 (1 : Int32)) a0 6)) hh) (cwV 1 C.2.2.2.2 (gd_V w_1181 w_1182 w_1183 w_119 w_1184) rfl rfl rfl cdX4_outputsBy ⟨Nat.le_of_ble_eq_true rfl, Nat.le_of_ble_eq_true rfl⟩) rfl (kd_lt ha1 (by decide)) (ce4 ha1) rfl hl.1 (Nat.le_of_ble_eq_true rfl) dX0_step_58 ⟨Nat.zero_le _, Nat.zero_le _⟩ (fun r58 u58 H locs hh hw => ?_) rfl
  refine lv_aload_n C.1 C.2.1 dX0_step_61 rfl (lv_at hl 3 rfl) ?_
  refine c_Vv C hw (ctX3_doOutputs l D h cI cL cF cM a2 a3 ha2 ha3 u58.1 u58.2.1 u58.2.2 r58 hh) (cwV 2 C.2.2.2.2 (gd_V w_1186 w_1187 w_1188 w_121 w_1189) rfl rfl rfl cdX3_doOutputs ⟨Nat.le_of_ble_eq_true rfl, Nat.le_of_ble_eq_true rfl⟩) rfl (kd_lt ha2 (by decide)) (ce3 ha2) rfl hl.1 (Nat.le_of_ble_eq_true rfl) dX0_step_62 ⟨Nat.zero_le _, Nat.zero_le _⟩ (fun u62 H locs hh hw => ?_) rfl
  exact hR _ _ (u62.1, u62.2.1, u62.2.2) _ _ dX0_step_65 hh hw
theorem ctX0_step (l : Launch) (D : va_G) (h : Nat → Nat) (cI cL cF cM : ClassId) (a0 : Nat) (a1 : Nat) (a2 : Nat) (a3 : Nat) (ha0 : kd a0 = 0) (ha1 : kd a1 = 4) (ha2 : kd a2 = 3) (ha3 : kd a3 = 1) (F : Nat → Nat → Int32) (L : Nat → Nat → Int64) (r : Nat → Nat → Nat) {K : cS → Prop} (hh : wpX0_step a0 a1 a2 a3 F L r K) : Cv l yX0_step wsX0_step rmX0_step [.ref (h a0), .ref (h a1), .ref (h a2), .ref (h a3)] D (cT cI cL cF cM) (cWu h cI cL cF cM) (F, L, r) K := by
  refine Cv_of (cc := cX0_step) (maxL := 4) (by decide) rfl (Nat.le_of_ble_eq_true rfl) ?_
  intro p e s m below meth c A Q C hw hR ls hl
  exact tX0_step_b0 C hR ha0 ha1 ha2 ha3 hh hw hl
theorem cdX0_step : yX0_step.cls = RX0 ∧ yX0_step.cls ≠ "java/lang/invoke/MethodHandle" ∧ yX0_step.cls ≠ "java/lang/invoke/VarHandle" ∧ (parseMethodDescriptor yX0_step.desc).map (fun d => d.parameters.length) = some 3 := by decide +kernel
abbrev rmX10_pull : Room := { frames := 3, cells := 0, slots := 0, locals := 72 }
set_option maxHeartbeats 4000000 in
set_option maxRecDepth 100000 in
theorem tX10_pull_b11 {K : Int32 → cS → Prop} (C : CallFix p m c cX10_pull 3 s args wsX10_pull RX10) (hR : Rti .int p l e rmX10_pull s m args below meth c cX10_pull D A (cT cI cL cF cM) (cWu h cI cL cF cM) K Q) {F : Nat → Nat → Int32} {L : Nat → Nat → Int64} {r : Nat → Nat → Nat} (hh : wpX10_pull_b11 F L r K) {H : Heap} {locs : List Loc} {ls : Array Slot} (hw : Wd D A s (cT cI cL cF cM) (cW h cI cL cF cM F L r) H locs) (hl : lv_has ls 3 [(0, .ref (h 0))]) : W p l e rmX10_pull s m args below meth c H locs 0 0 Q (F0 m 11 ls []) := by
  unfold wpX10_pull_b11 at hh
  refine lv_iconst (v := (-1 : Int32)) C.1 C.2.1 dX10_pull_11 (by decide) ?_
  exact hR _ _ _ (F, L, r) _ _ dX10_pull_12 rfl hh hw
set_option maxHeartbeats 4000000 in
set_option maxRecDepth 100000 in
theorem tX10_pull_b23_body {B23 : (Nat → Nat → Int32) → (Nat → Nat → Int64) → (Nat → Nat → Nat) → Int32 → Int32 → Prop} {K : Int32 → cS → Prop} (C : CallFix p m c cX10_pull 3 s args wsX10_pull RX10) (hR : Rti .int p l e rmX10_pull s m args below meth c cX10_pull D A (cT cI cL cF cM) (cWu h cI cL cF cM) K Q) (hB23 : ∀ (F : Nat → Nat → Int32) (L : Nat → Nat → Int64) (r : Nat → Nat → Nat) (x1 : Int32) (x2 : Int32) (H : Heap) (locs : List Loc) (ls : Array Slot), B23 F L r x1 x2 → Wd D A s (cT cI cL cF cM) (cW h cI cL cF cM F L r) H locs → lv_has ls 3 [(0, .ref (h 0)), (1, .int x1), (2, .int x2)] → W p l e rmX10_pull s m args below meth c H locs 0 0 Q (F0 m 23 ls [])) {F : Nat → Nat → Int32} {L : Nat → Nat → Int64} {r : Nat → Nat → Nat} {x1 : Int32} {x2 : Int32} (hh : wpX10_pull_b23_body B23 F L r x1 x2 K) {H : Heap} {locs : List Loc} {ls : Array Slot} (hw : Wd D A s (cT cI cL cF cM) (cW h cI cL cF cM F L r) H locs) (hl : lv_has ls 3 [(0, .ref (h 0)), (1, .int x1), (2, .int x2)]) : W p l e rmX10_pull s m args below meth c H locs 0 0 Q (F0 m 23 ls []) := by
  unfold wpX10_pull_b23_body at hh
  refine lv_iload_n C.1 C.2.1 dX10_pull_23 rfl (lv_at hl 2 rfl) ?_
  refine lv_iload_n C.1 C.2.1 dX10_pull_24 rfl (lv_at hl 1 rfl) ?_
  refine lv_icmp_ge (tgt := 53) C.1 C.2.1 dX10_pull_25 (by decide) (fun c25 => ?_) (fun c25 => ?_)
  · replace hh := hh.1 c25
    refine lv_aload_n C.1 C.2.1 dX10_pull_53 rfl (lv_at hl 0 rfl) ?_
    refine c_get C hw (inC inW10) (kd_lt kp0 (by decide)) (ce10 kp0) rfl 6 (by decide) (wc w_576) (v := .ref (h 74)) rfl dX10_pull_54 ?_
    refine c_get C hw (inC inW3) (kd_lt kp74 (by decide)) (ce3 kp74) rfl 7 (by decide) (wc w_408) (v := .int (F 74 7)) rfl dX10_pull_57 ?_
    exact hR _ _ _ (F, L, r) _ _ dX10_pull_60 rfl hh hw
  · replace hh := hh.2 c25
    refine lv_aload_n C.1 C.2.1 dX10_pull_28 rfl (lv_at hl 0 rfl) ?_
    refine c_get C hw (inC inW10) (kd_lt kp0 (by decide)) (ce10 kp0) rfl 7 (by decide) (wc w_577) (v := .ref (h 43)) rfl dX10_pull_29 ?_
    refine lv_aload_n C.1 C.2.1 dX10_pull_32 rfl (lv_at hl 0 rfl) ?_
    refine c_get C hw (inC inW10) (kd_lt kp0 (by decide)) (ce10 kp0) rfl 4 (by decide) (wc w_574) (v := .ref (h (r 0 4))) rfl dX10_pull_33 ?_
    refine lv_aload_n C.1 C.2.1 dX10_pull_36 rfl (lv_at hl 0 rfl) ?_
    refine c_get C hw (inC inW10) (kd_lt kp0 (by decide)) (ce10 kp0) rfl 6 (by decide) (wc w_576) (v := .ref (h 74)) rfl dX10_pull_37 ?_
    refine lv_aload_n C.1 C.2.1 dX10_pull_40 rfl (lv_at hl 0 rfl) ?_
    refine c_get C hw (inC inW10) (kd_lt kp0 (by decide)) (ce10 kp0) rfl 5 (by decide) (wc w_575) (v := .ref (h 46)) rfl dX10_pull_41 ?_
    obtain ⟨hk0, hh⟩ := hh
    refine c_Vv C hw (ctX0_step l D h cI cL cF cM 43 (r 0 4) 74 46 kp43 hk0 kp74 kp46 F L r hh) (cwV 3 C.2.2.2.2 (gd_V w_1163 w_1164 w_1165 w_122 w_1166) rfl rfl rfl cdX0_step ⟨Nat.le_of_ble_eq_true rfl, Nat.le_of_ble_eq_true rfl⟩) rfl (kd_lt kp43 (by decide)) (ce0 kp43) rfl hl.1 (Nat.le_of_ble_eq_true rfl) dX10_pull_44 ⟨Nat.zero_le _, Nat.zero_le _⟩ (fun u44 H locs hh hw => ?_) rfl
    refine lv_iinc (v := x2 + (1 : Int32)) (lv' := [(2, .int (x2 + (1 : Int32))), (0, .ref (h 0)), (1, .int x1)]) C.1 C.2.1 dX10_pull_47 hl (k := 2) rfl rfl (by decide) rfl (fun ls hl => ?_)
    refine lv_goto (tgt := 23) C.1 C.2.1 dX10_pull_50 (by decide) ?_
    exact hB23 _ _ _ _ _ _ _ _ hh hw (lv_sub hl [1, 2, 0] rfl)
theorem tX10_pull_b23 {K : Int32 → cS → Prop} (C : CallFix p m c cX10_pull 3 s args wsX10_pull RX10) (hR : Rti .int p l e rmX10_pull s m args below meth c cX10_pull D A (cT cI cL cF cM) (cWu h cI cL cF cM) K Q) (n : Nat) : ∀ (F : Nat → Nat → Int32) (L : Nat → Nat → Int64) (r : Nat → Nat → Nat) (x1 : Int32) (x2 : Int32) (H : Heap) (locs : List Loc) (ls : Array Slot), wpX10_pull_b23 n F L r x1 x2 K → Wd D A s (cT cI cL cF cM) (cW h cI cL cF cM F L r) H locs → lv_has ls 3 [(0, .ref (h 0)), (1, .int x1), (2, .int x2)] → W p l e rmX10_pull s m args below meth c H locs 0 0 Q (F0 m 23 ls []) := by
  induction n with
  | zero => intro F L r x1 x2 H locs ls hh; exact hh.elim
  | succ n ih => intro F L r x1 x2 H locs ls hh hw hl; exact tX10_pull_b23_body C hR ih hh hw hl
set_option maxHeartbeats 4000000 in
set_option maxRecDepth 100000 in
theorem tX10_pull_b0 {K : Int32 → cS → Prop} (C : CallFix p m c cX10_pull 3 s args wsX10_pull RX10) (hR : Rti .int p l e rmX10_pull s m args below meth c cX10_pull D A (cT cI cL cF cM) (cWu h cI cL cF cM) K Q) {F : Nat → Nat → Int32} {L : Nat → Nat → Int64} {r : Nat → Nat → Nat} {x1 : Int32} (hh : wpX10_pull_b0 F L r x1 K) {H : Heap} {locs : List Loc} {ls : Array Slot} (hw : Wd D A s (cT cI cL cF cM) (cW h cI cL cF cM F L r) H locs) (hl : lv_has ls 3 [(0, .ref (h 0)), (1, .int x1)]) : W p l e rmX10_pull s m args below meth c H locs 0 0 Q (F0 m 0 ls []) := by
  unfold wpX10_pull_b0 at hh
  refine lv_iload_n C.1 C.2.1 dX10_pull_0 rfl (lv_at hl 1 rfl) ?_
  refine lv_if_lt (tgt := 11) C.1 C.2.1 dX10_pull_1 (by decide) (fun c1 => ?_) (fun c1 => ?_)
  · replace hh := hh.1 c1
    exact tX10_pull_b11 C hR hh hw (lv_sub hl [0] rfl)
  · replace hh := hh.2 c1
    refine lv_iload_n C.1 C.2.1 dX10_pull_4 rfl (lv_at hl 1 rfl) ?_
    refine lv_sipush (v := (5000 : Int32)) C.1 C.2.1 dX10_pull_5 (by decide) ?_
    refine lv_icmp_le (tgt := 13) C.1 C.2.1 dX10_pull_8 (by decide) (fun c8 => ?_) (fun c8 => ?_)
    · replace hh := hh.1 c8
      refine lv_aload_n C.1 C.2.1 dX10_pull_13 rfl (lv_at hl 0 rfl) ?_
      refine c_get C hw (inC inW10) (kd_lt kp0 (by decide)) (ce10 kp0) rfl 6 (by decide) (wc w_576) (v := .ref (h 74)) rfl dX10_pull_14 ?_
      refine lv_iconst (v := (0 : Int32)) C.1 C.2.1 dX10_pull_17 (by decide) ?_
      refine c_puti C hw (inC inW3) tyX3 tyX3_ok nmX3 (kd_lt kp74 (by decide)) (ce3 kp74) rfl 7 (by decide) (wc w_408) rfl (ty := .int) (by decide +kernel) rfl rfl (Nat.le_of_ble_eq_true rfl) rfl dX10_pull_18 (fun H locs hw => ?_)
      refine lv_iconst (v := (0 : Int32)) C.1 C.2.1 dX10_pull_21 (by decide) ?_
      refine lv_istore_n (lv' := [(2, .int (0 : Int32)), (0, .ref (h 0)), (1, .int x1)]) C.1 C.2.1 dX10_pull_22 rfl hl (by decide) rfl (fun ls hl => ?_)
      obtain ⟨n, hh⟩ := hh
      exact tX10_pull_b23 C hR n _ _ _ _ _ _ _ _ hh hw (lv_sub hl [1, 2, 0] rfl)
    · replace hh := hh.2 c8
      exact tX10_pull_b11 C hR hh hw (lv_sub hl [0] rfl)
theorem ctX10_pull (l : Launch) (D : va_G) (h : Nat → Nat) (cI cL cF cM : ClassId) (F : Nat → Nat → Int32) (L : Nat → Nat → Int64) (r : Nat → Nat → Nat) (x1 : Int32) {K : Int32 → cS → Prop} (hh : wpX10_pull F L r x1 K) : Ci l yX10_pull wsX10_pull rmX10_pull [.ref (h 0), .int x1] D (cT cI cL cF cM) (cWu h cI cL cF cM) (F, L, r) K := by
  refine Ci_of (cc := cX10_pull) (maxL := 3) (by decide) rfl (Nat.le_of_ble_eq_true rfl) ?_
  intro p e s m below meth c A Q C hw hR ls hl
  exact tX10_pull_b0 C hR hh hw hl
theorem cdX10_pull : yX10_pull.cls = RX10 ∧ yX10_pull.cls ≠ "java/lang/invoke/MethodHandle" ∧ yX10_pull.cls ≠ "java/lang/invoke/VarHandle" ∧ (parseMethodDescriptor yX10_pull.desc).map (fun d => d.parameters.length) = some 1 := by decide +kernel
abbrev rmX10_pullRun : Room := { frames := 3, cells := 0, slots := 0, locals := 72 }
set_option maxHeartbeats 4000000 in
set_option maxRecDepth 100000 in
theorem tX10_pullRun_b11 {K : Int32 → cS → Prop} (C : CallFix p m c cX10_pullRun 3 s args wsX10_pullRun RX10) (hR : Rti .int p l e rmX10_pullRun s m args below meth c cX10_pullRun D A (cT cI cL cF cM) (cWu h cI cL cF cM) K Q) {F : Nat → Nat → Int32} {L : Nat → Nat → Int64} {r : Nat → Nat → Nat} (hh : wpX10_pullRun_b11 F L r K) {H : Heap} {locs : List Loc} {ls : Array Slot} (hw : Wd D A s (cT cI cL cF cM) (cW h cI cL cF cM F L r) H locs) (hl : lv_has ls 3 [(0, .ref (h 0))]) : W p l e rmX10_pullRun s m args below meth c H locs 0 0 Q (F0 m 11 ls []) := by
  unfold wpX10_pullRun_b11 at hh
  refine lv_iconst (v := (-1 : Int32)) C.1 C.2.1 dX10_pullRun_11 (by decide) ?_
  exact hR _ _ _ (F, L, r) _ _ dX10_pullRun_12 rfl hh hw
set_option maxHeartbeats 4000000 in
set_option maxRecDepth 100000 in
theorem tX10_pullRun_b87 {K : Int32 → cS → Prop} (C : CallFix p m c cX10_pullRun 3 s args wsX10_pullRun RX10) (hR : Rti .int p l e rmX10_pullRun s m args below meth c cX10_pullRun D A (cT cI cL cF cM) (cWu h cI cL cF cM) K Q) {F : Nat → Nat → Int32} {L : Nat → Nat → Int64} {r : Nat → Nat → Nat} {k0 : Int32} (hh : wpX10_pullRun_b87 F L r k0 K) {H : Heap} {locs : List Loc} {ls : Array Slot} (hw : Wd D A s (cT cI cL cF cM) (cW h cI cL cF cM F L r) H locs) (hl : lv_has ls 3 [(0, .ref (h 0))]) : W p l e rmX10_pullRun s m args below meth c H locs 0 0 Q (F0 m 87 ls [.int k0]) := by
  unfold wpX10_pullRun_b87 at hh
  exact hR _ _ _ (F, L, r) _ _ dX10_pullRun_87 rfl hh hw
set_option maxHeartbeats 4000000 in
set_option maxRecDepth 100000 in
theorem tX10_pullRun_b15_body {B15 : (Nat → Nat → Int32) → (Nat → Nat → Int64) → (Nat → Nat → Nat) → Int32 → Int32 → Prop} {K : Int32 → cS → Prop} (C : CallFix p m c cX10_pullRun 3 s args wsX10_pullRun RX10) (hR : Rti .int p l e rmX10_pullRun s m args below meth c cX10_pullRun D A (cT cI cL cF cM) (cWu h cI cL cF cM) K Q) (hB15 : ∀ (F : Nat → Nat → Int32) (L : Nat → Nat → Int64) (r : Nat → Nat → Nat) (x1 : Int32) (x2 : Int32) (H : Heap) (locs : List Loc) (ls : Array Slot), B15 F L r x1 x2 → Wd D A s (cT cI cL cF cM) (cW h cI cL cF cM F L r) H locs → lv_has ls 3 [(0, .ref (h 0)), (1, .int x1), (2, .int x2)] → W p l e rmX10_pullRun s m args below meth c H locs 0 0 Q (F0 m 15 ls [])) {F : Nat → Nat → Int32} {L : Nat → Nat → Int64} {r : Nat → Nat → Nat} {x1 : Int32} {x2 : Int32} (hh : wpX10_pullRun_b15_body B15 F L r x1 x2 K) {H : Heap} {locs : List Loc} {ls : Array Slot} (hw : Wd D A s (cT cI cL cF cM) (cW h cI cL cF cM F L r) H locs) (hl : lv_has ls 3 [(0, .ref (h 0)), (1, .int x1), (2, .int x2)]) : W p l e rmX10_pullRun s m args below meth c H locs 0 0 Q (F0 m 15 ls []) := by
  unfold wpX10_pullRun_b15_body at hh
  refine lv_iload_n C.1 C.2.1 dX10_pullRun_15 rfl (lv_at hl 2 rfl) ?_
  refine lv_iload_n C.1 C.2.1 dX10_pullRun_16 rfl (lv_at hl 1 rfl) ?_
  refine lv_icmp_ge (tgt := 64) C.1 C.2.1 dX10_pullRun_17 (by decide) (fun c17 => ?_) (fun c17 => ?_)
  · replace hh := hh.1 c17
    refine lv_aload_n C.1 C.2.1 dX10_pullRun_64 rfl (lv_at hl 0 rfl) ?_
    refine c_get C hw (inC inW10) (kd_lt kp0 (by decide)) (ce10 kp0) rfl 6 (by decide) (wc w_576) (v := .ref (h 74)) rfl dX10_pullRun_65 ?_
    refine c_get C hw (inC inW3) (kd_lt kp74 (by decide)) (ce3 kp74) rfl 0 (by decide) (wc w_393) (v := .int (F 74 0)) rfl dX10_pullRun_68 ?_
    refine lv_aload_n C.1 C.2.1 dX10_pullRun_71 rfl (lv_at hl 0 rfl) ?_
    refine c_get C hw (inC inW10) (kd_lt kp0 (by decide)) (ce10 kp0) rfl 5 (by decide) (wc w_575) (v := .ref (h 46)) rfl dX10_pullRun_72 ?_
    refine c_get C hw (inC inW1) (kd_lt kp46 (by decide)) (ce1 kp46) rfl 3 (by decide) (wc w_362) (v := .int (F 46 3)) rfl dX10_pullRun_75 ?_
    refine lv_icmp_ne (tgt := 85) C.1 C.2.1 dX10_pullRun_78 (by decide) (fun c78 => ?_) (fun c78 => ?_)
    · replace hh := hh.1 c78
      refine lv_bipush (v := (-2 : Int32)) C.1 C.2.1 dX10_pullRun_85 (by decide) ?_
      exact tX10_pullRun_b87 C hR hh hw (lv_sub hl [0] rfl)
    · replace hh := hh.2 c78
      refine lv_iload_n C.1 C.2.1 dX10_pullRun_81 rfl (lv_at hl 1 rfl) ?_
      refine lv_goto (tgt := 87) C.1 C.2.1 dX10_pullRun_82 (by decide) ?_
      exact tX10_pullRun_b87 C hR hh hw (lv_sub hl [0] rfl)
  · replace hh := hh.2 c17
    refine lv_aload_n C.1 C.2.1 dX10_pullRun_20 rfl (lv_at hl 0 rfl) ?_
    refine c_get C hw (inC inW10) (kd_lt kp0 (by decide)) (ce10 kp0) rfl 6 (by decide) (wc w_576) (v := .ref (h 74)) rfl dX10_pullRun_21 ?_
    refine c_get C hw (inC inW3) (kd_lt kp74 (by decide)) (ce3 kp74) rfl 0 (by decide) (wc w_393) (v := .int (F 74 0)) rfl dX10_pullRun_24 ?_
    refine lv_aload_n C.1 C.2.1 dX10_pullRun_27 rfl (lv_at hl 0 rfl) ?_
    refine c_get C hw (inC inW10) (kd_lt kp0 (by decide)) (ce10 kp0) rfl 5 (by decide) (wc w_575) (v := .ref (h 46)) rfl dX10_pullRun_28 ?_
    refine c_get C hw (inC inW1) (kd_lt kp46 (by decide)) (ce1 kp46) rfl 3 (by decide) (wc w_362) (v := .int (F 46 3)) rfl dX10_pullRun_31 ?_
    refine lv_icmp_ne (tgt := 39) C.1 C.2.1 dX10_pullRun_34 (by decide) (fun c34 => ?_) (fun c34 => ?_)
    · replace hh := hh.1 c34
      refine lv_aload_n C.1 C.2.1 dX10_pullRun_39 rfl (lv_at hl 0 rfl) ?_
      refine c_get C hw (inC inW10) (kd_lt kp0 (by decide)) (ce10 kp0) rfl 7 (by decide) (wc w_577) (v := .ref (h 43)) rfl dX10_pullRun_40 ?_
      refine lv_aload_n C.1 C.2.1 dX10_pullRun_43 rfl (lv_at hl 0 rfl) ?_
      refine c_get C hw (inC inW10) (kd_lt kp0 (by decide)) (ce10 kp0) rfl 4 (by decide) (wc w_574) (v := .ref (h (r 0 4))) rfl dX10_pullRun_44 ?_
      refine lv_aload_n C.1 C.2.1 dX10_pullRun_47 rfl (lv_at hl 0 rfl) ?_
      refine c_get C hw (inC inW10) (kd_lt kp0 (by decide)) (ce10 kp0) rfl 6 (by decide) (wc w_576) (v := .ref (h 74)) rfl dX10_pullRun_48 ?_
      refine lv_aload_n C.1 C.2.1 dX10_pullRun_51 rfl (lv_at hl 0 rfl) ?_
      refine c_get C hw (inC inW10) (kd_lt kp0 (by decide)) (ce10 kp0) rfl 5 (by decide) (wc w_575) (v := .ref (h 46)) rfl dX10_pullRun_52 ?_
      obtain ⟨hk0, hh⟩ := hh
      refine c_Vv C hw (ctX0_step l D h cI cL cF cM 43 (r 0 4) 74 46 kp43 hk0 kp74 kp46 F L r hh) (cwV 3 C.2.2.2.2 (gd_V w_1163 w_1164 w_1165 w_122 w_1166) rfl rfl rfl cdX0_step ⟨Nat.le_of_ble_eq_true rfl, Nat.le_of_ble_eq_true rfl⟩) rfl (kd_lt kp43 (by decide)) (ce0 kp43) rfl hl.1 (Nat.le_of_ble_eq_true rfl) dX10_pullRun_55 ⟨Nat.zero_le _, Nat.zero_le _⟩ (fun u55 H locs hh hw => ?_) rfl
      refine lv_iinc (v := x2 + (1 : Int32)) (lv' := [(2, .int (x2 + (1 : Int32))), (0, .ref (h 0)), (1, .int x1)]) C.1 C.2.1 dX10_pullRun_58 hl (k := 2) rfl rfl (by decide) rfl (fun ls hl => ?_)
      refine lv_goto (tgt := 15) C.1 C.2.1 dX10_pullRun_61 (by decide) ?_
      exact hB15 _ _ _ _ _ _ _ _ hh hw (lv_sub hl [1, 2, 0] rfl)
    · replace hh := hh.2 c34
      refine lv_iload_n C.1 C.2.1 dX10_pullRun_37 rfl (lv_at hl 2 rfl) ?_
      exact hR _ _ _ (F, L, r) _ _ dX10_pullRun_38 rfl hh hw
theorem tX10_pullRun_b15 {K : Int32 → cS → Prop} (C : CallFix p m c cX10_pullRun 3 s args wsX10_pullRun RX10) (hR : Rti .int p l e rmX10_pullRun s m args below meth c cX10_pullRun D A (cT cI cL cF cM) (cWu h cI cL cF cM) K Q) (n : Nat) : ∀ (F : Nat → Nat → Int32) (L : Nat → Nat → Int64) (r : Nat → Nat → Nat) (x1 : Int32) (x2 : Int32) (H : Heap) (locs : List Loc) (ls : Array Slot), wpX10_pullRun_b15 n F L r x1 x2 K → Wd D A s (cT cI cL cF cM) (cW h cI cL cF cM F L r) H locs → lv_has ls 3 [(0, .ref (h 0)), (1, .int x1), (2, .int x2)] → W p l e rmX10_pullRun s m args below meth c H locs 0 0 Q (F0 m 15 ls []) := by
  induction n with
  | zero => intro F L r x1 x2 H locs ls hh; exact hh.elim
  | succ n ih => intro F L r x1 x2 H locs ls hh hw hl; exact tX10_pullRun_b15_body C hR ih hh hw hl
set_option maxHeartbeats 4000000 in
set_option maxRecDepth 100000 in
theorem tX10_pullRun_b0 {K : Int32 → cS → Prop} (C : CallFix p m c cX10_pullRun 3 s args wsX10_pullRun RX10) (hR : Rti .int p l e rmX10_pullRun s m args below meth c cX10_pullRun D A (cT cI cL cF cM) (cWu h cI cL cF cM) K Q) {F : Nat → Nat → Int32} {L : Nat → Nat → Int64} {r : Nat → Nat → Nat} {x1 : Int32} (hh : wpX10_pullRun_b0 F L r x1 K) {H : Heap} {locs : List Loc} {ls : Array Slot} (hw : Wd D A s (cT cI cL cF cM) (cW h cI cL cF cM F L r) H locs) (hl : lv_has ls 3 [(0, .ref (h 0)), (1, .int x1)]) : W p l e rmX10_pullRun s m args below meth c H locs 0 0 Q (F0 m 0 ls []) := by
  unfold wpX10_pullRun_b0 at hh
  refine lv_iload_n C.1 C.2.1 dX10_pullRun_0 rfl (lv_at hl 1 rfl) ?_
  refine lv_if_lt (tgt := 11) C.1 C.2.1 dX10_pullRun_1 (by decide) (fun c1 => ?_) (fun c1 => ?_)
  · replace hh := hh.1 c1
    exact tX10_pullRun_b11 C hR hh hw (lv_sub hl [0] rfl)
  · replace hh := hh.2 c1
    refine lv_iload_n C.1 C.2.1 dX10_pullRun_4 rfl (lv_at hl 1 rfl) ?_
    refine lv_sipush (v := (5000 : Int32)) C.1 C.2.1 dX10_pullRun_5 (by decide) ?_
    refine lv_icmp_le (tgt := 13) C.1 C.2.1 dX10_pullRun_8 (by decide) (fun c8 => ?_) (fun c8 => ?_)
    · replace hh := hh.1 c8
      refine lv_iconst (v := (0 : Int32)) C.1 C.2.1 dX10_pullRun_13 (by decide) ?_
      refine lv_istore_n (lv' := [(2, .int (0 : Int32)), (0, .ref (h 0)), (1, .int x1)]) C.1 C.2.1 dX10_pullRun_14 rfl hl (by decide) rfl (fun ls hl => ?_)
      obtain ⟨n, hh⟩ := hh
      exact tX10_pullRun_b15 C hR n _ _ _ _ _ _ _ _ hh hw (lv_sub hl [1, 2, 0] rfl)
    · replace hh := hh.2 c8
      exact tX10_pullRun_b11 C hR hh hw (lv_sub hl [0] rfl)
theorem ctX10_pullRun (l : Launch) (D : va_G) (h : Nat → Nat) (cI cL cF cM : ClassId) (F : Nat → Nat → Int32) (L : Nat → Nat → Int64) (r : Nat → Nat → Nat) (x1 : Int32) {K : Int32 → cS → Prop} (hh : wpX10_pullRun F L r x1 K) : Ci l yX10_pullRun wsX10_pullRun rmX10_pullRun [.ref (h 0), .int x1] D (cT cI cL cF cM) (cWu h cI cL cF cM) (F, L, r) K := by
  refine Ci_of (cc := cX10_pullRun) (maxL := 3) (by decide) rfl (Nat.le_of_ble_eq_true rfl) ?_
  intro p e s m below meth c A Q C hw hR ls hl
  exact tX10_pullRun_b0 C hR hh hw hl
theorem cdX10_pullRun : yX10_pullRun.cls = RX10 ∧ yX10_pullRun.cls ≠ "java/lang/invoke/MethodHandle" ∧ yX10_pullRun.cls ≠ "java/lang/invoke/VarHandle" ∧ (parseMethodDescriptor yX10_pullRun.desc).map (fun d => d.parameters.length) = some 1 := by decide +kernel
abbrev rmX10_relays : Room := { frames := 0, cells := 0, slots := 0, locals := 0 }
set_option maxHeartbeats 4000000 in
set_option maxRecDepth 100000 in
theorem tX10_relays_b0 {K : Int32 → cS → Prop} (C : CallFix p m c cX10_relays 1 s args wsX10_relays RX10) (hR : Rti .int p l e rmX10_relays s m args below meth c cX10_relays D A (cT cI cL cF cM) (cWu h cI cL cF cM) K Q) {F : Nat → Nat → Int32} {L : Nat → Nat → Int64} {r : Nat → Nat → Nat} (hh : wpX10_relays_b0 F L r K) {H : Heap} {locs : List Loc} {ls : Array Slot} (hw : Wd D A s (cT cI cL cF cM) (cW h cI cL cF cM F L r) H locs) (hl : lv_has ls 1 [(0, .ref (h 0))]) : W p l e rmX10_relays s m args below meth c H locs 0 0 Q (F0 m 0 ls []) := by
  unfold wpX10_relays_b0 at hh
  refine lv_aload_n C.1 C.2.1 dX10_relays_0 rfl (lv_at hl 0 rfl) ?_
  refine c_get C hw (inC inW10) (kd_lt kp0 (by decide)) (ce10 kp0) rfl 7 (by decide) (wc w_577) (v := .ref (h 43)) rfl dX10_relays_1 ?_
  refine c_get C hw (inC inW0) (kd_lt kp43 (by decide)) (ce0 kp43) rfl 0 (by decide) (wc w_440) (v := .int (F 43 0)) rfl dX10_relays_4 ?_
  exact hR _ _ _ (F, L, r) _ _ dX10_relays_7 rfl hh hw
theorem ctX10_relays (l : Launch) (D : va_G) (h : Nat → Nat) (cI cL cF cM : ClassId) (F : Nat → Nat → Int32) (L : Nat → Nat → Int64) (r : Nat → Nat → Nat) {K : Int32 → cS → Prop} (hh : wpX10_relays F L r K) : Ci l yX10_relays wsX10_relays rmX10_relays [.ref (h 0)] D (cT cI cL cF cM) (cWu h cI cL cF cM) (F, L, r) K := by
  refine Ci_of (cc := cX10_relays) (maxL := 1) (by decide) rfl (Nat.le_of_ble_eq_true rfl) ?_
  intro p e s m below meth c A Q C hw hR ls hl
  exact tX10_relays_b0 C hR hh hw hl
theorem cdX10_relays : yX10_relays.cls = RX10 ∧ yX10_relays.cls ≠ "java/lang/invoke/MethodHandle" ∧ yX10_relays.cls ≠ "java/lang/invoke/VarHandle" ∧ (parseMethodDescriptor yX10_relays.desc).map (fun d => d.parameters.length) = some 0 := by decide +kernel
abbrev rmX0_wouldStay : Room := { frames := 1, cells := 0, slots := 0, locals := 26 }
set_option maxHeartbeats 4000000 in
set_option maxRecDepth 100000 in
theorem tX0_wouldStay_b38 {a0 : Nat} {a1 : Nat} {K : Int32 → cS → Prop} (C : CallFix p m c cX0_wouldStay 5 s args wsX0_wouldStay RX0) (hR : Rti .boolean p l e rmX0_wouldStay s m args below meth c cX0_wouldStay D A (cT cI cL cF cM) (cWu h cI cL cF cM) K Q) (ha0 : kd a0 = 0) (ha1 : kd a1 = 4) {F : Nat → Nat → Int32} {L : Nat → Nat → Int64} {r : Nat → Nat → Nat} {k0 : Int32} (hh : wpX0_wouldStay_b38 a0 a1 F L r k0 K) {H : Heap} {locs : List Loc} {ls : Array Slot} (hw : Wd D A s (cT cI cL cF cM) (cW h cI cL cF cM F L r) H locs) (hl : lv_has ls 5 [(0, .ref (h a0))]) : W p l e rmX0_wouldStay s m args below meth c H locs 0 0 Q (F0 m 38 ls [.int k0]) := by
  unfold wpX0_wouldStay_b38 at hh
  obtain ⟨hb38, hh⟩ := hh
  exact hR _ _ _ (F, L, r) _ _ dX0_wouldStay_38 (isB_nar hb38) hh hw
set_option maxHeartbeats 4000000 in
set_option maxRecDepth 100000 in
theorem tX0_wouldStay_b0 {a0 : Nat} {a1 : Nat} {K : Int32 → cS → Prop} (C : CallFix p m c cX0_wouldStay 5 s args wsX0_wouldStay RX0) (hR : Rti .boolean p l e rmX0_wouldStay s m args below meth c cX0_wouldStay D A (cT cI cL cF cM) (cWu h cI cL cF cM) K Q) (ha0 : kd a0 = 0) (ha1 : kd a1 = 4) {F : Nat → Nat → Int32} {L : Nat → Nat → Int64} {r : Nat → Nat → Nat} {x2 : Int32} {x3 : Int32} (hh : wpX0_wouldStay_b0 a0 a1 F L r x2 x3 K) {H : Heap} {locs : List Loc} {ls : Array Slot} (hw : Wd D A s (cT cI cL cF cM) (cW h cI cL cF cM F L r) H locs) (hl : lv_has ls 5 [(0, .ref (h a0)), (1, .ref (h a1)), (2, .int x2), (3, .int x3)]) : W p l e rmX0_wouldStay s m args below meth c H locs 0 0 Q (F0 m 0 ls []) := by
  unfold wpX0_wouldStay_b0 at hh
  refine lv_aload_n C.1 C.2.1 dX0_wouldStay_0 rfl (lv_at hl 0 rfl) ?_
  refine c_get C hw (inC inW0) (kd_lt ha0 (by decide)) (ce0 ha0) rfl 4 (by decide) (wc w_445) (v := .int (F a0 4)) rfl dX0_wouldStay_1 ?_
  refine lv_iconst (v := (1 : Int32)) C.1 C.2.1 dX0_wouldStay_4 (by decide) ?_
  refine lv_iload_n C.1 C.2.1 dX0_wouldStay_5 rfl (lv_at hl 3 rfl) ?_
  refine g_ishl C dX0_wouldStay_6 ?_
  refine lv_ixor C.1 C.2.1 dX0_wouldStay_7 ?_
  refine lv_aload_n C.1 C.2.1 dX0_wouldStay_8 rfl (lv_at hl 0 rfl) ?_
  refine c_get C hw (inC inW0) (kd_lt ha0 (by decide)) (ce0 ha0) rfl 6 (by decide) (wc w_447) (v := .int (F a0 6)) rfl dX0_wouldStay_9 ?_
  refine lv_ior C.1 C.2.1 dX0_wouldStay_12 ?_
  refine lv_topi (fun y13 ey13 => ?_)
  replace hh := hh y13 ey13
  refine lv_istore (lv' := [(4, .int y13), (0, .ref (h a0)), (1, .ref (h a1)), (2, .int x2), (3, .int x3)]) C.1 C.2.1 dX0_wouldStay_13 hl (by decide) rfl (fun ls hl => ?_)
  refine lv_aload_n C.1 C.2.1 dX0_wouldStay_15 rfl (lv_at hl 2 rfl) ?_
  refine lv_iload_n C.1 C.2.1 dX0_wouldStay_16 rfl (lv_at hl 3 rfl) ?_
  refine lv_iload C.1 C.2.1 dX0_wouldStay_17 (lv_at hl 0 rfl) ?_
  refine c_Vi C hw (ctX4_valueOf l D h cI cL cF cM a1 ha1 F L r x2 y13 hh) (cwV 2 C.2.2.2.2 (gd_V w_1214 w_1178 w_1179 w_119 w_1180) rfl rfl rfl cdX4_valueOf ⟨Nat.le_of_ble_eq_true rfl, Nat.le_of_ble_eq_true rfl⟩) rfl (kd_lt ha1 (by decide)) (ce4 ha1) rfl hl.1 (Nat.le_of_ble_eq_true rfl) dX0_wouldStay_19 ⟨Nat.zero_le _, Nat.zero_le _⟩ (fun r19 u19 H locs hh hw => ?_) rfl
  refine lv_aload_n C.1 C.2.1 dX0_wouldStay_22 rfl (lv_at hl 1 rfl) ?_
  refine c_get C hw (inC inW0) (kd_lt ha0 (by decide)) (ce0 ha0) rfl 4 (by decide) (wc w_445) (v := .int (u19.1 a0 4)) rfl dX0_wouldStay_23 ?_
  refine lv_iload_n C.1 C.2.1 dX0_wouldStay_26 rfl (lv_at hl 3 rfl) ?_
  refine g_ishr C dX0_wouldStay_27 ?_
  refine lv_iconst (v := (1 : Int32)) C.1 C.2.1 dX0_wouldStay_28 (by decide) ?_
  refine lv_iand C.1 C.2.1 dX0_wouldStay_29 ?_
  refine lv_icmp_ne (tgt := 37) C.1 C.2.1 dX0_wouldStay_30 (by decide) (fun c30 => ?_) (fun c30 => ?_)
  · replace hh := hh.1 c30
    refine lv_iconst (v := (0 : Int32)) C.1 C.2.1 dX0_wouldStay_37 (by decide) ?_
    exact tX0_wouldStay_b38 C hR ha0 ha1 hh hw (lv_sub hl [1] rfl)
  · replace hh := hh.2 c30
    refine lv_iconst (v := (1 : Int32)) C.1 C.2.1 dX0_wouldStay_33 (by decide) ?_
    refine lv_goto (tgt := 38) C.1 C.2.1 dX0_wouldStay_34 (by decide) ?_
    exact tX0_wouldStay_b38 C hR ha0 ha1 hh hw (lv_sub hl [1] rfl)
theorem ctX0_wouldStay (l : Launch) (D : va_G) (h : Nat → Nat) (cI cL cF cM : ClassId) (a0 : Nat) (a1 : Nat) (ha0 : kd a0 = 0) (ha1 : kd a1 = 4) (F : Nat → Nat → Int32) (L : Nat → Nat → Int64) (r : Nat → Nat → Nat) (x2 : Int32) (x3 : Int32) {K : Int32 → cS → Prop} (hh : wpX0_wouldStay a0 a1 F L r x2 x3 K) : Ci l yX0_wouldStay wsX0_wouldStay rmX0_wouldStay [.ref (h a0), .ref (h a1), .int x2, .int x3] D (cT cI cL cF cM) (cWu h cI cL cF cM) (F, L, r) K := by
  refine Ci_of (cc := cX0_wouldStay) (maxL := 5) (by decide) rfl (Nat.le_of_ble_eq_true rfl) ?_
  intro p e s m below meth c A Q C hw hR ls hl
  exact tX0_wouldStay_b0 C hR ha0 ha1 hh hw hl
theorem cdX0_wouldStay : yX0_wouldStay.cls = RX0 ∧ yX0_wouldStay.cls ≠ "java/lang/invoke/MethodHandle" ∧ yX0_wouldStay.cls ≠ "java/lang/invoke/VarHandle" ∧ (parseMethodDescriptor yX0_wouldStay.desc).map (fun d => d.parameters.length) = some 3 := by decide +kernel
abbrev rmX0_raceOf : Room := { frames := 2, cells := 0, slots := 0, locals := 50 }
set_option maxHeartbeats 4000000 in
set_option maxRecDepth 100000 in
theorem tX0_raceOf_b37 {a0 : Nat} {a1 : Nat} {K : Int32 → cS → Prop} (C : CallFix p m c cX0_raceOf 4 s args wsX0_raceOf RX0) (hR : Rti .int p l e rmX0_raceOf s m args below meth c cX0_raceOf D A (cT cI cL cF cM) (cWu h cI cL cF cM) K Q) (ha0 : kd a0 = 0) (ha1 : kd a1 = 4) {F : Nat → Nat → Int32} {L : Nat → Nat → Int64} {r : Nat → Nat → Nat} {k0 : Int32} (hh : wpX0_raceOf_b37 a0 a1 F L r k0 K) {H : Heap} {locs : List Loc} {ls : Array Slot} (hw : Wd D A s (cT cI cL cF cM) (cW h cI cL cF cM F L r) H locs) (hl : lv_has ls 4 [(0, .ref (h a0))]) : W p l e rmX0_raceOf s m args below meth c H locs 0 0 Q (F0 m 37 ls [.int k0]) := by
  unfold wpX0_raceOf_b37 at hh
  exact hR _ _ _ (F, L, r) _ _ dX0_raceOf_37 rfl hh hw
set_option maxHeartbeats 4000000 in
set_option maxRecDepth 100000 in
theorem tX0_raceOf_b0 {a0 : Nat} {a1 : Nat} {K : Int32 → cS → Prop} (C : CallFix p m c cX0_raceOf 4 s args wsX0_raceOf RX0) (hR : Rti .int p l e rmX0_raceOf s m args below meth c cX0_raceOf D A (cT cI cL cF cM) (cWu h cI cL cF cM) K Q) (ha0 : kd a0 = 0) (ha1 : kd a1 = 4) {F : Nat → Nat → Int32} {L : Nat → Nat → Int64} {r : Nat → Nat → Nat} {x2 : Int32} {x3 : Int32} (hh : wpX0_raceOf_b0 a0 a1 F L r x2 x3 K) {H : Heap} {locs : List Loc} {ls : Array Slot} (hw : Wd D A s (cT cI cL cF cM) (cW h cI cL cF cM F L r) H locs) (hl : lv_has ls 4 [(0, .ref (h a0)), (1, .ref (h a1)), (2, .int x2), (3, .int x3)]) : W p l e rmX0_raceOf s m args below meth c H locs 0 0 Q (F0 m 0 ls []) := by
  unfold wpX0_raceOf_b0 at hh
  refine lv_aload_n C.1 C.2.1 dX0_raceOf_0 rfl (lv_at hl 0 rfl) ?_
  refine lv_aload_n C.1 C.2.1 dX0_raceOf_1 rfl (lv_at hl 1 rfl) ?_
  refine lv_iload_n C.1 C.2.1 dX0_raceOf_2 rfl (lv_at hl 2 rfl) ?_
  refine lv_iload_n C.1 C.2.1 dX0_raceOf_3 rfl (lv_at hl 3 rfl) ?_
  refine c_Vi C hw (ctX0_wouldStay l D h cI cL cF cM a0 a1 ha0 ha1 F L r x2 x3 hh) (cwV 3 C.2.2.2.2 (gd_V w_1210 w_1212 w_46 w_122 w_1213) rfl rfl rfl cdX0_wouldStay ⟨Nat.le_of_ble_eq_true rfl, Nat.le_of_ble_eq_true rfl⟩) rfl (kd_lt ha0 (by decide)) (ce0 ha0) rfl hl.1 (Nat.le_of_ble_eq_true rfl) dX0_raceOf_4 ⟨Nat.zero_le _, Nat.zero_le _⟩ (fun r4 u4 H locs hh hw => ?_) rfl
  refine lv_if_eq (tgt := 17) C.1 C.2.1 dX0_raceOf_7 (by decide) (fun c7 => ?_) (fun c7 => ?_)
  · replace hh := hh.1 c7
    refine lv_aload_n C.1 C.2.1 dX0_raceOf_17 rfl (lv_at hl 0 rfl) ?_
    refine lv_aload_n C.1 C.2.1 dX0_raceOf_18 rfl (lv_at hl 1 rfl) ?_
    refine lv_iload_n C.1 C.2.1 dX0_raceOf_19 rfl (lv_at hl 3 rfl) ?_
    refine lv_iload_n C.1 C.2.1 dX0_raceOf_20 rfl (lv_at hl 2 rfl) ?_
    refine c_Vi C hw (ctX0_wouldStay l D h cI cL cF cM a0 a1 ha0 ha1 u4.1 u4.2.1 u4.2.2 x3 x2 hh) (cwV 3 C.2.2.2.2 (gd_V w_1210 w_1212 w_46 w_122 w_1213) rfl rfl rfl cdX0_wouldStay ⟨Nat.le_of_ble_eq_true rfl, Nat.le_of_ble_eq_true rfl⟩) rfl (kd_lt ha0 (by decide)) (ce0 ha0) rfl hl.1 (Nat.le_of_ble_eq_true rfl) dX0_raceOf_21 ⟨Nat.zero_le _, Nat.zero_le _⟩ (fun r21 u21 H locs hh hw => ?_) rfl
    refine lv_if_eq (tgt := 36) C.1 C.2.1 dX0_raceOf_24 (by decide) (fun c24 => ?_) (fun c24 => ?_)
    · replace hh := hh.1 c24
      refine lv_iconst (v := (-1 : Int32)) C.1 C.2.1 dX0_raceOf_36 (by decide) ?_
      exact tX0_raceOf_b37 C hR ha0 ha1 hh hw (lv_sub hl [0] rfl)
    · replace hh := hh.2 c24
      refine lv_bipush (v := (32 : Int32)) C.1 C.2.1 dX0_raceOf_27 (by decide) ?_
      refine lv_iload_n C.1 C.2.1 dX0_raceOf_29 rfl (lv_at hl 3 rfl) ?_
      refine lv_imul C.1 C.2.1 dX0_raceOf_30 ?_
      refine lv_iload_n C.1 C.2.1 dX0_raceOf_31 rfl (lv_at hl 2 rfl) ?_
      refine lv_iadd C.1 C.2.1 dX0_raceOf_32 ?_
      refine lv_goto (tgt := 37) C.1 C.2.1 dX0_raceOf_33 (by decide) ?_
      exact tX0_raceOf_b37 C hR ha0 ha1 hh hw (lv_sub hl [0] rfl)
  · replace hh := hh.2 c7
    refine lv_bipush (v := (32 : Int32)) C.1 C.2.1 dX0_raceOf_10 (by decide) ?_
    refine lv_iload_n C.1 C.2.1 dX0_raceOf_12 rfl (lv_at hl 2 rfl) ?_
    refine lv_imul C.1 C.2.1 dX0_raceOf_13 ?_
    refine lv_iload_n C.1 C.2.1 dX0_raceOf_14 rfl (lv_at hl 3 rfl) ?_
    refine lv_iadd C.1 C.2.1 dX0_raceOf_15 ?_
    exact hR _ _ _ (u4.1, u4.2.1, u4.2.2) _ _ dX0_raceOf_16 rfl hh hw
theorem ctX0_raceOf (l : Launch) (D : va_G) (h : Nat → Nat) (cI cL cF cM : ClassId) (a0 : Nat) (a1 : Nat) (ha0 : kd a0 = 0) (ha1 : kd a1 = 4) (F : Nat → Nat → Int32) (L : Nat → Nat → Int64) (r : Nat → Nat → Nat) (x2 : Int32) (x3 : Int32) {K : Int32 → cS → Prop} (hh : wpX0_raceOf a0 a1 F L r x2 x3 K) : Ci l yX0_raceOf wsX0_raceOf rmX0_raceOf [.ref (h a0), .ref (h a1), .int x2, .int x3] D (cT cI cL cF cM) (cWu h cI cL cF cM) (F, L, r) K := by
  refine Ci_of (cc := cX0_raceOf) (maxL := 4) (by decide) rfl (Nat.le_of_ble_eq_true rfl) ?_
  intro p e s m below meth c A Q C hw hR ls hl
  exact tX0_raceOf_b0 C hR ha0 ha1 hh hw hl
theorem cdX0_raceOf : yX0_raceOf.cls = RX0 ∧ yX0_raceOf.cls ≠ "java/lang/invoke/MethodHandle" ∧ yX0_raceOf.cls ≠ "java/lang/invoke/VarHandle" ∧ (parseMethodDescriptor yX0_raceOf.desc).map (fun d => d.parameters.length) = some 3 := by decide +kernel
abbrev rmX0_firstRace : Room := { frames := 3, cells := 0, slots := 0, locals := 73 }
set_option maxHeartbeats 4000000 in
set_option maxRecDepth 100000 in
theorem tX0_firstRace_b81 {a0 : Nat} {a1 : Nat} {B21 : (Nat → Nat → Int32) → (Nat → Nat → Int64) → (Nat → Nat → Nat) → Int32 → Int32 → Prop} {B34 : (Nat → Nat → Int32) → (Nat → Nat → Int64) → (Nat → Nat → Nat) → Int32 → Int32 → Int32 → Prop} {K : Int32 → cS → Prop} (C : CallFix p m c cX0_firstRace 7 s args wsX0_firstRace RX0) (hR : Rti .int p l e rmX0_firstRace s m args below meth c cX0_firstRace D A (cT cI cL cF cM) (cWu h cI cL cF cM) K Q) (ha0 : kd a0 = 0) (ha1 : kd a1 = 4) (hB21 : ∀ (F : Nat → Nat → Int32) (L : Nat → Nat → Int64) (r : Nat → Nat → Nat) (x2 : Int32) (x3 : Int32) (H : Heap) (locs : List Loc) (ls : Array Slot), B21 F L r x2 x3 → Wd D A s (cT cI cL cF cM) (cW h cI cL cF cM F L r) H locs → lv_has ls 7 [(0, .ref (h a0)), (1, .ref (h a1)), (2, .int x2), (3, .int x3)] → W p l e rmX0_firstRace s m args below meth c H locs 0 0 Q (F0 m 21 ls [])) (hB34 : ∀ (F : Nat → Nat → Int32) (L : Nat → Nat → Int64) (r : Nat → Nat → Nat) (x2 : Int32) (x3 : Int32) (x4 : Int32) (H : Heap) (locs : List Loc) (ls : Array Slot), B34 F L r x2 x3 x4 → Wd D A s (cT cI cL cF cM) (cW h cI cL cF cM F L r) H locs → lv_has ls 7 [(0, .ref (h a0)), (1, .ref (h a1)), (2, .int x2), (3, .int x3), (4, .int x4)] → W p l e rmX0_firstRace s m args below meth c H locs 0 0 Q (F0 m 34 ls [])) {F : Nat → Nat → Int32} {L : Nat → Nat → Int64} {r : Nat → Nat → Nat} {x2 : Int32} {x3 : Int32} {x4 : Int32} (hh : wpX0_firstRace_b81 B21 B34 a0 a1 F L r x2 x3 x4 K) {H : Heap} {locs : List Loc} {ls : Array Slot} (hw : Wd D A s (cT cI cL cF cM) (cW h cI cL cF cM F L r) H locs) (hl : lv_has ls 7 [(0, .ref (h a0)), (1, .ref (h a1)), (2, .int x2), (3, .int x3), (4, .int x4)]) : W p l e rmX0_firstRace s m args below meth c H locs 0 0 Q (F0 m 81 ls []) := by
  unfold wpX0_firstRace_b81 at hh
  refine lv_iinc (v := x4 + (1 : Int32)) (lv' := [(4, .int (x4 + (1 : Int32))), (0, .ref (h a0)), (1, .ref (h a1)), (2, .int x2), (3, .int x3)]) C.1 C.2.1 dX0_firstRace_81 hl (k := 4) rfl rfl (by decide) rfl (fun ls hl => ?_)
  refine lv_goto (tgt := 34) C.1 C.2.1 dX0_firstRace_84 (by decide) ?_
  exact hB34 _ _ _ _ _ _ _ _ _ hh hw (lv_sub hl [1, 2, 3, 4, 0] rfl)
set_option maxHeartbeats 4000000 in
set_option maxRecDepth 100000 in
theorem tX0_firstRace_b34_body {a0 : Nat} {a1 : Nat} {B21 : (Nat → Nat → Int32) → (Nat → Nat → Int64) → (Nat → Nat → Nat) → Int32 → Int32 → Prop} {B34 : (Nat → Nat → Int32) → (Nat → Nat → Int64) → (Nat → Nat → Nat) → Int32 → Int32 → Int32 → Prop} {K : Int32 → cS → Prop} (C : CallFix p m c cX0_firstRace 7 s args wsX0_firstRace RX0) (hR : Rti .int p l e rmX0_firstRace s m args below meth c cX0_firstRace D A (cT cI cL cF cM) (cWu h cI cL cF cM) K Q) (ha0 : kd a0 = 0) (ha1 : kd a1 = 4) (hB21 : ∀ (F : Nat → Nat → Int32) (L : Nat → Nat → Int64) (r : Nat → Nat → Nat) (x2 : Int32) (x3 : Int32) (H : Heap) (locs : List Loc) (ls : Array Slot), B21 F L r x2 x3 → Wd D A s (cT cI cL cF cM) (cW h cI cL cF cM F L r) H locs → lv_has ls 7 [(0, .ref (h a0)), (1, .ref (h a1)), (2, .int x2), (3, .int x3)] → W p l e rmX0_firstRace s m args below meth c H locs 0 0 Q (F0 m 21 ls [])) (hB34 : ∀ (F : Nat → Nat → Int32) (L : Nat → Nat → Int64) (r : Nat → Nat → Nat) (x2 : Int32) (x3 : Int32) (x4 : Int32) (H : Heap) (locs : List Loc) (ls : Array Slot), B34 F L r x2 x3 x4 → Wd D A s (cT cI cL cF cM) (cW h cI cL cF cM F L r) H locs → lv_has ls 7 [(0, .ref (h a0)), (1, .ref (h a1)), (2, .int x2), (3, .int x3), (4, .int x4)] → W p l e rmX0_firstRace s m args below meth c H locs 0 0 Q (F0 m 34 ls [])) {F : Nat → Nat → Int32} {L : Nat → Nat → Int64} {r : Nat → Nat → Nat} {x2 : Int32} {x3 : Int32} {x4 : Int32} (hh : wpX0_firstRace_b34_body B21 B34 a0 a1 F L r x2 x3 x4 K) {H : Heap} {locs : List Loc} {ls : Array Slot} (hw : Wd D A s (cT cI cL cF cM) (cW h cI cL cF cM F L r) H locs) (hl : lv_has ls 7 [(0, .ref (h a0)), (1, .ref (h a1)), (2, .int x2), (3, .int x3), (4, .int x4)]) : W p l e rmX0_firstRace s m args below meth c H locs 0 0 Q (F0 m 34 ls []) := by
  unfold wpX0_firstRace_b34_body at hh
  refine lv_iload C.1 C.2.1 dX0_firstRace_34 (lv_at hl 4 rfl) ?_
  refine lv_aload_n C.1 C.2.1 dX0_firstRace_36 rfl (lv_at hl 1 rfl) ?_
  refine c_get C hw (inC inW4) (kd_lt ha1 (by decide)) (ce4 ha1) rfl 0 (by decide) (wc w_282) (v := .int (F a1 0)) rfl dX0_firstRace_37 ?_
  refine lv_icmp_ge (tgt := 87) C.1 C.2.1 dX0_firstRace_40 (by decide) (fun c40 => ?_) (fun c40 => ?_)
  · replace hh := hh.1 c40
    refine lv_iinc (v := x3 + (1 : Int32)) (lv' := [(3, .int (x3 + (1 : Int32))), (0, .ref (h a0)), (1, .ref (h a1)), (2, .int x2), (4, .int x4)]) C.1 C.2.1 dX0_firstRace_87 hl (k := 3) rfl rfl (by decide) rfl (fun ls hl => ?_)
    refine lv_goto (tgt := 21) C.1 C.2.1 dX0_firstRace_90 (by decide) ?_
    exact hB21 _ _ _ _ _ _ _ _ hh hw (lv_sub hl [1, 2, 3, 0] rfl)
  · replace hh := hh.2 c40
    refine lv_iconst (v := (1 : Int32)) C.1 C.2.1 dX0_firstRace_43 (by decide) ?_
    refine lv_iload_n C.1 C.2.1 dX0_firstRace_44 rfl (lv_at hl 3 rfl) ?_
    refine g_ishl C dX0_firstRace_45 ?_
    refine lv_iconst (v := (1 : Int32)) C.1 C.2.1 dX0_firstRace_46 (by decide) ?_
    refine lv_iload C.1 C.2.1 dX0_firstRace_47 (lv_at hl 4 rfl) ?_
    refine g_ishl C dX0_firstRace_49 ?_
    refine lv_ior C.1 C.2.1 dX0_firstRace_50 ?_
    refine lv_istore (lv' := [(5, .int ((jshl (1 : Int32) x3) ||| (jshl (1 : Int32) x4))), (0, .ref (h a0)), (1, .ref (h a1)), (2, .int x2), (3, .int x3), (4, .int x4)]) C.1 C.2.1 dX0_firstRace_51 hl (by decide) rfl (fun ls hl => ?_)
    refine lv_iload_n C.1 C.2.1 dX0_firstRace_53 rfl (lv_at hl 3 rfl) ?_
    refine lv_iload C.1 C.2.1 dX0_firstRace_54 (lv_at hl 0 rfl) ?_
    refine lv_iand C.1 C.2.1 dX0_firstRace_56 ?_
    refine lv_iload C.1 C.2.1 dX0_firstRace_57 (lv_at hl 0 rfl) ?_
    refine lv_icmp_ne (tgt := 81) C.1 C.2.1 dX0_firstRace_59 (by decide) (fun c59 => ?_) (fun c59 => ?_)
    · replace hh := hh.1 c59
      exact tX0_firstRace_b81 C hR ha0 ha1 hB21 hB34 hh hw (lv_sub hl [1, 2, 3, 4, 5] rfl)
    · replace hh := hh.2 c59
      refine lv_aload_n C.1 C.2.1 dX0_firstRace_62 rfl (lv_at hl 1 rfl) ?_
      refine lv_aload_n C.1 C.2.1 dX0_firstRace_63 rfl (lv_at hl 2 rfl) ?_
      refine lv_iload_n C.1 C.2.1 dX0_firstRace_64 rfl (lv_at hl 4 rfl) ?_
      refine lv_iload C.1 C.2.1 dX0_firstRace_65 (lv_at hl 5 rfl) ?_
      refine c_Vi C hw (ctX0_raceOf l D h cI cL cF cM a0 a1 ha0 ha1 F L r x3 x4 hh) (cwV 3 C.2.2.2.2 (gd_V w_1206 w_1208 w_45 w_122 w_1209) rfl rfl rfl cdX0_raceOf ⟨Nat.le_of_ble_eq_true rfl, Nat.le_of_ble_eq_true rfl⟩) rfl (kd_lt ha0 (by decide)) (ce0 ha0) rfl hl.1 (Nat.le_of_ble_eq_true rfl) dX0_firstRace_67 ⟨Nat.zero_le _, Nat.zero_le _⟩ (fun r67 u67 H locs hh hw => ?_) rfl
      refine lv_istore (lv' := [(6, .int r67), (5, .int ((jshl (1 : Int32) x3) ||| (jshl (1 : Int32) x4))), (0, .ref (h a0)), (1, .ref (h a1)), (2, .int x2), (3, .int x3), (4, .int x4)]) C.1 C.2.1 dX0_firstRace_70 hl (by decide) rfl (fun ls hl => ?_)
      refine lv_iload C.1 C.2.1 dX0_firstRace_72 (lv_at hl 0 rfl) ?_
      refine lv_iconst (v := (-1 : Int32)) C.1 C.2.1 dX0_firstRace_74 (by decide) ?_
      refine lv_icmp_eq (tgt := 81) C.1 C.2.1 dX0_firstRace_75 (by decide) (fun c75 => ?_) (fun c75 => ?_)
      · replace hh := hh.1 c75
        exact tX0_firstRace_b81 C hR ha0 ha1 hB21 hB34 hh hw (lv_sub hl [2, 3, 4, 5, 6] rfl)
      · replace hh := hh.2 c75
        refine lv_iload C.1 C.2.1 dX0_firstRace_78 (lv_at hl 0 rfl) ?_
        exact hR _ _ _ (u67.1, u67.2.1, u67.2.2) _ _ dX0_firstRace_80 rfl hh hw
theorem tX0_firstRace_b34 {a0 : Nat} {a1 : Nat} {B21 : (Nat → Nat → Int32) → (Nat → Nat → Int64) → (Nat → Nat → Nat) → Int32 → Int32 → Prop} {K : Int32 → cS → Prop} (C : CallFix p m c cX0_firstRace 7 s args wsX0_firstRace RX0) (hR : Rti .int p l e rmX0_firstRace s m args below meth c cX0_firstRace D A (cT cI cL cF cM) (cWu h cI cL cF cM) K Q) (ha0 : kd a0 = 0) (ha1 : kd a1 = 4) (hB21 : ∀ (F : Nat → Nat → Int32) (L : Nat → Nat → Int64) (r : Nat → Nat → Nat) (x2 : Int32) (x3 : Int32) (H : Heap) (locs : List Loc) (ls : Array Slot), B21 F L r x2 x3 → Wd D A s (cT cI cL cF cM) (cW h cI cL cF cM F L r) H locs → lv_has ls 7 [(0, .ref (h a0)), (1, .ref (h a1)), (2, .int x2), (3, .int x3)] → W p l e rmX0_firstRace s m args below meth c H locs 0 0 Q (F0 m 21 ls [])) (n : Nat) : ∀ (F : Nat → Nat → Int32) (L : Nat → Nat → Int64) (r : Nat → Nat → Nat) (x2 : Int32) (x3 : Int32) (x4 : Int32) (H : Heap) (locs : List Loc) (ls : Array Slot), wpX0_firstRace_b34 B21 a0 a1 n F L r x2 x3 x4 K → Wd D A s (cT cI cL cF cM) (cW h cI cL cF cM F L r) H locs → lv_has ls 7 [(0, .ref (h a0)), (1, .ref (h a1)), (2, .int x2), (3, .int x3), (4, .int x4)] → W p l e rmX0_firstRace s m args below meth c H locs 0 0 Q (F0 m 34 ls []) := by
  induction n with
  | zero => intro F L r x2 x3 x4 H locs ls hh; exact hh.elim
  | succ n ih => intro F L r x2 x3 x4 H locs ls hh hw hl; exact tX0_firstRace_b34_body C hR ha0 ha1 hB21 ih hh hw hl
set_option maxHeartbeats 4000000 in
set_option maxRecDepth 100000 in
theorem tX0_firstRace_b21_body {a0 : Nat} {a1 : Nat} {B21 : (Nat → Nat → Int32) → (Nat → Nat → Int64) → (Nat → Nat → Nat) → Int32 → Int32 → Prop} {K : Int32 → cS → Prop} (C : CallFix p m c cX0_firstRace 7 s args wsX0_firstRace RX0) (hR : Rti .int p l e rmX0_firstRace s m args below meth c cX0_firstRace D A (cT cI cL cF cM) (cWu h cI cL cF cM) K Q) (ha0 : kd a0 = 0) (ha1 : kd a1 = 4) (hB21 : ∀ (F : Nat → Nat → Int32) (L : Nat → Nat → Int64) (r : Nat → Nat → Nat) (x2 : Int32) (x3 : Int32) (H : Heap) (locs : List Loc) (ls : Array Slot), B21 F L r x2 x3 → Wd D A s (cT cI cL cF cM) (cW h cI cL cF cM F L r) H locs → lv_has ls 7 [(0, .ref (h a0)), (1, .ref (h a1)), (2, .int x2), (3, .int x3)] → W p l e rmX0_firstRace s m args below meth c H locs 0 0 Q (F0 m 21 ls [])) {F : Nat → Nat → Int32} {L : Nat → Nat → Int64} {r : Nat → Nat → Nat} {x2 : Int32} {x3 : Int32} (hh : wpX0_firstRace_b21_body B21 a0 a1 F L r x2 x3 K) {H : Heap} {locs : List Loc} {ls : Array Slot} (hw : Wd D A s (cT cI cL cF cM) (cW h cI cL cF cM F L r) H locs) (hl : lv_has ls 7 [(0, .ref (h a0)), (1, .ref (h a1)), (2, .int x2), (3, .int x3)]) : W p l e rmX0_firstRace s m args below meth c H locs 0 0 Q (F0 m 21 ls []) := by
  unfold wpX0_firstRace_b21_body at hh
  refine lv_iload_n C.1 C.2.1 dX0_firstRace_21 rfl (lv_at hl 3 rfl) ?_
  refine lv_aload_n C.1 C.2.1 dX0_firstRace_22 rfl (lv_at hl 1 rfl) ?_
  refine c_get C hw (inC inW4) (kd_lt ha1 (by decide)) (ce4 ha1) rfl 0 (by decide) (wc w_282) (v := .int (F a1 0)) rfl dX0_firstRace_23 ?_
  refine lv_icmp_ge (tgt := 93) C.1 C.2.1 dX0_firstRace_26 (by decide) (fun c26 => ?_) (fun c26 => ?_)
  · replace hh := hh.1 c26
    refine lv_iconst (v := (-1 : Int32)) C.1 C.2.1 dX0_firstRace_93 (by decide) ?_
    exact hR _ _ _ (F, L, r) _ _ dX0_firstRace_94 rfl hh hw
  · replace hh := hh.2 c26
    refine lv_iload_n C.1 C.2.1 dX0_firstRace_29 rfl (lv_at hl 3 rfl) ?_
    refine lv_iconst (v := (1 : Int32)) C.1 C.2.1 dX0_firstRace_30 (by decide) ?_
    refine lv_iadd C.1 C.2.1 dX0_firstRace_31 ?_
    refine lv_istore (lv' := [(4, .int (x3 + (1 : Int32))), (0, .ref (h a0)), (1, .ref (h a1)), (2, .int x2), (3, .int x3)]) C.1 C.2.1 dX0_firstRace_32 hl (by decide) rfl (fun ls hl => ?_)
    obtain ⟨n, hh⟩ := hh
    exact tX0_firstRace_b34 C hR ha0 ha1 hB21 n _ _ _ _ _ _ _ _ _ hh hw (lv_sub hl [1, 2, 3, 4, 0] rfl)
theorem tX0_firstRace_b21 {a0 : Nat} {a1 : Nat} {K : Int32 → cS → Prop} (C : CallFix p m c cX0_firstRace 7 s args wsX0_firstRace RX0) (hR : Rti .int p l e rmX0_firstRace s m args below meth c cX0_firstRace D A (cT cI cL cF cM) (cWu h cI cL cF cM) K Q) (ha0 : kd a0 = 0) (ha1 : kd a1 = 4) (n : Nat) : ∀ (F : Nat → Nat → Int32) (L : Nat → Nat → Int64) (r : Nat → Nat → Nat) (x2 : Int32) (x3 : Int32) (H : Heap) (locs : List Loc) (ls : Array Slot), wpX0_firstRace_b21 a0 a1 n F L r x2 x3 K → Wd D A s (cT cI cL cF cM) (cW h cI cL cF cM F L r) H locs → lv_has ls 7 [(0, .ref (h a0)), (1, .ref (h a1)), (2, .int x2), (3, .int x3)] → W p l e rmX0_firstRace s m args below meth c H locs 0 0 Q (F0 m 21 ls []) := by
  induction n with
  | zero => intro F L r x2 x3 H locs ls hh; exact hh.elim
  | succ n ih => intro F L r x2 x3 H locs ls hh hw hl; exact tX0_firstRace_b21_body C hR ha0 ha1 ih hh hw hl
set_option maxHeartbeats 4000000 in
set_option maxRecDepth 100000 in
theorem tX0_firstRace_b0 {a0 : Nat} {a1 : Nat} {K : Int32 → cS → Prop} (C : CallFix p m c cX0_firstRace 7 s args wsX0_firstRace RX0) (hR : Rti .int p l e rmX0_firstRace s m args below meth c cX0_firstRace D A (cT cI cL cF cM) (cWu h cI cL cF cM) K Q) (ha0 : kd a0 = 0) (ha1 : kd a1 = 4) {F : Nat → Nat → Int32} {L : Nat → Nat → Int64} {r : Nat → Nat → Nat} (hh : wpX0_firstRace_b0 a0 a1 F L r K) {H : Heap} {locs : List Loc} {ls : Array Slot} (hw : Wd D A s (cT cI cL cF cM) (cW h cI cL cF cM F L r) H locs) (hl : lv_has ls 7 [(0, .ref (h a0)), (1, .ref (h a1))]) : W p l e rmX0_firstRace s m args below meth c H locs 0 0 Q (F0 m 0 ls []) := by
  unfold wpX0_firstRace_b0 at hh
  refine lv_aload_n C.1 C.2.1 dX0_firstRace_0 rfl (lv_at hl 0 rfl) ?_
  refine c_get C hw (inC inW0) (kd_lt ha0 (by decide)) (ce0 ha0) rfl 3 (by decide) (wc w_444) (v := .int (F a0 3)) rfl dX0_firstRace_1 ?_
  refine lv_if_ne (tgt := 9) C.1 C.2.1 dX0_firstRace_4 (by decide) (fun c4 => ?_) (fun c4 => ?_)
  · replace hh := hh.1 c4
    refine lv_aload_n C.1 C.2.1 dX0_firstRace_9 rfl (lv_at hl 0 rfl) ?_
    refine c_get C hw (inC inW0) (kd_lt ha0 (by decide)) (ce0 ha0) rfl 4 (by decide) (wc w_445) (v := .int (F a0 4)) rfl dX0_firstRace_10 ?_
    refine lv_aload_n C.1 C.2.1 dX0_firstRace_13 rfl (lv_at hl 0 rfl) ?_
    refine c_get C hw (inC inW0) (kd_lt ha0 (by decide)) (ce0 ha0) rfl 5 (by decide) (wc w_446) (v := .int (F a0 5)) rfl dX0_firstRace_14 ?_
    refine lv_ixor C.1 C.2.1 dX0_firstRace_17 ?_
    refine lv_istore_n (lv' := [(2, .int ((F a0 4) ^^^ (F a0 5))), (0, .ref (h a0)), (1, .ref (h a1))]) C.1 C.2.1 dX0_firstRace_18 rfl hl (by decide) rfl (fun ls hl => ?_)
    refine lv_iconst (v := (0 : Int32)) C.1 C.2.1 dX0_firstRace_19 (by decide) ?_
    refine lv_istore_n (lv' := [(3, .int (0 : Int32)), (2, .int ((F a0 4) ^^^ (F a0 5))), (0, .ref (h a0)), (1, .ref (h a1))]) C.1 C.2.1 dX0_firstRace_20 rfl hl (by decide) rfl (fun ls hl => ?_)
    obtain ⟨n, hh⟩ := hh
    exact tX0_firstRace_b21 C hR ha0 ha1 n _ _ _ _ _ _ _ _ hh hw (lv_sub hl [2, 3, 1, 0] rfl)
  · replace hh := hh.2 c4
    refine lv_iconst (v := (-1 : Int32)) C.1 C.2.1 dX0_firstRace_7 (by decide) ?_
    exact hR _ _ _ (F, L, r) _ _ dX0_firstRace_8 rfl hh hw
theorem ctX0_firstRace (l : Launch) (D : va_G) (h : Nat → Nat) (cI cL cF cM : ClassId) (a0 : Nat) (a1 : Nat) (ha0 : kd a0 = 0) (ha1 : kd a1 = 4) (F : Nat → Nat → Int32) (L : Nat → Nat → Int64) (r : Nat → Nat → Nat) {K : Int32 → cS → Prop} (hh : wpX0_firstRace a0 a1 F L r K) : Ci l yX0_firstRace wsX0_firstRace rmX0_firstRace [.ref (h a0), .ref (h a1)] D (cT cI cL cF cM) (cWu h cI cL cF cM) (F, L, r) K := by
  refine Ci_of (cc := cX0_firstRace) (maxL := 7) (by decide) rfl (Nat.le_of_ble_eq_true rfl) ?_
  intro p e s m below meth c A Q C hw hR ls hl
  exact tX0_firstRace_b0 C hR ha0 ha1 hh hw hl
theorem cdX0_firstRace : yX0_firstRace.cls = RX0 ∧ yX0_firstRace.cls ≠ "java/lang/invoke/MethodHandle" ∧ yX0_firstRace.cls ≠ "java/lang/invoke/VarHandle" ∧ (parseMethodDescriptor yX0_firstRace.desc).map (fun d => d.parameters.length) = some 1 := by decide +kernel
abbrev rmX10_race : Room := { frames := 4, cells := 0, slots := 0, locals := 99 }
set_option maxHeartbeats 4000000 in
set_option maxRecDepth 100000 in
theorem tX10_race_b0 {K : Int32 → cS → Prop} (C : CallFix p m c cX10_race 1 s args wsX10_race RX10) (hR : Rti .int p l e rmX10_race s m args below meth c cX10_race D A (cT cI cL cF cM) (cWu h cI cL cF cM) K Q) {F : Nat → Nat → Int32} {L : Nat → Nat → Int64} {r : Nat → Nat → Nat} (hh : wpX10_race_b0 F L r K) {H : Heap} {locs : List Loc} {ls : Array Slot} (hw : Wd D A s (cT cI cL cF cM) (cW h cI cL cF cM F L r) H locs) (hl : lv_has ls 1 [(0, .ref (h 0))]) : W p l e rmX10_race s m args below meth c H locs 0 0 Q (F0 m 0 ls []) := by
  unfold wpX10_race_b0 at hh
  refine lv_aload_n C.1 C.2.1 dX10_race_0 rfl (lv_at hl 0 rfl) ?_
  refine c_get C hw (inC inW10) (kd_lt kp0 (by decide)) (ce10 kp0) rfl 7 (by decide) (wc w_577) (v := .ref (h 43)) rfl dX10_race_1 ?_
  refine lv_aload_n C.1 C.2.1 dX10_race_4 rfl (lv_at hl 0 rfl) ?_
  refine c_get C hw (inC inW10) (kd_lt kp0 (by decide)) (ce10 kp0) rfl 4 (by decide) (wc w_574) (v := .ref (h (r 0 4))) rfl dX10_race_5 ?_
  obtain ⟨hk0, hh⟩ := hh
  refine c_Vi C hw (ctX0_firstRace l D h cI cL cF cM 43 (r 0 4) kp43 hk0 F L r hh) (cwV 1 C.2.2.2.2 (gd_V w_1202 w_1203 w_1204 w_122 w_1205) rfl rfl rfl cdX0_firstRace ⟨Nat.le_of_ble_eq_true rfl, Nat.le_of_ble_eq_true rfl⟩) rfl (kd_lt kp43 (by decide)) (ce0 kp43) rfl hl.1 (Nat.le_of_ble_eq_true rfl) dX10_race_8 ⟨Nat.zero_le _, Nat.zero_le _⟩ (fun r8 u8 H locs hh hw => ?_) rfl
  exact hR _ _ _ (u8.1, u8.2.1, u8.2.2) _ _ dX10_race_11 rfl hh hw
theorem ctX10_race (l : Launch) (D : va_G) (h : Nat → Nat) (cI cL cF cM : ClassId) (F : Nat → Nat → Int32) (L : Nat → Nat → Int64) (r : Nat → Nat → Nat) {K : Int32 → cS → Prop} (hh : wpX10_race F L r K) : Ci l yX10_race wsX10_race rmX10_race [.ref (h 0)] D (cT cI cL cF cM) (cWu h cI cL cF cM) (F, L, r) K := by
  refine Ci_of (cc := cX10_race) (maxL := 1) (by decide) rfl (Nat.le_of_ble_eq_true rfl) ?_
  intro p e s m below meth c A Q C hw hR ls hl
  exact tX10_race_b0 C hR hh hw hl
theorem cdX10_race : yX10_race.cls = RX10 ∧ yX10_race.cls ≠ "java/lang/invoke/MethodHandle" ∧ yX10_race.cls ≠ "java/lang/invoke/VarHandle" ∧ (parseMethodDescriptor yX10_race.desc).map (fun d => d.parameters.length) = some 0 := by decide +kernel
abbrev rmX0_free : Room := { frames := 0, cells := 0, slots := 0, locals := 0 }
set_option maxHeartbeats 4000000 in
set_option maxRecDepth 100000 in
theorem tX0_free_b0 {a0 : Nat} {K : cS → Prop} (C : CallFix p m c cX0_free 3 s args wsX0_free RX0) (hR : Rtv p l e rmX0_free s m args below meth c cX0_free D A (cT cI cL cF cM) (cWu h cI cL cF cM) K Q) (ha0 : kd a0 = 0) {F : Nat → Nat → Int32} {L : Nat → Nat → Int64} {r : Nat → Nat → Nat} {x1 : Int32} (hh : wpX0_free_b0 a0 F L r x1 K) {H : Heap} {locs : List Loc} {ls : Array Slot} (hw : Wd D A s (cT cI cL cF cM) (cW h cI cL cF cM F L r) H locs) (hl : lv_has ls 3 [(0, .ref (h a0)), (1, .int x1)]) : W p l e rmX0_free s m args below meth c H locs 0 0 Q (F0 m 0 ls []) := by
  unfold wpX0_free_b0 at hh
  refine lv_iconst (v := (1 : Int32)) C.1 C.2.1 dX0_free_0 (by decide) ?_
  refine lv_iload_n C.1 C.2.1 dX0_free_1 rfl (lv_at hl 1 rfl) ?_
  refine g_ishl C dX0_free_2 ?_
  refine lv_iconst (v := (-1 : Int32)) C.1 C.2.1 dX0_free_3 (by decide) ?_
  refine lv_ixor C.1 C.2.1 dX0_free_4 ?_
  refine lv_istore_n (lv' := [(2, .int ((jshl (1 : Int32) x1) ^^^ (-1 : Int32))), (0, .ref (h a0)), (1, .int x1)]) C.1 C.2.1 dX0_free_5 rfl hl (by decide) rfl (fun ls hl => ?_)
  refine lv_aload_n C.1 C.2.1 dX0_free_6 rfl (lv_at hl 1 rfl) ?_
  refine lv_dup C.1 C.2.1 dX0_free_7 rfl ?_
  refine c_get C hw (inC inW0) (kd_lt ha0 (by decide)) (ce0 ha0) rfl 1 (by decide) (wc w_441) (v := .int (F a0 1)) rfl dX0_free_8 ?_
  refine lv_iload_n C.1 C.2.1 dX0_free_11 rfl (lv_at hl 0 rfl) ?_
  refine lv_iand C.1 C.2.1 dX0_free_12 ?_
  refine c_puti C hw (inC inW0) tyX0 tyX0_ok nmX0 (kd_lt ha0 (by decide)) (ce0 ha0) rfl 1 (by decide) (wc w_441) rfl (ty := .int) (by decide +kernel) rfl rfl (Nat.le_of_ble_eq_true rfl) rfl dX0_free_13 (fun H locs hw => ?_)
  refine lv_aload_n C.1 C.2.1 dX0_free_16 rfl (lv_at hl 1 rfl) ?_
  refine lv_dup C.1 C.2.1 dX0_free_17 rfl ?_
  refine c_get C hw (inC inW0) (kd_lt ha0 (by decide)) (ce0 ha0) rfl 2 (by decide) (wc w_443) (v := .int ((pt F a0 1 ((F a0 1) &&& ((jshl (1 : Int32) x1) ^^^ (-1 : Int32)))) a0 2)) rfl dX0_free_18 ?_
  refine lv_iload_n C.1 C.2.1 dX0_free_21 rfl (lv_at hl 0 rfl) ?_
  refine lv_iand C.1 C.2.1 dX0_free_22 ?_
  refine c_puti C hw (inC inW0) tyX0 tyX0_ok nmX0 (kd_lt ha0 (by decide)) (ce0 ha0) rfl 2 (by decide) (wc w_443) rfl (ty := .int) (by decide +kernel) rfl rfl (Nat.le_of_ble_eq_true rfl) rfl dX0_free_23 (fun H locs hw => ?_)
  exact hR _ _ (pt (pt F a0 1 ((F a0 1) &&& ((jshl (1 : Int32) x1) ^^^ (-1 : Int32)))) a0 2 (((pt F a0 1 ((F a0 1) &&& ((jshl (1 : Int32) x1) ^^^ (-1 : Int32)))) a0 2) &&& ((jshl (1 : Int32) x1) ^^^ (-1 : Int32))), L, r) _ _ dX0_free_26 hh hw
theorem ctX0_free (l : Launch) (D : va_G) (h : Nat → Nat) (cI cL cF cM : ClassId) (a0 : Nat) (ha0 : kd a0 = 0) (F : Nat → Nat → Int32) (L : Nat → Nat → Int64) (r : Nat → Nat → Nat) (x1 : Int32) {K : cS → Prop} (hh : wpX0_free a0 F L r x1 K) : Cv l yX0_free wsX0_free rmX0_free [.ref (h a0), .int x1] D (cT cI cL cF cM) (cWu h cI cL cF cM) (F, L, r) K := by
  refine Cv_of (cc := cX0_free) (maxL := 3) (by decide) rfl (Nat.le_of_ble_eq_true rfl) ?_
  intro p e s m below meth c A Q C hw hR ls hl
  exact tX0_free_b0 C hR ha0 hh hw hl
theorem cdX0_free : yX0_free.cls = RX0 ∧ yX0_free.cls ≠ "java/lang/invoke/MethodHandle" ∧ yX0_free.cls ≠ "java/lang/invoke/VarHandle" ∧ (parseMethodDescriptor yX0_free.desc).map (fun d => d.parameters.length) = some 1 := by decide +kernel
abbrev rmX0_jam : Room := { frames := 1, cells := 0, slots := 0, locals := 21 }
set_option maxHeartbeats 4000000 in
set_option maxRecDepth 100000 in
theorem tX0_jam_b36 {a0 : Nat} {K : cS → Prop} (C : CallFix p m c cX0_jam 4 s args wsX0_jam RX0) (hR : Rtv p l e rmX0_jam s m args below meth c cX0_jam D A (cT cI cL cF cM) (cWu h cI cL cF cM) K Q) (ha0 : kd a0 = 0) {F : Nat → Nat → Int32} {L : Nat → Nat → Int64} {r : Nat → Nat → Nat} {k1 : Int32} (hh : wpX0_jam_b36 a0 F L r k1 K) {H : Heap} {locs : List Loc} {ls : Array Slot} (hw : Wd D A s (cT cI cL cF cM) (cW h cI cL cF cM F L r) H locs) (hl : lv_has ls 4 [(0, .ref (h a0))]) : W p l e rmX0_jam s m args below meth c H locs 0 0 Q (F0 m 36 ls [.int k1, .ref (h a0)]) := by
  unfold wpX0_jam_b36 at hh
  refine c_puti C hw (inC inW0) tyX0 tyX0_ok nmX0 (kd_lt ha0 (by decide)) (ce0 ha0) rfl 2 (by decide) (wc w_443) rfl (ty := .int) (by decide +kernel) rfl rfl (Nat.le_of_ble_eq_true rfl) rfl dX0_jam_36 (fun H locs hw => ?_)
  refine lv_aload_n C.1 C.2.1 dX0_jam_39 rfl (lv_at hl 0 rfl) ?_
  refine lv_aload_n C.1 C.2.1 dX0_jam_40 rfl (lv_at hl 0 rfl) ?_
  refine c_get C hw (inC inW0) (kd_lt ha0 (by decide)) (ce0 ha0) rfl 0 (by decide) (wc w_439) (v := .int ((pt F a0 2 k1) a0 0)) rfl dX0_jam_41 ?_
  refine c_Vv C hw (ctX0_settle l D h cI cL cF cM a0 ha0 (pt F a0 2 k1) L r ((pt F a0 2 k1) a0 0) hh) (cwV 1 C.2.2.2.2 (gd_V w_929 w_930 w_931 w_122 w_932) rfl rfl rfl cdX0_settle ⟨Nat.le_of_ble_eq_true rfl, Nat.le_of_ble_eq_true rfl⟩) rfl (kd_lt ha0 (by decide)) (ce0 ha0) rfl hl.1 (Nat.le_of_ble_eq_true rfl) dX0_jam_44 ⟨Nat.zero_le _, Nat.zero_le _⟩ (fun u44 H locs hh hw => ?_) rfl
  exact hR _ _ (u44.1, u44.2.1, u44.2.2) _ _ dX0_jam_47 hh hw
set_option maxHeartbeats 4000000 in
set_option maxRecDepth 100000 in
theorem tX0_jam_b0 {a0 : Nat} {K : cS → Prop} (C : CallFix p m c cX0_jam 4 s args wsX0_jam RX0) (hR : Rtv p l e rmX0_jam s m args below meth c cX0_jam D A (cT cI cL cF cM) (cWu h cI cL cF cM) K Q) (ha0 : kd a0 = 0) {F : Nat → Nat → Int32} {L : Nat → Nat → Int64} {r : Nat → Nat → Nat} {x1 : Int32} {x2 : Int32} (hh : wpX0_jam_b0 a0 F L r x1 x2 K) {H : Heap} {locs : List Loc} {ls : Array Slot} (hw : Wd D A s (cT cI cL cF cM) (cW h cI cL cF cM F L r) H locs) (hl : lv_has ls 4 [(0, .ref (h a0)), (1, .int x1), (2, .int x2)]) : W p l e rmX0_jam s m args below meth c H locs 0 0 Q (F0 m 0 ls []) := by
  unfold wpX0_jam_b0 at hh
  refine lv_iconst (v := (1 : Int32)) C.1 C.2.1 dX0_jam_0 (by decide) ?_
  refine lv_iload_n C.1 C.2.1 dX0_jam_1 rfl (lv_at hl 1 rfl) ?_
  refine g_ishl C dX0_jam_2 ?_
  refine lv_istore_n (lv' := [(3, .int (jshl (1 : Int32) x1)), (0, .ref (h a0)), (1, .int x1), (2, .int x2)]) C.1 C.2.1 dX0_jam_3 rfl hl (by decide) rfl (fun ls hl => ?_)
  refine lv_aload_n C.1 C.2.1 dX0_jam_4 rfl (lv_at hl 1 rfl) ?_
  refine lv_dup C.1 C.2.1 dX0_jam_5 rfl ?_
  refine c_get C hw (inC inW0) (kd_lt ha0 (by decide)) (ce0 ha0) rfl 1 (by decide) (wc w_441) (v := .int (F a0 1)) rfl dX0_jam_6 ?_
  refine lv_iload_n C.1 C.2.1 dX0_jam_9 rfl (lv_at hl 0 rfl) ?_
  refine lv_ior C.1 C.2.1 dX0_jam_10 ?_
  refine c_puti C hw (inC inW0) tyX0 tyX0_ok nmX0 (kd_lt ha0 (by decide)) (ce0 ha0) rfl 1 (by decide) (wc w_441) rfl (ty := .int) (by decide +kernel) rfl rfl (Nat.le_of_ble_eq_true rfl) rfl dX0_jam_11 (fun H locs hw => ?_)
  refine lv_aload_n C.1 C.2.1 dX0_jam_14 rfl (lv_at hl 1 rfl) ?_
  refine lv_iload_n C.1 C.2.1 dX0_jam_15 rfl (lv_at hl 3 rfl) ?_
  refine lv_if_eq (tgt := 28) C.1 C.2.1 dX0_jam_16 (by decide) (fun c16 => ?_) (fun c16 => ?_)
  · replace hh := hh.1 c16
    refine lv_aload_n C.1 C.2.1 dX0_jam_28 rfl (lv_at hl 1 rfl) ?_
    refine c_get C hw (inC inW0) (kd_lt ha0 (by decide)) (ce0 ha0) rfl 2 (by decide) (wc w_443) (v := .int ((pt F a0 1 ((F a0 1) ||| (jshl (1 : Int32) x1))) a0 2)) rfl dX0_jam_29 ?_
    refine lv_iload_n C.1 C.2.1 dX0_jam_32 rfl (lv_at hl 0 rfl) ?_
    refine lv_iconst (v := (-1 : Int32)) C.1 C.2.1 dX0_jam_33 (by decide) ?_
    refine lv_ixor C.1 C.2.1 dX0_jam_34 ?_
    refine lv_iand C.1 C.2.1 dX0_jam_35 ?_
    exact tX0_jam_b36 C hR ha0 hh hw (lv_sub hl [1] rfl)
  · replace hh := hh.2 c16
    refine lv_aload_n C.1 C.2.1 dX0_jam_19 rfl (lv_at hl 1 rfl) ?_
    refine c_get C hw (inC inW0) (kd_lt ha0 (by decide)) (ce0 ha0) rfl 2 (by decide) (wc w_443) (v := .int ((pt F a0 1 ((F a0 1) ||| (jshl (1 : Int32) x1))) a0 2)) rfl dX0_jam_20 ?_
    refine lv_iload_n C.1 C.2.1 dX0_jam_23 rfl (lv_at hl 0 rfl) ?_
    refine lv_ior C.1 C.2.1 dX0_jam_24 ?_
    refine lv_goto (tgt := 36) C.1 C.2.1 dX0_jam_25 (by decide) ?_
    exact tX0_jam_b36 C hR ha0 hh hw (lv_sub hl [1] rfl)
theorem ctX0_jam (l : Launch) (D : va_G) (h : Nat → Nat) (cI cL cF cM : ClassId) (a0 : Nat) (ha0 : kd a0 = 0) (F : Nat → Nat → Int32) (L : Nat → Nat → Int64) (r : Nat → Nat → Nat) (x1 : Int32) (x2 : Int32) {K : cS → Prop} (hh : wpX0_jam a0 F L r x1 x2 K) : Cv l yX0_jam wsX0_jam rmX0_jam [.ref (h a0), .int x1, .int x2] D (cT cI cL cF cM) (cWu h cI cL cF cM) (F, L, r) K := by
  refine Cv_of (cc := cX0_jam) (maxL := 4) (by decide) rfl (Nat.le_of_ble_eq_true rfl) ?_
  intro p e s m below meth c A Q C hw hR ls hl
  exact tX0_jam_b0 C hR ha0 hh hw hl
theorem cdX0_jam : yX0_jam.cls = RX0 ∧ yX0_jam.cls ≠ "java/lang/invoke/MethodHandle" ∧ yX0_jam.cls ≠ "java/lang/invoke/VarHandle" ∧ (parseMethodDescriptor yX0_jam.desc).map (fun d => d.parameters.length) = some 2 := by decide +kernel
abbrev rmX10_stick : Room := { frames := 2, cells := 0, slots := 0, locals := 44 }
set_option maxHeartbeats 4000000 in
set_option maxRecDepth 100000 in
theorem tX10_stick_b24 {K : Int32 → cS → Prop} (C : CallFix p m c cX10_stick 3 s args wsX10_stick RX10) (hR : Rti .boolean p l e rmX10_stick s m args below meth c cX10_stick D A (cT cI cL cF cM) (cWu h cI cL cF cM) K Q) {F : Nat → Nat → Int32} {L : Nat → Nat → Int64} {r : Nat → Nat → Nat} (hh : wpX10_stick_b24 F L r K) {H : Heap} {locs : List Loc} {ls : Array Slot} (hw : Wd D A s (cT cI cL cF cM) (cW h cI cL cF cM F L r) H locs) (hl : lv_has ls 3 [(0, .ref (h 0))]) : W p l e rmX10_stick s m args below meth c H locs 0 0 Q (F0 m 24 ls []) := by
  unfold wpX10_stick_b24 at hh
  refine lv_iconst (v := (0 : Int32)) C.1 C.2.1 dX10_stick_24 (by decide) ?_
  exact hR _ _ _ (F, L, r) _ _ dX10_stick_25 rfl hh hw
set_option maxHeartbeats 4000000 in
set_option maxRecDepth 100000 in
theorem tX10_stick_b60 {K : Int32 → cS → Prop} (C : CallFix p m c cX10_stick 3 s args wsX10_stick RX10) (hR : Rti .boolean p l e rmX10_stick s m args below meth c cX10_stick D A (cT cI cL cF cM) (cWu h cI cL cF cM) K Q) {F : Nat → Nat → Int32} {L : Nat → Nat → Int64} {r : Nat → Nat → Nat} (hh : wpX10_stick_b60 F L r K) {H : Heap} {locs : List Loc} {ls : Array Slot} (hw : Wd D A s (cT cI cL cF cM) (cW h cI cL cF cM F L r) H locs) (hl : lv_has ls 3 [(0, .ref (h 0))]) : W p l e rmX10_stick s m args below meth c H locs 0 0 Q (F0 m 60 ls []) := by
  unfold wpX10_stick_b60 at hh
  refine lv_iconst (v := (1 : Int32)) C.1 C.2.1 dX10_stick_60 (by decide) ?_
  exact hR _ _ _ (F, L, r) _ _ dX10_stick_61 rfl hh hw
set_option maxHeartbeats 4000000 in
set_option maxRecDepth 100000 in
theorem tX10_stick_b57 {K : Int32 → cS → Prop} (C : CallFix p m c cX10_stick 3 s args wsX10_stick RX10) (hR : Rti .boolean p l e rmX10_stick s m args below meth c cX10_stick D A (cT cI cL cF cM) (cWu h cI cL cF cM) K Q) {F : Nat → Nat → Int32} {L : Nat → Nat → Int64} {r : Nat → Nat → Nat} {k1 : Int32} {k2 : Int32} (hh : wpX10_stick_b57 F L r k1 k2 K) {H : Heap} {locs : List Loc} {ls : Array Slot} (hw : Wd D A s (cT cI cL cF cM) (cW h cI cL cF cM F L r) H locs) (hl : lv_has ls 3 [(0, .ref (h 0))]) : W p l e rmX10_stick s m args below meth c H locs 0 0 Q (F0 m 57 ls [.int k2, .int k1, .ref (h 43)]) := by
  unfold wpX10_stick_b57 at hh
  refine c_Vv C hw (ctX0_jam l D h cI cL cF cM 43 kp43 F L r k1 k2 hh) (cwV 2 C.2.2.2.2 (gd_V w_1223 w_1224 w_1225 w_122 w_1226) rfl rfl rfl cdX0_jam ⟨Nat.le_of_ble_eq_true rfl, Nat.le_of_ble_eq_true rfl⟩) rfl (kd_lt kp43 (by decide)) (ce0 kp43) rfl hl.1 (Nat.le_of_ble_eq_true rfl) dX10_stick_57 ⟨Nat.zero_le _, Nat.zero_le _⟩ (fun u57 H locs hh hw => ?_) rfl
  exact tX10_stick_b60 C hR hh hw hl
set_option maxHeartbeats 4000000 in
set_option maxRecDepth 100000 in
theorem tX10_stick_b0 {K : Int32 → cS → Prop} (C : CallFix p m c cX10_stick 3 s args wsX10_stick RX10) (hR : Rti .boolean p l e rmX10_stick s m args below meth c cX10_stick D A (cT cI cL cF cM) (cWu h cI cL cF cM) K Q) {F : Nat → Nat → Int32} {L : Nat → Nat → Int64} {r : Nat → Nat → Nat} {x1 : Int32} {x2 : Int32} (hh : wpX10_stick_b0 F L r x1 x2 K) {H : Heap} {locs : List Loc} {ls : Array Slot} (hw : Wd D A s (cT cI cL cF cM) (cW h cI cL cF cM F L r) H locs) (hl : lv_has ls 3 [(0, .ref (h 0)), (1, .int x1), (2, .int x2)]) : W p l e rmX10_stick s m args below meth c H locs 0 0 Q (F0 m 0 ls []) := by
  unfold wpX10_stick_b0 at hh
  refine lv_iload_n C.1 C.2.1 dX10_stick_0 rfl (lv_at hl 1 rfl) ?_
  refine lv_if_lt (tgt := 24) C.1 C.2.1 dX10_stick_1 (by decide) (fun c1 => ?_) (fun c1 => ?_)
  · replace hh := hh.1 c1
    exact tX10_stick_b24 C hR hh hw (lv_sub hl [0] rfl)
  · replace hh := hh.2 c1
    refine lv_iload_n C.1 C.2.1 dX10_stick_4 rfl (lv_at hl 1 rfl) ?_
    refine lv_aload_n C.1 C.2.1 dX10_stick_5 rfl (lv_at hl 0 rfl) ?_
    refine c_get C hw (inC inW10) (kd_lt kp0 (by decide)) (ce10 kp0) rfl 4 (by decide) (wc w_574) (v := .ref (h (r 0 4))) rfl dX10_stick_6 ?_
    obtain ⟨hk0, hh⟩ := hh
    refine c_get C hw (inC inW4) (kd_lt hk0 (by decide)) (ce4 hk0) rfl 0 (by decide) (wc w_279) (v := .int (F (r 0 4) 0)) rfl dX10_stick_9 ?_
    refine lv_icmp_ge (tgt := 24) C.1 C.2.1 dX10_stick_12 (by decide) (fun c12 => ?_) (fun c12 => ?_)
    · replace hh := hh.1 c12
      exact tX10_stick_b24 C hR hh hw (lv_sub hl [0] rfl)
    · replace hh := hh.2 c12
      refine lv_iload_n C.1 C.2.1 dX10_stick_15 rfl (lv_at hl 2 rfl) ?_
      refine lv_if_lt (tgt := 24) C.1 C.2.1 dX10_stick_16 (by decide) (fun c16 => ?_) (fun c16 => ?_)
      · replace hh := hh.1 c16
        exact tX10_stick_b24 C hR hh hw (lv_sub hl [0] rfl)
      · replace hh := hh.2 c16
        refine lv_iload_n C.1 C.2.1 dX10_stick_19 rfl (lv_at hl 2 rfl) ?_
        refine lv_iconst (v := (2 : Int32)) C.1 C.2.1 dX10_stick_20 (by decide) ?_
        refine lv_icmp_le (tgt := 26) C.1 C.2.1 dX10_stick_21 (by decide) (fun c21 => ?_) (fun c21 => ?_)
        · replace hh := hh.1 c21
          refine lv_iload_n C.1 C.2.1 dX10_stick_26 rfl (lv_at hl 2 rfl) ?_
          refine lv_iconst (v := (2 : Int32)) C.1 C.2.1 dX10_stick_27 (by decide) ?_
          refine lv_icmp_ne (tgt := 42) C.1 C.2.1 dX10_stick_28 (by decide) (fun c28 => ?_) (fun c28 => ?_)
          · replace hh := hh.1 c28
            refine lv_aload_n C.1 C.2.1 dX10_stick_42 rfl (lv_at hl 0 rfl) ?_
            refine c_get C hw (inC inW10) (kd_lt kp0 (by decide)) (ce10 kp0) rfl 7 (by decide) (wc w_577) (v := .ref (h 43)) rfl dX10_stick_43 ?_
            refine lv_iload_n C.1 C.2.1 dX10_stick_46 rfl (lv_at hl 1 rfl) ?_
            refine lv_iload_n C.1 C.2.1 dX10_stick_47 rfl (lv_at hl 2 rfl) ?_
            refine lv_iconst (v := (1 : Int32)) C.1 C.2.1 dX10_stick_48 (by decide) ?_
            refine lv_icmp_ne (tgt := 56) C.1 C.2.1 dX10_stick_49 (by decide) (fun c49 => ?_) (fun c49 => ?_)
            · replace hh := hh.1 c49
              refine lv_iconst (v := (0 : Int32)) C.1 C.2.1 dX10_stick_56 (by decide) ?_
              exact tX10_stick_b57 C hR hh hw (lv_sub hl [0] rfl)
            · replace hh := hh.2 c49
              refine lv_iconst (v := (1 : Int32)) C.1 C.2.1 dX10_stick_52 (by decide) ?_
              refine lv_goto (tgt := 57) C.1 C.2.1 dX10_stick_53 (by decide) ?_
              exact tX10_stick_b57 C hR hh hw (lv_sub hl [0] rfl)
          · replace hh := hh.2 c28
            refine lv_aload_n C.1 C.2.1 dX10_stick_31 rfl (lv_at hl 0 rfl) ?_
            refine c_get C hw (inC inW10) (kd_lt kp0 (by decide)) (ce10 kp0) rfl 7 (by decide) (wc w_577) (v := .ref (h 43)) rfl dX10_stick_32 ?_
            refine lv_iload_n C.1 C.2.1 dX10_stick_35 rfl (lv_at hl 1 rfl) ?_
            refine c_Vv C hw (ctX0_free l D h cI cL cF cM 43 kp43 F L r x1 hh) (cwV 1 C.2.2.2.2 (gd_V w_1219 w_1220 w_1221 w_122 w_1222) rfl rfl rfl cdX0_free ⟨Nat.le_of_ble_eq_true rfl, Nat.le_of_ble_eq_true rfl⟩) rfl (kd_lt kp43 (by decide)) (ce0 kp43) rfl hl.1 (Nat.le_of_ble_eq_true rfl) dX10_stick_36 ⟨Nat.zero_le _, Nat.zero_le _⟩ (fun u36 H locs hh hw => ?_) rfl
            refine lv_goto (tgt := 60) C.1 C.2.1 dX10_stick_39 (by decide) ?_
            exact tX10_stick_b60 C hR hh hw (lv_sub hl [0] rfl)
        · replace hh := hh.2 c21
          exact tX10_stick_b24 C hR hh hw (lv_sub hl [0] rfl)
theorem ctX10_stick (l : Launch) (D : va_G) (h : Nat → Nat) (cI cL cF cM : ClassId) (F : Nat → Nat → Int32) (L : Nat → Nat → Int64) (r : Nat → Nat → Nat) (x1 : Int32) (x2 : Int32) {K : Int32 → cS → Prop} (hh : wpX10_stick F L r x1 x2 K) : Ci l yX10_stick wsX10_stick rmX10_stick [.ref (h 0), .int x1, .int x2] D (cT cI cL cF cM) (cWu h cI cL cF cM) (F, L, r) K := by
  refine Ci_of (cc := cX10_stick) (maxL := 3) (by decide) rfl (Nat.le_of_ble_eq_true rfl) ?_
  intro p e s m below meth c A Q C hw hR ls hl
  exact tX10_stick_b0 C hR hh hw hl
theorem cdX10_stick : yX10_stick.cls = RX10 ∧ yX10_stick.cls ≠ "java/lang/invoke/MethodHandle" ∧ yX10_stick.cls ≠ "java/lang/invoke/VarHandle" ∧ (parseMethodDescriptor yX10_stick.desc).map (fun d => d.parameters.length) = some 2 := by decide +kernel
abbrev rmX10_stuck : Room := { frames := 0, cells := 0, slots := 0, locals := 0 }
set_option maxHeartbeats 4000000 in
set_option maxRecDepth 100000 in
theorem tX10_stuck_b0 {K : Int32 → cS → Prop} (C : CallFix p m c cX10_stuck 1 s args wsX10_stuck RX10) (hR : Rti .int p l e rmX10_stuck s m args below meth c cX10_stuck D A (cT cI cL cF cM) (cWu h cI cL cF cM) K Q) {F : Nat → Nat → Int32} {L : Nat → Nat → Int64} {r : Nat → Nat → Nat} (hh : wpX10_stuck_b0 F L r K) {H : Heap} {locs : List Loc} {ls : Array Slot} (hw : Wd D A s (cT cI cL cF cM) (cW h cI cL cF cM F L r) H locs) (hl : lv_has ls 1 [(0, .ref (h 0))]) : W p l e rmX10_stuck s m args below meth c H locs 0 0 Q (F0 m 0 ls []) := by
  unfold wpX10_stuck_b0 at hh
  refine lv_aload_n C.1 C.2.1 dX10_stuck_0 rfl (lv_at hl 0 rfl) ?_
  refine c_get C hw (inC inW10) (kd_lt kp0 (by decide)) (ce10 kp0) rfl 7 (by decide) (wc w_577) (v := .ref (h 43)) rfl dX10_stuck_1 ?_
  refine c_get C hw (inC inW0) (kd_lt kp43 (by decide)) (ce0 kp43) rfl 1 (by decide) (wc w_442) (v := .int (F 43 1)) rfl dX10_stuck_4 ?_
  exact hR _ _ _ (F, L, r) _ _ dX10_stuck_7 rfl hh hw
theorem ctX10_stuck (l : Launch) (D : va_G) (h : Nat → Nat) (cI cL cF cM : ClassId) (F : Nat → Nat → Int32) (L : Nat → Nat → Int64) (r : Nat → Nat → Nat) {K : Int32 → cS → Prop} (hh : wpX10_stuck F L r K) : Ci l yX10_stuck wsX10_stuck rmX10_stuck [.ref (h 0)] D (cT cI cL cF cM) (cWu h cI cL cF cM) (F, L, r) K := by
  refine Ci_of (cc := cX10_stuck) (maxL := 1) (by decide) rfl (Nat.le_of_ble_eq_true rfl) ?_
  intro p e s m below meth c A Q C hw hR ls hl
  exact tX10_stuck_b0 C hR hh hw hl
theorem cdX10_stuck : yX10_stuck.cls = RX10 ∧ yX10_stuck.cls ≠ "java/lang/invoke/MethodHandle" ∧ yX10_stuck.cls ≠ "java/lang/invoke/VarHandle" ∧ (parseMethodDescriptor yX10_stuck.desc).map (fun d => d.parameters.length) = some 0 := by decide +kernel
abbrev rmX2_isLength : Room := { frames := 0, cells := 0, slots := 0, locals := 0 }
set_option maxHeartbeats 4000000 in
set_option maxRecDepth 100000 in
theorem tX2_isLength_b17 {K : Int32 → Unit → Prop} (C : CallFix p m c cX2_isLength 1 s args wsX2_isLength RX2) (hR : Rti .boolean p l e rmX2_isLength s m args below meth c cX2_isLength D A [] (fun _ : Unit => []) K Q) {k0 : Int32} (hh : wpX2_isLength_b17 k0 K) {H : Heap} {locs : List Loc} {ls : Array Slot} (hw : Wd D A s [] [] H locs) (hl : lv_has ls 1 []) : W p l e rmX2_isLength s m args below meth c H locs 0 0 Q (F0 m 17 ls [.int k0]) := by
  unfold wpX2_isLength_b17 at hh
  obtain ⟨hb17, hh⟩ := hh
  exact hR _ _ _ () _ _ dX2_isLength_17 (isB_nar hb17) hh hw
set_option maxHeartbeats 4000000 in
set_option maxRecDepth 100000 in
theorem tX2_isLength_b16 {K : Int32 → Unit → Prop} (C : CallFix p m c cX2_isLength 1 s args wsX2_isLength RX2) (hR : Rti .boolean p l e rmX2_isLength s m args below meth c cX2_isLength D A [] (fun _ : Unit => []) K Q) (hh : wpX2_isLength_b16  K) {H : Heap} {locs : List Loc} {ls : Array Slot} (hw : Wd D A s [] [] H locs) (hl : lv_has ls 1 []) : W p l e rmX2_isLength s m args below meth c H locs 0 0 Q (F0 m 16 ls []) := by
  unfold wpX2_isLength_b16 at hh
  refine lv_iconst (v := (0 : Int32)) C.1 C.2.1 dX2_isLength_16 (by decide) ?_
  exact tX2_isLength_b17 C hR hh hw hl
set_option maxHeartbeats 4000000 in
set_option maxRecDepth 100000 in
theorem tX2_isLength_b0 {K : Int32 → Unit → Prop} (C : CallFix p m c cX2_isLength 1 s args wsX2_isLength RX2) (hR : Rti .boolean p l e rmX2_isLength s m args below meth c cX2_isLength D A [] (fun _ : Unit => []) K Q) {x0 : Int32} (hh : wpX2_isLength_b0 x0 K) {H : Heap} {locs : List Loc} {ls : Array Slot} (hw : Wd D A s [] [] H locs) (hl : lv_has ls 1 [(0, .int x0)]) : W p l e rmX2_isLength s m args below meth c H locs 0 0 Q (F0 m 0 ls []) := by
  unfold wpX2_isLength_b0 at hh
  refine lv_iload_n C.1 C.2.1 dX2_isLength_0 rfl (lv_at hl 0 rfl) ?_
  refine lv_iconst (v := (1 : Int32)) C.1 C.2.1 dX2_isLength_1 (by decide) ?_
  refine lv_icmp_lt (tgt := 16) C.1 C.2.1 dX2_isLength_2 (by decide) (fun c2 => ?_) (fun c2 => ?_)
  · replace hh := hh.1 c2
    exact tX2_isLength_b16 C hR hh hw (lv_sub hl [] rfl)
  · replace hh := hh.2 c2
    refine lv_iload_n C.1 C.2.1 dX2_isLength_5 rfl (lv_at hl 0 rfl) ?_
    refine lv_sipush (v := (500 : Int32)) C.1 C.2.1 dX2_isLength_6 (by decide) ?_
    refine lv_icmp_gt (tgt := 16) C.1 C.2.1 dX2_isLength_9 (by decide) (fun c9 => ?_) (fun c9 => ?_)
    · replace hh := hh.1 c9
      exact tX2_isLength_b16 C hR hh hw (lv_sub hl [] rfl)
    · replace hh := hh.2 c9
      refine lv_iconst (v := (1 : Int32)) C.1 C.2.1 dX2_isLength_12 (by decide) ?_
      refine lv_goto (tgt := 17) C.1 C.2.1 dX2_isLength_13 (by decide) ?_
      exact tX2_isLength_b17 C hR hh hw (lv_sub hl [] rfl)
theorem ctX2_isLength (l : Launch) (D : va_G) (x0 : Int32) {K : Int32 → Unit → Prop} (hh : wpX2_isLength x0 K) : Ci l yX2_isLength wsX2_isLength rmX2_isLength [.int x0] D [] (fun _ : Unit => []) () K := by
  refine Ci_of (cc := cX2_isLength) (maxL := 1) (by decide) rfl (Nat.le_of_ble_eq_true rfl) ?_
  intro p e s m below meth c A Q C hw hR ls hl
  exact tX2_isLength_b0 C hR hh hw hl
theorem cdX2_isLength : yX2_isLength.cls ≠ "java/lang/invoke/MethodHandle" ∧ yX2_isLength.cls ≠ "java/lang/invoke/VarHandle" ∧ (parseMethodDescriptor yX2_isLength.desc).map (fun d => d.parameters.length) = some 1 := by decide +kernel
abbrev rmX3_copyFrom : Room := { frames := 0, cells := 0, slots := 0, locals := 0 }
set_option maxHeartbeats 4000000 in
set_option maxRecDepth 100000 in
theorem tX3_copyFrom_b50_body {a0 : Nat} {a1 : Nat} {B50 : (Nat → Nat → Int32) → (Nat → Nat → Int64) → (Nat → Nat → Nat) → Int32 → Prop} {K : cS → Prop} (C : CallFix p m c cX3_copyFrom 3 s args wsX3_copyFrom RX3) (hR : Rtv p l e rmX3_copyFrom s m args below meth c cX3_copyFrom D A (cT cI cL cF cM) (cWu h cI cL cF cM) K Q) (ha0 : kd a0 = 3) (ha1 : kd a1 = 3) (hB50 : ∀ (F : Nat → Nat → Int32) (L : Nat → Nat → Int64) (r : Nat → Nat → Nat) (x2 : Int32) (H : Heap) (locs : List Loc) (ls : Array Slot), B50 F L r x2 → Wd D A s (cT cI cL cF cM) (cW h cI cL cF cM F L r) H locs → lv_has ls 3 [(0, .ref (h a0)), (1, .ref (h a1)), (2, .int x2)] → W p l e rmX3_copyFrom s m args below meth c H locs 0 0 Q (F0 m 50 ls [])) {F : Nat → Nat → Int32} {L : Nat → Nat → Int64} {r : Nat → Nat → Nat} {x2 : Int32} (hh : wpX3_copyFrom_b50_body B50 a0 a1 F L r x2 K) {H : Heap} {locs : List Loc} {ls : Array Slot} (hw : Wd D A s (cT cI cL cF cM) (cW h cI cL cF cM F L r) H locs) (hl : lv_has ls 3 [(0, .ref (h a0)), (1, .ref (h a1)), (2, .int x2)]) : W p l e rmX3_copyFrom s m args below meth c H locs 0 0 Q (F0 m 50 ls []) := by
  unfold wpX3_copyFrom_b50_body at hh
  refine lv_iload_n C.1 C.2.1 dX3_copyFrom_50 rfl (lv_at hl 2 rfl) ?_
  refine lv_iconst (v := (3 : Int32)) C.1 C.2.1 dX3_copyFrom_51 (by decide) ?_
  refine lv_icmp_ge (tgt := 73) C.1 C.2.1 dX3_copyFrom_52 (by decide) (fun c52 => ?_) (fun c52 => ?_)
  · replace hh := hh.1 c52
    exact hR _ _ (F, L, r) _ _ dX3_copyFrom_73 hh hw
  · replace hh := hh.2 c52
    refine lv_aload_n C.1 C.2.1 dX3_copyFrom_55 rfl (lv_at hl 0 rfl) ?_
    refine c_get C hw (inC inW3) (kd_lt ha0 (by decide)) (ce3 ha0) rfl 9 (by decide) (wc w_411) (v := .ref (h (a0 + 1))) rfl dX3_copyFrom_56 ?_
    refine lv_iload_n C.1 C.2.1 dX3_copyFrom_59 rfl (lv_at hl 2 rfl) ?_
    refine lv_aload_n C.1 C.2.1 dX3_copyFrom_60 rfl (lv_at hl 1 rfl) ?_
    refine c_get C hw (inC inW3) (kd_lt ha1 (by decide)) (ce3 ha1) rfl 9 (by decide) (wc w_411) (v := .ref (h (a1 + 1))) rfl dX3_copyFrom_61 ?_
    refine lv_iload_n C.1 C.2.1 dX3_copyFrom_64 rfl (lv_at hl 2 rfl) ?_
    obtain ⟨hi65, hh⟩ := hh
    refine c_lal C hw (kd_lt (kd3_1 ha1) (by decide)) (ce23 (kd3_1 ha1)) hi65 dX3_copyFrom_65 ?_
    obtain ⟨hi66, hh⟩ := hh
    refine c_las C hw (kd_lt (kd3_1 ha0) (by decide)) (ce23 (kd3_1 ha0)) hi66 dX3_copyFrom_66 (fun H locs hw => ?_)
    refine lv_iinc (v := x2 + (1 : Int32)) (lv' := [(2, .int (x2 + (1 : Int32))), (0, .ref (h a0)), (1, .ref (h a1))]) C.1 C.2.1 dX3_copyFrom_67 hl (k := 2) rfl rfl (by decide) rfl (fun ls hl => ?_)
    refine lv_goto (tgt := 50) C.1 C.2.1 dX3_copyFrom_70 (by decide) ?_
    exact hB50 _ _ _ _ _ _ _ hh hw (lv_sub hl [1, 2, 0] rfl)
theorem tX3_copyFrom_b50 {a0 : Nat} {a1 : Nat} {K : cS → Prop} (C : CallFix p m c cX3_copyFrom 3 s args wsX3_copyFrom RX3) (hR : Rtv p l e rmX3_copyFrom s m args below meth c cX3_copyFrom D A (cT cI cL cF cM) (cWu h cI cL cF cM) K Q) (ha0 : kd a0 = 3) (ha1 : kd a1 = 3) (n : Nat) : ∀ (F : Nat → Nat → Int32) (L : Nat → Nat → Int64) (r : Nat → Nat → Nat) (x2 : Int32) (H : Heap) (locs : List Loc) (ls : Array Slot), wpX3_copyFrom_b50 a0 a1 n F L r x2 K → Wd D A s (cT cI cL cF cM) (cW h cI cL cF cM F L r) H locs → lv_has ls 3 [(0, .ref (h a0)), (1, .ref (h a1)), (2, .int x2)] → W p l e rmX3_copyFrom s m args below meth c H locs 0 0 Q (F0 m 50 ls []) := by
  induction n with
  | zero => intro F L r x2 H locs ls hh; exact hh.elim
  | succ n ih => intro F L r x2 H locs ls hh hw hl; exact tX3_copyFrom_b50_body C hR ha0 ha1 ih hh hw hl
set_option maxHeartbeats 4000000 in
set_option maxRecDepth 100000 in
theorem tX3_copyFrom_b0 {a0 : Nat} {a1 : Nat} {K : cS → Prop} (C : CallFix p m c cX3_copyFrom 3 s args wsX3_copyFrom RX3) (hR : Rtv p l e rmX3_copyFrom s m args below meth c cX3_copyFrom D A (cT cI cL cF cM) (cWu h cI cL cF cM) K Q) (ha0 : kd a0 = 3) (ha1 : kd a1 = 3) {F : Nat → Nat → Int32} {L : Nat → Nat → Int64} {r : Nat → Nat → Nat} (hh : wpX3_copyFrom_b0 a0 a1 F L r K) {H : Heap} {locs : List Loc} {ls : Array Slot} (hw : Wd D A s (cT cI cL cF cM) (cW h cI cL cF cM F L r) H locs) (hl : lv_has ls 3 [(0, .ref (h a0)), (1, .ref (h a1))]) : W p l e rmX3_copyFrom s m args below meth c H locs 0 0 Q (F0 m 0 ls []) := by
  unfold wpX3_copyFrom_b0 at hh
  refine lv_aload_n C.1 C.2.1 dX3_copyFrom_0 rfl (lv_at hl 0 rfl) ?_
  refine lv_aload_n C.1 C.2.1 dX3_copyFrom_1 rfl (lv_at hl 1 rfl) ?_
  refine c_get C hw (inC inW3) (kd_lt ha1 (by decide)) (ce3 ha1) rfl 0 (by decide) (wc w_392) (v := .int (F a1 0)) rfl dX3_copyFrom_2 ?_
  refine c_puti C hw (inC inW3) tyX3 tyX3_ok nmX3 (kd_lt ha0 (by decide)) (ce3 ha0) rfl 0 (by decide) (wc w_392) rfl (ty := .int) (by decide +kernel) rfl rfl (Nat.le_of_ble_eq_true rfl) rfl dX3_copyFrom_5 (fun H locs hw => ?_)
  refine lv_aload_n C.1 C.2.1 dX3_copyFrom_8 rfl (lv_at hl 0 rfl) ?_
  refine lv_aload_n C.1 C.2.1 dX3_copyFrom_9 rfl (lv_at hl 1 rfl) ?_
  refine c_get C hw (inC inW3) (kd_lt ha1 (by decide)) (ce3 ha1) rfl 1 (by decide) (wc w_396) (v := .int ((pt F a0 0 (F a1 0)) a1 1)) rfl dX3_copyFrom_10 ?_
  refine c_puti C hw (inC inW3) tyX3 tyX3_ok nmX3 (kd_lt ha0 (by decide)) (ce3 ha0) rfl 1 (by decide) (wc w_396) rfl (ty := .int) (by decide +kernel) rfl rfl (Nat.le_of_ble_eq_true rfl) rfl dX3_copyFrom_13 (fun H locs hw => ?_)
  refine lv_aload_n C.1 C.2.1 dX3_copyFrom_16 rfl (lv_at hl 0 rfl) ?_
  refine lv_aload_n C.1 C.2.1 dX3_copyFrom_17 rfl (lv_at hl 1 rfl) ?_
  refine c_get C hw (inC inW3) (kd_lt ha1 (by decide)) (ce3 ha1) rfl 2 (by decide) (wc w_399) (v := .int ((pt (pt F a0 0 (F a1 0)) a0 1 ((pt F a0 0 (F a1 0)) a1 1)) a1 2)) rfl dX3_copyFrom_18 ?_
  refine c_puti C hw (inC inW3) tyX3 tyX3_ok nmX3 (kd_lt ha0 (by decide)) (ce3 ha0) rfl 2 (by decide) (wc w_399) rfl (ty := .int) (by decide +kernel) rfl rfl (Nat.le_of_ble_eq_true rfl) rfl dX3_copyFrom_21 (fun H locs hw => ?_)
  refine lv_aload_n C.1 C.2.1 dX3_copyFrom_24 rfl (lv_at hl 0 rfl) ?_
  refine lv_aload_n C.1 C.2.1 dX3_copyFrom_25 rfl (lv_at hl 1 rfl) ?_
  refine c_get C hw (inC inW3) (kd_lt ha1 (by decide)) (ce3 ha1) rfl 3 (by decide) (wc w_401) (v := .int ((pt (pt (pt F a0 0 (F a1 0)) a0 1 ((pt F a0 0 (F a1 0)) a1 1)) a0 2 ((pt (pt F a0 0 (F a1 0)) a0 1 ((pt F a0 0 (F a1 0)) a1 1)) a1 2)) a1 3)) rfl dX3_copyFrom_26 ?_
  refine c_puti C hw (inC inW3) tyX3 tyX3_ok nmX3 (kd_lt ha0 (by decide)) (ce3 ha0) rfl 3 (by decide) (wc w_401) rfl (ty := .int) (by decide +kernel) rfl rfl (Nat.le_of_ble_eq_true rfl) rfl dX3_copyFrom_29 (fun H locs hw => ?_)
  refine lv_aload_n C.1 C.2.1 dX3_copyFrom_32 rfl (lv_at hl 0 rfl) ?_
  refine lv_aload_n C.1 C.2.1 dX3_copyFrom_33 rfl (lv_at hl 1 rfl) ?_
  refine c_get C hw (inC inW3) (kd_lt ha1 (by decide)) (ce3 ha1) rfl 4 (by decide) (wc w_403) (v := .long (L a1 4)) rfl dX3_copyFrom_34 ?_
  refine c_putl C hw (inC inW3) tyX3 tyX3_ok nmX3 (kd_lt ha0 (by decide)) (ce3 ha0) rfl 4 (by decide) (wc w_403) rfl (by decide +kernel) (Nat.le_of_ble_eq_true rfl) rfl dX3_copyFrom_37 (fun H locs hw => ?_)
  refine lv_aload_n C.1 C.2.1 dX3_copyFrom_40 rfl (lv_at hl 0 rfl) ?_
  refine lv_aload_n C.1 C.2.1 dX3_copyFrom_41 rfl (lv_at hl 1 rfl) ?_
  refine c_get C hw (inC inW3) (kd_lt ha1 (by decide)) (ce3 ha1) rfl 5 (by decide) (wc w_404) (v := .long ((ptL L a0 4 (L a1 4)) a1 5)) rfl dX3_copyFrom_42 ?_
  refine c_putl C hw (inC inW3) tyX3 tyX3_ok nmX3 (kd_lt ha0 (by decide)) (ce3 ha0) rfl 5 (by decide) (wc w_404) rfl (by decide +kernel) (Nat.le_of_ble_eq_true rfl) rfl dX3_copyFrom_45 (fun H locs hw => ?_)
  refine lv_iconst (v := (0 : Int32)) C.1 C.2.1 dX3_copyFrom_48 (by decide) ?_
  refine lv_istore_n (lv' := [(2, .int (0 : Int32)), (0, .ref (h a0)), (1, .ref (h a1))]) C.1 C.2.1 dX3_copyFrom_49 rfl hl (by decide) rfl (fun ls hl => ?_)
  obtain ⟨n, hh⟩ := hh
  exact tX3_copyFrom_b50 C hR ha0 ha1 n _ _ _ _ _ _ _ hh hw (lv_sub hl [1, 2, 0] rfl)
theorem ctX3_copyFrom (l : Launch) (D : va_G) (h : Nat → Nat) (cI cL cF cM : ClassId) (a0 : Nat) (a1 : Nat) (ha0 : kd a0 = 3) (ha1 : kd a1 = 3) (F : Nat → Nat → Int32) (L : Nat → Nat → Int64) (r : Nat → Nat → Nat) {K : cS → Prop} (hh : wpX3_copyFrom a0 a1 F L r K) : Cv l yX3_copyFrom wsX3_copyFrom rmX3_copyFrom [.ref (h a0), .ref (h a1)] D (cT cI cL cF cM) (cWu h cI cL cF cM) (F, L, r) K := by
  refine Cv_of (cc := cX3_copyFrom) (maxL := 3) (by decide) rfl (Nat.le_of_ble_eq_true rfl) ?_
  intro p e s m below meth c A Q C hw hR ls hl
  exact tX3_copyFrom_b0 C hR ha0 ha1 hh hw hl
theorem cdX3_copyFrom : yX3_copyFrom.cls = RX3 ∧ yX3_copyFrom.cls ≠ "java/lang/invoke/MethodHandle" ∧ yX3_copyFrom.cls ≠ "java/lang/invoke/VarHandle" ∧ (parseMethodDescriptor yX3_copyFrom.desc).map (fun d => d.parameters.length) = some 1 := by decide +kernel
abbrev rmX1_copyFrom : Room := { frames := 0, cells := 0, slots := 0, locals := 0 }
set_option maxHeartbeats 4000000 in
set_option maxRecDepth 100000 in
theorem tX1_copyFrom_b34_body {a0 : Nat} {a1 : Nat} {B34 : (Nat → Nat → Int32) → (Nat → Nat → Int64) → (Nat → Nat → Nat) → Int32 → Prop} {K : cS → Prop} (C : CallFix p m c cX1_copyFrom 3 s args wsX1_copyFrom RX1) (hR : Rtv p l e rmX1_copyFrom s m args below meth c cX1_copyFrom D A (cT cI cL cF cM) (cWu h cI cL cF cM) K Q) (ha0 : kd a0 = 1) (ha1 : kd a1 = 1) (hB34 : ∀ (F : Nat → Nat → Int32) (L : Nat → Nat → Int64) (r : Nat → Nat → Nat) (x2 : Int32) (H : Heap) (locs : List Loc) (ls : Array Slot), B34 F L r x2 → Wd D A s (cT cI cL cF cM) (cW h cI cL cF cM F L r) H locs → lv_has ls 3 [(0, .ref (h a0)), (1, .ref (h a1)), (2, .int x2)] → W p l e rmX1_copyFrom s m args below meth c H locs 0 0 Q (F0 m 34 ls [])) {F : Nat → Nat → Int32} {L : Nat → Nat → Int64} {r : Nat → Nat → Nat} {x2 : Int32} (hh : wpX1_copyFrom_b34_body B34 a0 a1 F L r x2 K) {H : Heap} {locs : List Loc} {ls : Array Slot} (hw : Wd D A s (cT cI cL cF cM) (cW h cI cL cF cM F L r) H locs) (hl : lv_has ls 3 [(0, .ref (h a0)), (1, .ref (h a1)), (2, .int x2)]) : W p l e rmX1_copyFrom s m args below meth c H locs 0 0 Q (F0 m 34 ls []) := by
  unfold wpX1_copyFrom_b34_body at hh
  refine lv_iload_n C.1 C.2.1 dX1_copyFrom_34 rfl (lv_at hl 2 rfl) ?_
  refine lv_iconst (v := (4 : Int32)) C.1 C.2.1 dX1_copyFrom_35 (by decide) ?_
  refine lv_icmp_ge (tgt := 81) C.1 C.2.1 dX1_copyFrom_36 (by decide) (fun c36 => ?_) (fun c36 => ?_)
  · replace hh := hh.1 c36
    exact hR _ _ (F, L, r) _ _ dX1_copyFrom_81 hh hw
  · replace hh := hh.2 c36
    refine lv_aload_n C.1 C.2.1 dX1_copyFrom_39 rfl (lv_at hl 0 rfl) ?_
    refine c_get C hw (inC inW1) (kd_lt ha0 (by decide)) (ce1 ha0) rfl 4 (by decide) (wc w_365) (v := .ref (h (a0 + 1))) rfl dX1_copyFrom_40 ?_
    refine lv_iload_n C.1 C.2.1 dX1_copyFrom_43 rfl (lv_at hl 2 rfl) ?_
    refine lv_aload_n C.1 C.2.1 dX1_copyFrom_44 rfl (lv_at hl 1 rfl) ?_
    refine c_get C hw (inC inW1) (kd_lt ha1 (by decide)) (ce1 ha1) rfl 4 (by decide) (wc w_365) (v := .ref (h (a1 + 1))) rfl dX1_copyFrom_45 ?_
    refine lv_iload_n C.1 C.2.1 dX1_copyFrom_48 rfl (lv_at hl 2 rfl) ?_
    obtain ⟨hi49, hh⟩ := hh
    refine c_lal C hw (kd_lt (kd1_1 ha1) (by decide)) (ce22 (kd1_1 ha1)) hi49 dX1_copyFrom_49 ?_
    obtain ⟨hi50, hh⟩ := hh
    refine c_las C hw (kd_lt (kd1_1 ha0) (by decide)) (ce22 (kd1_1 ha0)) hi50 dX1_copyFrom_50 (fun H locs hw => ?_)
    refine lv_aload_n C.1 C.2.1 dX1_copyFrom_51 rfl (lv_at hl 0 rfl) ?_
    refine c_get C hw (inC inW1) (kd_lt ha0 (by decide)) (ce1 ha0) rfl 6 (by decide) (wc w_369) (v := .ref (h (a0 + 3))) rfl dX1_copyFrom_52 ?_
    refine lv_iload_n C.1 C.2.1 dX1_copyFrom_55 rfl (lv_at hl 2 rfl) ?_
    refine lv_aload_n C.1 C.2.1 dX1_copyFrom_56 rfl (lv_at hl 1 rfl) ?_
    refine c_get C hw (inC inW1) (kd_lt ha1 (by decide)) (ce1 ha1) rfl 6 (by decide) (wc w_369) (v := .ref (h (a1 + 3))) rfl dX1_copyFrom_57 ?_
    refine lv_iload_n C.1 C.2.1 dX1_copyFrom_60 rfl (lv_at hl 2 rfl) ?_
    obtain ⟨hi61, hh⟩ := hh
    refine c_lal C hw (kd_lt (kd1_3 ha1) (by decide)) (ce22 (kd1_3 ha1)) hi61 dX1_copyFrom_61 ?_
    obtain ⟨hi62, hh⟩ := hh
    refine c_las C hw (kd_lt (kd1_3 ha0) (by decide)) (ce22 (kd1_3 ha0)) hi62 dX1_copyFrom_62 (fun H locs hw => ?_)
    refine lv_aload_n C.1 C.2.1 dX1_copyFrom_63 rfl (lv_at hl 0 rfl) ?_
    refine c_get C hw (inC inW1) (kd_lt ha0 (by decide)) (ce1 ha0) rfl 5 (by decide) (wc w_367) (v := .ref (h (a0 + 2))) rfl dX1_copyFrom_64 ?_
    refine lv_iload_n C.1 C.2.1 dX1_copyFrom_67 rfl (lv_at hl 2 rfl) ?_
    refine lv_aload_n C.1 C.2.1 dX1_copyFrom_68 rfl (lv_at hl 1 rfl) ?_
    refine c_get C hw (inC inW1) (kd_lt ha1 (by decide)) (ce1 ha1) rfl 5 (by decide) (wc w_367) (v := .ref (h (a1 + 2))) rfl dX1_copyFrom_69 ?_
    refine lv_iload_n C.1 C.2.1 dX1_copyFrom_72 rfl (lv_at hl 2 rfl) ?_
    obtain ⟨hi73, hh⟩ := hh
    refine c_ial C hw (kd_lt (kd1_2 ha1) (by decide)) (ce12 (kd1_2 ha1)) hi73 dX1_copyFrom_73 ?_
    obtain ⟨hi74, hh⟩ := hh
    refine c_ias C hw (kd_lt (kd1_2 ha0) (by decide)) (ce12 (kd1_2 ha0)) hi74 dX1_copyFrom_74 (fun H locs hw => ?_)
    refine lv_iinc (v := x2 + (1 : Int32)) (lv' := [(2, .int (x2 + (1 : Int32))), (0, .ref (h a0)), (1, .ref (h a1))]) C.1 C.2.1 dX1_copyFrom_75 hl (k := 2) rfl rfl (by decide) rfl (fun ls hl => ?_)
    refine lv_goto (tgt := 34) C.1 C.2.1 dX1_copyFrom_78 (by decide) ?_
    exact hB34 _ _ _ _ _ _ _ hh hw (lv_sub hl [1, 2, 0] rfl)
theorem tX1_copyFrom_b34 {a0 : Nat} {a1 : Nat} {K : cS → Prop} (C : CallFix p m c cX1_copyFrom 3 s args wsX1_copyFrom RX1) (hR : Rtv p l e rmX1_copyFrom s m args below meth c cX1_copyFrom D A (cT cI cL cF cM) (cWu h cI cL cF cM) K Q) (ha0 : kd a0 = 1) (ha1 : kd a1 = 1) (n : Nat) : ∀ (F : Nat → Nat → Int32) (L : Nat → Nat → Int64) (r : Nat → Nat → Nat) (x2 : Int32) (H : Heap) (locs : List Loc) (ls : Array Slot), wpX1_copyFrom_b34 a0 a1 n F L r x2 K → Wd D A s (cT cI cL cF cM) (cW h cI cL cF cM F L r) H locs → lv_has ls 3 [(0, .ref (h a0)), (1, .ref (h a1)), (2, .int x2)] → W p l e rmX1_copyFrom s m args below meth c H locs 0 0 Q (F0 m 34 ls []) := by
  induction n with
  | zero => intro F L r x2 H locs ls hh; exact hh.elim
  | succ n ih => intro F L r x2 H locs ls hh hw hl; exact tX1_copyFrom_b34_body C hR ha0 ha1 ih hh hw hl
set_option maxHeartbeats 4000000 in
set_option maxRecDepth 100000 in
theorem tX1_copyFrom_b0 {a0 : Nat} {a1 : Nat} {K : cS → Prop} (C : CallFix p m c cX1_copyFrom 3 s args wsX1_copyFrom RX1) (hR : Rtv p l e rmX1_copyFrom s m args below meth c cX1_copyFrom D A (cT cI cL cF cM) (cWu h cI cL cF cM) K Q) (ha0 : kd a0 = 1) (ha1 : kd a1 = 1) {F : Nat → Nat → Int32} {L : Nat → Nat → Int64} {r : Nat → Nat → Nat} (hh : wpX1_copyFrom_b0 a0 a1 F L r K) {H : Heap} {locs : List Loc} {ls : Array Slot} (hw : Wd D A s (cT cI cL cF cM) (cW h cI cL cF cM F L r) H locs) (hl : lv_has ls 3 [(0, .ref (h a0)), (1, .ref (h a1))]) : W p l e rmX1_copyFrom s m args below meth c H locs 0 0 Q (F0 m 0 ls []) := by
  unfold wpX1_copyFrom_b0 at hh
  refine lv_aload_n C.1 C.2.1 dX1_copyFrom_0 rfl (lv_at hl 0 rfl) ?_
  refine lv_aload_n C.1 C.2.1 dX1_copyFrom_1 rfl (lv_at hl 1 rfl) ?_
  refine c_get C hw (inC inW1) (kd_lt ha1 (by decide)) (ce1 ha1) rfl 0 (by decide) (wc w_356) (v := .int (F a1 0)) rfl dX1_copyFrom_2 ?_
  refine c_puti C hw (inC inW1) tyX1 tyX1_ok nmX1 (kd_lt ha0 (by decide)) (ce1 ha0) rfl 0 (by decide) (wc w_356) rfl (ty := .int) (by decide +kernel) rfl rfl (Nat.le_of_ble_eq_true rfl) rfl dX1_copyFrom_5 (fun H locs hw => ?_)
  refine lv_aload_n C.1 C.2.1 dX1_copyFrom_8 rfl (lv_at hl 0 rfl) ?_
  refine lv_aload_n C.1 C.2.1 dX1_copyFrom_9 rfl (lv_at hl 1 rfl) ?_
  refine c_get C hw (inC inW1) (kd_lt ha1 (by decide)) (ce1 ha1) rfl 1 (by decide) (wc w_357) (v := .int ((pt F a0 0 (F a1 0)) a1 1)) rfl dX1_copyFrom_10 ?_
  refine c_puti C hw (inC inW1) tyX1 tyX1_ok nmX1 (kd_lt ha0 (by decide)) (ce1 ha0) rfl 1 (by decide) (wc w_357) rfl (ty := .int) (by decide +kernel) rfl rfl (Nat.le_of_ble_eq_true rfl) rfl dX1_copyFrom_13 (fun H locs hw => ?_)
  refine lv_aload_n C.1 C.2.1 dX1_copyFrom_16 rfl (lv_at hl 0 rfl) ?_
  refine lv_aload_n C.1 C.2.1 dX1_copyFrom_17 rfl (lv_at hl 1 rfl) ?_
  refine c_get C hw (inC inW1) (kd_lt ha1 (by decide)) (ce1 ha1) rfl 2 (by decide) (wc w_358) (v := .int ((pt (pt F a0 0 (F a1 0)) a0 1 ((pt F a0 0 (F a1 0)) a1 1)) a1 2)) rfl dX1_copyFrom_18 ?_
  refine c_puti C hw (inC inW1) tyX1 tyX1_ok nmX1 (kd_lt ha0 (by decide)) (ce1 ha0) rfl 2 (by decide) (wc w_358) rfl (ty := .int) (by decide +kernel) rfl rfl (Nat.le_of_ble_eq_true rfl) rfl dX1_copyFrom_21 (fun H locs hw => ?_)
  refine lv_aload_n C.1 C.2.1 dX1_copyFrom_24 rfl (lv_at hl 0 rfl) ?_
  refine lv_aload_n C.1 C.2.1 dX1_copyFrom_25 rfl (lv_at hl 1 rfl) ?_
  refine c_get C hw (inC inW1) (kd_lt ha1 (by decide)) (ce1 ha1) rfl 3 (by decide) (wc w_361) (v := .int ((pt (pt (pt F a0 0 (F a1 0)) a0 1 ((pt F a0 0 (F a1 0)) a1 1)) a0 2 ((pt (pt F a0 0 (F a1 0)) a0 1 ((pt F a0 0 (F a1 0)) a1 1)) a1 2)) a1 3)) rfl dX1_copyFrom_26 ?_
  refine c_puti C hw (inC inW1) tyX1 tyX1_ok nmX1 (kd_lt ha0 (by decide)) (ce1 ha0) rfl 3 (by decide) (wc w_361) rfl (ty := .int) (by decide +kernel) rfl rfl (Nat.le_of_ble_eq_true rfl) rfl dX1_copyFrom_29 (fun H locs hw => ?_)
  refine lv_iconst (v := (0 : Int32)) C.1 C.2.1 dX1_copyFrom_32 (by decide) ?_
  refine lv_istore_n (lv' := [(2, .int (0 : Int32)), (0, .ref (h a0)), (1, .ref (h a1))]) C.1 C.2.1 dX1_copyFrom_33 rfl hl (by decide) rfl (fun ls hl => ?_)
  obtain ⟨n, hh⟩ := hh
  exact tX1_copyFrom_b34 C hR ha0 ha1 n _ _ _ _ _ _ _ hh hw (lv_sub hl [1, 2, 0] rfl)
theorem ctX1_copyFrom (l : Launch) (D : va_G) (h : Nat → Nat) (cI cL cF cM : ClassId) (a0 : Nat) (a1 : Nat) (ha0 : kd a0 = 1) (ha1 : kd a1 = 1) (F : Nat → Nat → Int32) (L : Nat → Nat → Int64) (r : Nat → Nat → Nat) {K : cS → Prop} (hh : wpX1_copyFrom a0 a1 F L r K) : Cv l yX1_copyFrom wsX1_copyFrom rmX1_copyFrom [.ref (h a0), .ref (h a1)] D (cT cI cL cF cM) (cWu h cI cL cF cM) (F, L, r) K := by
  refine Cv_of (cc := cX1_copyFrom) (maxL := 3) (by decide) rfl (Nat.le_of_ble_eq_true rfl) ?_
  intro p e s m below meth c A Q C hw hR ls hl
  exact tX1_copyFrom_b0 C hR ha0 ha1 hh hw hl
theorem cdX1_copyFrom : yX1_copyFrom.cls = RX1 ∧ yX1_copyFrom.cls ≠ "java/lang/invoke/MethodHandle" ∧ yX1_copyFrom.cls ≠ "java/lang/invoke/VarHandle" ∧ (parseMethodDescriptor yX1_copyFrom.desc).map (fun d => d.parameters.length) = some 1 := by decide +kernel
abbrev rmX0_jamAll : Room := { frames := 0, cells := 0, slots := 0, locals := 0 }
set_option maxHeartbeats 4000000 in
set_option maxRecDepth 100000 in
theorem tX0_jamAll_b0 {a0 : Nat} {K : cS → Prop} (C : CallFix p m c cX0_jamAll 3 s args wsX0_jamAll RX0) (hR : Rtv p l e rmX0_jamAll s m args below meth c cX0_jamAll D A (cT cI cL cF cM) (cWu h cI cL cF cM) K Q) (ha0 : kd a0 = 0) {F : Nat → Nat → Int32} {L : Nat → Nat → Int64} {r : Nat → Nat → Nat} {x1 : Int32} {x2 : Int32} (hh : wpX0_jamAll_b0 a0 F L r x1 x2 K) {H : Heap} {locs : List Loc} {ls : Array Slot} (hw : Wd D A s (cT cI cL cF cM) (cW h cI cL cF cM F L r) H locs) (hl : lv_has ls 3 [(0, .ref (h a0)), (1, .int x1), (2, .int x2)]) : W p l e rmX0_jamAll s m args below meth c H locs 0 0 Q (F0 m 0 ls []) := by
  unfold wpX0_jamAll_b0 at hh
  refine lv_aload_n C.1 C.2.1 dX0_jamAll_0 rfl (lv_at hl 0 rfl) ?_
  refine lv_iload_n C.1 C.2.1 dX0_jamAll_1 rfl (lv_at hl 1 rfl) ?_
  refine c_puti C hw (inC inW0) tyX0 tyX0_ok nmX0 (kd_lt ha0 (by decide)) (ce0 ha0) rfl 1 (by decide) (wc w_441) rfl (ty := .int) (by decide +kernel) rfl rfl (Nat.le_of_ble_eq_true rfl) rfl dX0_jamAll_2 (fun H locs hw => ?_)
  refine lv_aload_n C.1 C.2.1 dX0_jamAll_5 rfl (lv_at hl 0 rfl) ?_
  refine lv_iload_n C.1 C.2.1 dX0_jamAll_6 rfl (lv_at hl 2 rfl) ?_
  refine lv_iload_n C.1 C.2.1 dX0_jamAll_7 rfl (lv_at hl 1 rfl) ?_
  refine lv_iand C.1 C.2.1 dX0_jamAll_8 ?_
  refine c_puti C hw (inC inW0) tyX0 tyX0_ok nmX0 (kd_lt ha0 (by decide)) (ce0 ha0) rfl 2 (by decide) (wc w_443) rfl (ty := .int) (by decide +kernel) rfl rfl (Nat.le_of_ble_eq_true rfl) rfl dX0_jamAll_9 (fun H locs hw => ?_)
  refine lv_aload_n C.1 C.2.1 dX0_jamAll_12 rfl (lv_at hl 0 rfl) ?_
  refine lv_aload_n C.1 C.2.1 dX0_jamAll_13 rfl (lv_at hl 0 rfl) ?_
  refine c_get C hw (inC inW0) (kd_lt ha0 (by decide)) (ce0 ha0) rfl 2 (by decide) (wc w_443) (v := .int ((pt (pt F a0 1 x1) a0 2 (x2 &&& x1)) a0 2)) rfl dX0_jamAll_14 ?_
  refine c_puti C hw (inC inW0) tyX0 tyX0_ok nmX0 (kd_lt ha0 (by decide)) (ce0 ha0) rfl 0 (by decide) (wc w_439) rfl (ty := .int) (by decide +kernel) rfl rfl (Nat.le_of_ble_eq_true rfl) rfl dX0_jamAll_17 (fun H locs hw => ?_)
  exact hR _ _ (pt (pt (pt F a0 1 x1) a0 2 (x2 &&& x1)) a0 0 ((pt (pt F a0 1 x1) a0 2 (x2 &&& x1)) a0 2), L, r) _ _ dX0_jamAll_20 hh hw
theorem ctX0_jamAll (l : Launch) (D : va_G) (h : Nat → Nat) (cI cL cF cM : ClassId) (a0 : Nat) (ha0 : kd a0 = 0) (F : Nat → Nat → Int32) (L : Nat → Nat → Int64) (r : Nat → Nat → Nat) (x1 : Int32) (x2 : Int32) {K : cS → Prop} (hh : wpX0_jamAll a0 F L r x1 x2 K) : Cv l yX0_jamAll wsX0_jamAll rmX0_jamAll [.ref (h a0), .int x1, .int x2] D (cT cI cL cF cM) (cWu h cI cL cF cM) (F, L, r) K := by
  refine Cv_of (cc := cX0_jamAll) (maxL := 3) (by decide) rfl (Nat.le_of_ble_eq_true rfl) ?_
  intro p e s m below meth c A Q C hw hR ls hl
  exact tX0_jamAll_b0 C hR ha0 hh hw hl
theorem cdX0_jamAll : yX0_jamAll.cls = RX0 ∧ yX0_jamAll.cls ≠ "java/lang/invoke/MethodHandle" ∧ yX0_jamAll.cls ≠ "java/lang/invoke/VarHandle" ∧ (parseMethodDescriptor yX0_jamAll.desc).map (fun d => d.parameters.length) = some 2 := by decide +kernel
abbrev rmX0_jamLike : Room := { frames := 1, cells := 0, slots := 0, locals := 22 }
set_option maxHeartbeats 4000000 in
set_option maxRecDepth 100000 in
theorem tX0_jamLike_b0 {a0 : Nat} {a1 : Nat} {K : cS → Prop} (C : CallFix p m c cX0_jamLike 2 s args wsX0_jamLike RX0) (hR : Rtv p l e rmX0_jamLike s m args below meth c cX0_jamLike D A (cT cI cL cF cM) (cWu h cI cL cF cM) K Q) (ha0 : kd a0 = 0) (ha1 : kd a1 = 0) {F : Nat → Nat → Int32} {L : Nat → Nat → Int64} {r : Nat → Nat → Nat} (hh : wpX0_jamLike_b0 a0 a1 F L r K) {H : Heap} {locs : List Loc} {ls : Array Slot} (hw : Wd D A s (cT cI cL cF cM) (cW h cI cL cF cM F L r) H locs) (hl : lv_has ls 2 [(0, .ref (h a0)), (1, .ref (h a1))]) : W p l e rmX0_jamLike s m args below meth c H locs 0 0 Q (F0 m 0 ls []) := by
  unfold wpX0_jamLike_b0 at hh
  refine lv_aload_n C.1 C.2.1 dX0_jamLike_0 rfl (lv_at hl 0 rfl) ?_
  refine lv_aload_n C.1 C.2.1 dX0_jamLike_1 rfl (lv_at hl 1 rfl) ?_
  refine c_get C hw (inC inW0) (kd_lt ha1 (by decide)) (ce0 ha1) rfl 1 (by decide) (wc w_441) (v := .int (F a1 1)) rfl dX0_jamLike_2 ?_
  refine lv_aload_n C.1 C.2.1 dX0_jamLike_5 rfl (lv_at hl 1 rfl) ?_
  refine c_get C hw (inC inW0) (kd_lt ha1 (by decide)) (ce0 ha1) rfl 2 (by decide) (wc w_443) (v := .int (F a1 2)) rfl dX0_jamLike_6 ?_
  refine c_Vv C hw (ctX0_jamAll l D h cI cL cF cM a0 ha0 F L r (F a1 1) (F a1 2) hh) (cwV 2 C.2.2.2.2 (gd_V w_1254 w_1255 w_1256 w_122 w_1257) rfl rfl rfl cdX0_jamAll ⟨Nat.le_of_ble_eq_true rfl, Nat.le_of_ble_eq_true rfl⟩) rfl (kd_lt ha0 (by decide)) (ce0 ha0) rfl hl.1 (Nat.le_of_ble_eq_true rfl) dX0_jamLike_9 ⟨Nat.zero_le _, Nat.zero_le _⟩ (fun u9 H locs hh hw => ?_) rfl
  exact hR _ _ (u9.1, u9.2.1, u9.2.2) _ _ dX0_jamLike_12 hh hw
theorem ctX0_jamLike (l : Launch) (D : va_G) (h : Nat → Nat) (cI cL cF cM : ClassId) (a0 : Nat) (a1 : Nat) (ha0 : kd a0 = 0) (ha1 : kd a1 = 0) (F : Nat → Nat → Int32) (L : Nat → Nat → Int64) (r : Nat → Nat → Nat) {K : cS → Prop} (hh : wpX0_jamLike a0 a1 F L r K) : Cv l yX0_jamLike wsX0_jamLike rmX0_jamLike [.ref (h a0), .ref (h a1)] D (cT cI cL cF cM) (cWu h cI cL cF cM) (F, L, r) K := by
  refine Cv_of (cc := cX0_jamLike) (maxL := 2) (by decide) rfl (Nat.le_of_ble_eq_true rfl) ?_
  intro p e s m below meth c A Q C hw hR ls hl
  exact tX0_jamLike_b0 C hR ha0 ha1 hh hw hl
theorem cdX0_jamLike : yX0_jamLike.cls = RX0 ∧ yX0_jamLike.cls ≠ "java/lang/invoke/MethodHandle" ∧ yX0_jamLike.cls ≠ "java/lang/invoke/VarHandle" ∧ (parseMethodDescriptor yX0_jamLike.desc).map (fun d => d.parameters.length) = some 1 := by decide +kernel
abbrev rmX2_begin : Room := { frames := 2, cells := 0, slots := 0, locals := 43 }
set_option maxHeartbeats 4000000 in
set_option maxRecDepth 100000 in
theorem tX2_begin_b0 {a1 : Nat} {a2 : Nat} {a3 : Nat} {a4 : Nat} {K : cS → Prop} (C : CallFix p m c cX2_begin 5 s args wsX2_begin RX2) (hR : Rtv p l e rmX2_begin s m args below meth c cX2_begin D A (cT cI cL cF cM) (cWu h cI cL cF cM) K Q) (ha1 : kd a1 = 4) (ha2 : kd a2 = 3) (ha3 : kd a3 = 1) (ha4 : kd a4 = 0) {F : Nat → Nat → Int32} {L : Nat → Nat → Int64} {r : Nat → Nat → Nat} (hh : wpX2_begin_b0 a1 a2 a3 a4 F L r K) {H : Heap} {locs : List Loc} {ls : Array Slot} (hw : Wd D A s (cT cI cL cF cM) (cW h cI cL cF cM F L r) H locs) (hl : lv_has ls 5 [(0, .ref (h 102)), (1, .ref (h a1)), (2, .ref (h a2)), (3, .ref (h a3)), (4, .ref (h a4))]) : W p l e rmX2_begin s m args below meth c H locs 0 0 Q (F0 m 0 ls []) := by
  unfold wpX2_begin_b0 at hh
  refine lv_aload_n C.1 C.2.1 dX2_begin_0 rfl (lv_at hl 0 rfl) ?_
  refine lv_aload_n C.1 C.2.1 dX2_begin_1 rfl (lv_at hl 1 rfl) ?_
  refine c_putr (v := a1) C hw (inC inW2) tyX2 tyX2_ok nmX2 (kd_lt kp102 (by decide)) (ce2 kp102) rfl 4 (by decide) (wc w_537) rfl (ty := .object "RelayMouse$Net") (by decide +kernel) rfl rfl (Nat.le_of_ble_eq_true rfl) rfl dX2_begin_2 (fun H locs hw => ?_)
  refine lv_aload_n C.1 C.2.1 dX2_begin_5 rfl (lv_at hl 0 rfl) ?_
  refine c_get C hw (inC inW2) (kd_lt kp102 (by decide)) (ce2 kp102) rfl 5 (by decide) (wc w_538) (v := .ref (h 90)) rfl dX2_begin_6 ?_
  refine lv_aload_n C.1 C.2.1 dX2_begin_9 rfl (lv_at hl 2 rfl) ?_
  refine c_Vv C hw (ctX3_copyFrom l D h cI cL cF cM 90 a2 kp90 ha2 F L (ptN r 102 4 a1) hh) (cwV 1 C.2.2.2.2 (gd_V w_1242 w_1243 w_1244 w_121 w_1245) rfl rfl rfl cdX3_copyFrom ⟨Nat.le_of_ble_eq_true rfl, Nat.le_of_ble_eq_true rfl⟩) rfl (kd_lt kp90 (by decide)) (ce3 kp90) rfl hl.1 (Nat.le_of_ble_eq_true rfl) dX2_begin_10 ⟨Nat.zero_le _, Nat.zero_le _⟩ (fun u10 H locs hh hw => ?_) rfl
  refine lv_aload_n C.1 C.2.1 dX2_begin_13 rfl (lv_at hl 0 rfl) ?_
  refine c_get C hw (inC inW2) (kd_lt kp102 (by decide)) (ce2 kp102) rfl 7 (by decide) (wc w_540) (v := .ref (h 70)) rfl dX2_begin_14 ?_
  refine lv_aload_n C.1 C.2.1 dX2_begin_17 rfl (lv_at hl 3 rfl) ?_
  refine c_Vv C hw (ctX1_copyFrom l D h cI cL cF cM 70 a3 kp70 ha3 u10.1 u10.2.1 u10.2.2 hh) (cwV 1 C.2.2.2.2 (gd_V w_1246 w_1247 w_1248 w_120 w_1249) rfl rfl rfl cdX1_copyFrom ⟨Nat.le_of_ble_eq_true rfl, Nat.le_of_ble_eq_true rfl⟩) rfl (kd_lt kp70 (by decide)) (ce1 kp70) rfl hl.1 (Nat.le_of_ble_eq_true rfl) dX2_begin_18 ⟨Nat.zero_le _, Nat.zero_le _⟩ (fun u18 H locs hh hw => ?_) rfl
  refine lv_aload_n C.1 C.2.1 dX2_begin_21 rfl (lv_at hl 0 rfl) ?_
  refine c_get C hw (inC inW2) (kd_lt kp102 (by decide)) (ce2 kp102) rfl 6 (by decide) (wc w_539) (v := .ref (h 44)) rfl dX2_begin_22 ?_
  refine lv_aload C.1 C.2.1 dX2_begin_25 (lv_at hl 4 rfl) ?_
  refine c_Vv C hw (ctX0_jamLike l D h cI cL cF cM 44 a4 kp44 ha4 u18.1 u18.2.1 u18.2.2 hh) (cwV 1 C.2.2.2.2 (gd_V w_1250 w_1251 w_1252 w_122 w_1253) rfl rfl rfl cdX0_jamLike ⟨Nat.le_of_ble_eq_true rfl, Nat.le_of_ble_eq_true rfl⟩) rfl (kd_lt kp44 (by decide)) (ce0 kp44) rfl hl.1 (Nat.le_of_ble_eq_true rfl) dX2_begin_27 ⟨Nat.zero_le _, Nat.zero_le _⟩ (fun u27 H locs hh hw => ?_) rfl
  exact hR _ _ (u27.1, u27.2.1, u27.2.2) _ _ dX2_begin_30 hh hw
theorem ctX2_begin (l : Launch) (D : va_G) (h : Nat → Nat) (cI cL cF cM : ClassId) (a1 : Nat) (a2 : Nat) (a3 : Nat) (a4 : Nat) (ha1 : kd a1 = 4) (ha2 : kd a2 = 3) (ha3 : kd a3 = 1) (ha4 : kd a4 = 0) (F : Nat → Nat → Int32) (L : Nat → Nat → Int64) (r : Nat → Nat → Nat) {K : cS → Prop} (hh : wpX2_begin a1 a2 a3 a4 F L r K) : Cv l yX2_begin wsX2_begin rmX2_begin [.ref (h 102), .ref (h a1), .ref (h a2), .ref (h a3), .ref (h a4)] D (cT cI cL cF cM) (cWu h cI cL cF cM) (F, L, r) K := by
  refine Cv_of (cc := cX2_begin) (maxL := 5) (by decide) rfl (Nat.le_of_ble_eq_true rfl) ?_
  intro p e s m below meth c A Q C hw hR ls hl
  exact tX2_begin_b0 C hR ha1 ha2 ha3 ha4 hh hw hl
theorem cdX2_begin : yX2_begin.cls = RX2 ∧ yX2_begin.cls ≠ "java/lang/invoke/MethodHandle" ∧ yX2_begin.cls ≠ "java/lang/invoke/VarHandle" ∧ (parseMethodDescriptor yX2_begin.desc).map (fun d => d.parameters.length) = some 4 := by decide +kernel
abbrev rmX3_hasWaysOf : Room := { frames := 0, cells := 0, slots := 0, locals := 0 }
set_option maxHeartbeats 4000000 in
set_option maxRecDepth 100000 in
theorem tX3_hasWaysOf_b29 {a0 : Nat} {a1 : Nat} {K : Int32 → cS → Prop} (C : CallFix p m c cX3_hasWaysOf 2 s args wsX3_hasWaysOf RX3) (hR : Rti .boolean p l e rmX3_hasWaysOf s m args below meth c cX3_hasWaysOf D A (cT cI cL cF cM) (cWu h cI cL cF cM) K Q) (ha0 : kd a0 = 3) (ha1 : kd a1 = 3) {F : Nat → Nat → Int32} {L : Nat → Nat → Int64} {r : Nat → Nat → Nat} {k0 : Int32} (hh : wpX3_hasWaysOf_b29 a0 a1 F L r k0 K) {H : Heap} {locs : List Loc} {ls : Array Slot} (hw : Wd D A s (cT cI cL cF cM) (cW h cI cL cF cM F L r) H locs) (hl : lv_has ls 2 [(0, .ref (h a0))]) : W p l e rmX3_hasWaysOf s m args below meth c H locs 0 0 Q (F0 m 29 ls [.int k0]) := by
  unfold wpX3_hasWaysOf_b29 at hh
  obtain ⟨hb29, hh⟩ := hh
  exact hR _ _ _ (F, L, r) _ _ dX3_hasWaysOf_29 (isB_nar hb29) hh hw
set_option maxHeartbeats 4000000 in
set_option maxRecDepth 100000 in
theorem tX3_hasWaysOf_b28 {a0 : Nat} {a1 : Nat} {K : Int32 → cS → Prop} (C : CallFix p m c cX3_hasWaysOf 2 s args wsX3_hasWaysOf RX3) (hR : Rti .boolean p l e rmX3_hasWaysOf s m args below meth c cX3_hasWaysOf D A (cT cI cL cF cM) (cWu h cI cL cF cM) K Q) (ha0 : kd a0 = 3) (ha1 : kd a1 = 3) {F : Nat → Nat → Int32} {L : Nat → Nat → Int64} {r : Nat → Nat → Nat} (hh : wpX3_hasWaysOf_b28 a0 a1 F L r K) {H : Heap} {locs : List Loc} {ls : Array Slot} (hw : Wd D A s (cT cI cL cF cM) (cW h cI cL cF cM F L r) H locs) (hl : lv_has ls 2 [(0, .ref (h a0))]) : W p l e rmX3_hasWaysOf s m args below meth c H locs 0 0 Q (F0 m 28 ls []) := by
  unfold wpX3_hasWaysOf_b28 at hh
  refine lv_iconst (v := (0 : Int32)) C.1 C.2.1 dX3_hasWaysOf_28 (by decide) ?_
  exact tX3_hasWaysOf_b29 C hR ha0 ha1 hh hw hl
set_option maxHeartbeats 4000000 in
set_option maxRecDepth 100000 in
theorem tX3_hasWaysOf_b0 {a0 : Nat} {a1 : Nat} {K : Int32 → cS → Prop} (C : CallFix p m c cX3_hasWaysOf 2 s args wsX3_hasWaysOf RX3) (hR : Rti .boolean p l e rmX3_hasWaysOf s m args below meth c cX3_hasWaysOf D A (cT cI cL cF cM) (cWu h cI cL cF cM) K Q) (ha0 : kd a0 = 3) (ha1 : kd a1 = 3) {F : Nat → Nat → Int32} {L : Nat → Nat → Int64} {r : Nat → Nat → Nat} (hh : wpX3_hasWaysOf_b0 a0 a1 F L r K) {H : Heap} {locs : List Loc} {ls : Array Slot} (hw : Wd D A s (cT cI cL cF cM) (cW h cI cL cF cM F L r) H locs) (hl : lv_has ls 2 [(0, .ref (h a0)), (1, .ref (h a1))]) : W p l e rmX3_hasWaysOf s m args below meth c H locs 0 0 Q (F0 m 0 ls []) := by
  unfold wpX3_hasWaysOf_b0 at hh
  refine lv_aload_n C.1 C.2.1 dX3_hasWaysOf_0 rfl (lv_at hl 0 rfl) ?_
  refine c_get C hw (inC inW3) (kd_lt ha0 (by decide)) (ce3 ha0) rfl 4 (by decide) (wc w_403) (v := .long (L a0 4)) rfl dX3_hasWaysOf_1 ?_
  refine lv_aload_n C.1 C.2.1 dX3_hasWaysOf_4 rfl (lv_at hl 1 rfl) ?_
  refine c_get C hw (inC inW3) (kd_lt ha1 (by decide)) (ce3 ha1) rfl 4 (by decide) (wc w_403) (v := .long (L a1 4)) rfl dX3_hasWaysOf_5 ?_
  refine W.lcmp C.1 C.2.1 dX3_hasWaysOf_8 ?_
  refine lv_if_ne (tgt := 28) C.1 C.2.1 dX3_hasWaysOf_9 (by decide) (fun c9 => ?_) (fun c9 => ?_)
  · replace hh := hh.1 c9
    exact tX3_hasWaysOf_b28 C hR ha0 ha1 hh hw (lv_sub hl [0] rfl)
  · replace hh := hh.2 c9
    refine lv_aload_n C.1 C.2.1 dX3_hasWaysOf_12 rfl (lv_at hl 0 rfl) ?_
    refine c_get C hw (inC inW3) (kd_lt ha0 (by decide)) (ce3 ha0) rfl 5 (by decide) (wc w_404) (v := .long (L a0 5)) rfl dX3_hasWaysOf_13 ?_
    refine lv_aload_n C.1 C.2.1 dX3_hasWaysOf_16 rfl (lv_at hl 1 rfl) ?_
    refine c_get C hw (inC inW3) (kd_lt ha1 (by decide)) (ce3 ha1) rfl 5 (by decide) (wc w_404) (v := .long (L a1 5)) rfl dX3_hasWaysOf_17 ?_
    refine W.lcmp C.1 C.2.1 dX3_hasWaysOf_20 ?_
    refine lv_if_ne (tgt := 28) C.1 C.2.1 dX3_hasWaysOf_21 (by decide) (fun c21 => ?_) (fun c21 => ?_)
    · replace hh := hh.1 c21
      exact tX3_hasWaysOf_b28 C hR ha0 ha1 hh hw (lv_sub hl [0] rfl)
    · replace hh := hh.2 c21
      refine lv_iconst (v := (1 : Int32)) C.1 C.2.1 dX3_hasWaysOf_24 (by decide) ?_
      refine lv_goto (tgt := 29) C.1 C.2.1 dX3_hasWaysOf_25 (by decide) ?_
      exact tX3_hasWaysOf_b29 C hR ha0 ha1 hh hw (lv_sub hl [0] rfl)
theorem ctX3_hasWaysOf (l : Launch) (D : va_G) (h : Nat → Nat) (cI cL cF cM : ClassId) (a0 : Nat) (a1 : Nat) (ha0 : kd a0 = 3) (ha1 : kd a1 = 3) (F : Nat → Nat → Int32) (L : Nat → Nat → Int64) (r : Nat → Nat → Nat) {K : Int32 → cS → Prop} (hh : wpX3_hasWaysOf a0 a1 F L r K) : Ci l yX3_hasWaysOf wsX3_hasWaysOf rmX3_hasWaysOf [.ref (h a0), .ref (h a1)] D (cT cI cL cF cM) (cWu h cI cL cF cM) (F, L, r) K := by
  refine Ci_of (cc := cX3_hasWaysOf) (maxL := 2) (by decide) rfl (Nat.le_of_ble_eq_true rfl) ?_
  intro p e s m below meth c A Q C hw hR ls hl
  exact tX3_hasWaysOf_b0 C hR ha0 ha1 hh hw hl
theorem cdX3_hasWaysOf : yX3_hasWaysOf.cls = RX3 ∧ yX3_hasWaysOf.cls ≠ "java/lang/invoke/MethodHandle" ∧ yX3_hasWaysOf.cls ≠ "java/lang/invoke/VarHandle" ∧ (parseMethodDescriptor yX3_hasWaysOf.desc).map (fun d => d.parameters.length) = some 1 := by decide +kernel
abbrev rmX2_firstDifference : Room := { frames := 3, cells := 0, slots := 0, locals := 87 }
set_option maxHeartbeats 4000000 in
set_option maxRecDepth 100000 in
theorem tX2_firstDifference_b99 {a1 : Nat} {K : Int32 → cS → Prop} (C : CallFix p m c cX2_firstDifference 4 s args wsX2_firstDifference RX2) (hR : Rti .int p l e rmX2_firstDifference s m args below meth c cX2_firstDifference D A (cT cI cL cF cM) (cWu h cI cL cF cM) K Q) (ha1 : kd a1 = 6) {F : Nat → Nat → Int32} {L : Nat → Nat → Int64} {r : Nat → Nat → Nat} {x3 : Int32} (hh : wpX2_firstDifference_b99 a1 F L r x3 K) {H : Heap} {locs : List Loc} {ls : Array Slot} (hw : Wd D A s (cT cI cL cF cM) (cW h cI cL cF cM F L r) H locs) (hl : lv_has ls 4 [(0, .ref (h 102)), (3, .int x3)]) : W p l e rmX2_firstDifference s m args below meth c H locs 0 0 Q (F0 m 99 ls []) := by
  unfold wpX2_firstDifference_b99 at hh
  refine lv_iload_n C.1 C.2.1 dX2_firstDifference_99 rfl (lv_at hl 1 rfl) ?_
  exact hR _ _ _ (F, L, r) _ _ dX2_firstDifference_100 rfl hh hw
set_option maxHeartbeats 4000000 in
set_option maxRecDepth 100000 in
theorem tX2_firstDifference_b35_body {a1 : Nat} {B35 : (Nat → Nat → Int32) → (Nat → Nat → Int64) → (Nat → Nat → Nat) → Int32 → Int32 → Prop} {K : Int32 → cS → Prop} (C : CallFix p m c cX2_firstDifference 4 s args wsX2_firstDifference RX2) (hR : Rti .int p l e rmX2_firstDifference s m args below meth c cX2_firstDifference D A (cT cI cL cF cM) (cWu h cI cL cF cM) K Q) (ha1 : kd a1 = 6) (hB35 : ∀ (F : Nat → Nat → Int32) (L : Nat → Nat → Int64) (r : Nat → Nat → Nat) (x2 : Int32) (x3 : Int32) (H : Heap) (locs : List Loc) (ls : Array Slot), B35 F L r x2 x3 → Wd D A s (cT cI cL cF cM) (cW h cI cL cF cM F L r) H locs → lv_has ls 4 [(0, .ref (h 102)), (1, .ref (h a1)), (2, .int x2), (3, .int x3)] → W p l e rmX2_firstDifference s m args below meth c H locs 0 0 Q (F0 m 35 ls [])) {F : Nat → Nat → Int32} {L : Nat → Nat → Int64} {r : Nat → Nat → Nat} {x2 : Int32} {x3 : Int32} (hh : wpX2_firstDifference_b35_body B35 a1 F L r x2 x3 K) {H : Heap} {locs : List Loc} {ls : Array Slot} (hw : Wd D A s (cT cI cL cF cM) (cW h cI cL cF cM F L r) H locs) (hl : lv_has ls 4 [(0, .ref (h 102)), (1, .ref (h a1)), (2, .int x2), (3, .int x3)]) : W p l e rmX2_firstDifference s m args below meth c H locs 0 0 Q (F0 m 35 ls []) := by
  unfold wpX2_firstDifference_b35_body at hh
  refine lv_iload_n C.1 C.2.1 dX2_firstDifference_35 rfl (lv_at hl 3 rfl) ?_
  refine lv_iload_n C.1 C.2.1 dX2_firstDifference_36 rfl (lv_at hl 2 rfl) ?_
  refine lv_icmp_gt (tgt := 107) C.1 C.2.1 dX2_firstDifference_37 (by decide) (fun c37 => ?_) (fun c37 => ?_)
  · replace hh := hh.1 c37
    refine lv_iconst (v := (0 : Int32)) C.1 C.2.1 dX2_firstDifference_107 (by decide) ?_
    exact hR _ _ _ (F, L, r) _ _ dX2_firstDifference_108 rfl hh hw
  · replace hh := hh.2 c37
    refine lv_aload_n C.1 C.2.1 dX2_firstDifference_40 rfl (lv_at hl 0 rfl) ?_
    refine c_get C hw (inC inW2) (kd_lt kp102 (by decide)) (ce2 kp102) rfl 9 (by decide) (wc w_542) (v := .ref (h 94)) rfl dX2_firstDifference_41 ?_
    refine lv_aload_n C.1 C.2.1 dX2_firstDifference_44 rfl (lv_at hl 1 rfl) ?_
    refine lv_aload_n C.1 C.2.1 dX2_firstDifference_45 rfl (lv_at hl 0 rfl) ?_
    refine c_get C hw (inC inW2) (kd_lt kp102 (by decide)) (ce2 kp102) rfl 7 (by decide) (wc w_540) (v := .ref (h 70)) rfl dX2_firstDifference_46 ?_
    refine c_Vv C hw (ctX3_obey l D h cI cL cF cM 94 a1 70 kp94 ha1 kp70 F L r hh) (cwV 2 C.2.2.2.2 (gd_V w_1262 w_993 w_994 w_121 w_995) rfl rfl rfl cdX3_obey ⟨Nat.le_of_ble_eq_true rfl, Nat.le_of_ble_eq_true rfl⟩) rfl (kd_lt kp94 (by decide)) (ce3 kp94) rfl hl.1 (Nat.le_of_ble_eq_true rfl) dX2_firstDifference_49 ⟨Nat.zero_le _, Nat.zero_le _⟩ (fun u49 H locs hh hw => ?_) rfl
    refine lv_aload_n C.1 C.2.1 dX2_firstDifference_52 rfl (lv_at hl 0 rfl) ?_
    refine c_get C hw (inC inW2) (kd_lt kp102 (by decide)) (ce2 kp102) rfl 10 (by decide) (wc w_543) (v := .ref (h 45)) rfl dX2_firstDifference_53 ?_
    refine lv_aload_n C.1 C.2.1 dX2_firstDifference_56 rfl (lv_at hl 0 rfl) ?_
    refine c_get C hw (inC inW2) (kd_lt kp102 (by decide)) (ce2 kp102) rfl 4 (by decide) (wc w_537) (v := .ref (h (u49.2.2 102 4))) rfl dX2_firstDifference_57 ?_
    refine lv_aload_n C.1 C.2.1 dX2_firstDifference_60 rfl (lv_at hl 0 rfl) ?_
    refine c_get C hw (inC inW2) (kd_lt kp102 (by decide)) (ce2 kp102) rfl 8 (by decide) (wc w_541) (v := .ref (h 92)) rfl dX2_firstDifference_61 ?_
    refine lv_aload_n C.1 C.2.1 dX2_firstDifference_64 rfl (lv_at hl 0 rfl) ?_
    refine c_get C hw (inC inW2) (kd_lt kp102 (by decide)) (ce2 kp102) rfl 7 (by decide) (wc w_540) (v := .ref (h 70)) rfl dX2_firstDifference_65 ?_
    obtain ⟨hk0, hh⟩ := hh
    refine c_Vv C hw (ctX0_step l D h cI cL cF cM 45 (u49.2.2 102 4) 92 70 kp45 hk0 kp92 kp70 u49.1 u49.2.1 u49.2.2 hh) (cwV 3 C.2.2.2.2 (gd_V w_1263 w_1164 w_1165 w_122 w_1166) rfl rfl rfl cdX0_step ⟨Nat.le_of_ble_eq_true rfl, Nat.le_of_ble_eq_true rfl⟩) rfl (kd_lt kp45 (by decide)) (ce0 kp45) rfl hl.1 (Nat.le_of_ble_eq_true rfl) dX2_firstDifference_68 ⟨Nat.zero_le _, Nat.zero_le _⟩ (fun u68 H locs hh hw => ?_) rfl
    refine lv_aload_n C.1 C.2.1 dX2_firstDifference_71 rfl (lv_at hl 0 rfl) ?_
    refine c_get C hw (inC inW2) (kd_lt kp102 (by decide)) (ce2 kp102) rfl 8 (by decide) (wc w_541) (v := .ref (h 92)) rfl dX2_firstDifference_72 ?_
    refine lv_aload_n C.1 C.2.1 dX2_firstDifference_75 rfl (lv_at hl 0 rfl) ?_
    refine c_get C hw (inC inW2) (kd_lt kp102 (by decide)) (ce2 kp102) rfl 9 (by decide) (wc w_542) (v := .ref (h 94)) rfl dX2_firstDifference_76 ?_
    refine c_Vi C hw (ctX3_standsAs l D h cI cL cF cM 92 94 kp92 kp94 u68.1 u68.2.1 u68.2.2 hh) (cwV 1 C.2.2.2.2 (gd_V w_1264 w_1150 w_1151 w_121 w_1152) rfl rfl rfl cdX3_standsAs ⟨Nat.le_of_ble_eq_true rfl, Nat.le_of_ble_eq_true rfl⟩) rfl (kd_lt kp92 (by decide)) (ce3 kp92) rfl hl.1 (Nat.le_of_ble_eq_true rfl) dX2_firstDifference_79 ⟨Nat.zero_le _, Nat.zero_le _⟩ (fun r79 u79 H locs hh hw => ?_) rfl
    refine lv_if_eq (tgt := 99) C.1 C.2.1 dX2_firstDifference_82 (by decide) (fun c82 => ?_) (fun c82 => ?_)
    · replace hh := hh.1 c82
      exact tX2_firstDifference_b99 C hR ha1 hh hw (lv_sub hl [0, 3] rfl)
    · replace hh := hh.2 c82
      refine lv_aload_n C.1 C.2.1 dX2_firstDifference_85 rfl (lv_at hl 0 rfl) ?_
      refine c_get C hw (inC inW2) (kd_lt kp102 (by decide)) (ce2 kp102) rfl 8 (by decide) (wc w_541) (v := .ref (h 92)) rfl dX2_firstDifference_86 ?_
      refine lv_aload_n C.1 C.2.1 dX2_firstDifference_89 rfl (lv_at hl 0 rfl) ?_
      refine c_get C hw (inC inW2) (kd_lt kp102 (by decide)) (ce2 kp102) rfl 9 (by decide) (wc w_542) (v := .ref (h 94)) rfl dX2_firstDifference_90 ?_
      refine c_Vi C hw (ctX3_hasWaysOf l D h cI cL cF cM 92 94 kp92 kp94 u79.1 u79.2.1 u79.2.2 hh) (cwV 1 C.2.2.2.2 (gd_V w_1265 w_1266 w_1267 w_121 w_1268) rfl rfl rfl cdX3_hasWaysOf ⟨Nat.le_of_ble_eq_true rfl, Nat.le_of_ble_eq_true rfl⟩) rfl (kd_lt kp92 (by decide)) (ce3 kp92) rfl hl.1 (Nat.le_of_ble_eq_true rfl) dX2_firstDifference_93 ⟨Nat.zero_le _, Nat.zero_le _⟩ (fun r93 u93 H locs hh hw => ?_) rfl
      refine lv_if_ne (tgt := 101) C.1 C.2.1 dX2_firstDifference_96 (by decide) (fun c96 => ?_) (fun c96 => ?_)
      · replace hh := hh.1 c96
        refine lv_iinc (v := x3 + (1 : Int32)) (lv' := [(3, .int (x3 + (1 : Int32))), (0, .ref (h 102)), (1, .ref (h a1)), (2, .int x2)]) C.1 C.2.1 dX2_firstDifference_101 hl (k := 3) rfl rfl (by decide) rfl (fun ls hl => ?_)
        refine lv_goto (tgt := 35) C.1 C.2.1 dX2_firstDifference_104 (by decide) ?_
        exact hB35 _ _ _ _ _ _ _ _ hh hw (lv_sub hl [1, 2, 3, 0] rfl)
      · replace hh := hh.2 c96
        exact tX2_firstDifference_b99 C hR ha1 hh hw (lv_sub hl [0, 3] rfl)
theorem tX2_firstDifference_b35 {a1 : Nat} {K : Int32 → cS → Prop} (C : CallFix p m c cX2_firstDifference 4 s args wsX2_firstDifference RX2) (hR : Rti .int p l e rmX2_firstDifference s m args below meth c cX2_firstDifference D A (cT cI cL cF cM) (cWu h cI cL cF cM) K Q) (ha1 : kd a1 = 6) (n : Nat) : ∀ (F : Nat → Nat → Int32) (L : Nat → Nat → Int64) (r : Nat → Nat → Nat) (x2 : Int32) (x3 : Int32) (H : Heap) (locs : List Loc) (ls : Array Slot), wpX2_firstDifference_b35 a1 n F L r x2 x3 K → Wd D A s (cT cI cL cF cM) (cW h cI cL cF cM F L r) H locs → lv_has ls 4 [(0, .ref (h 102)), (1, .ref (h a1)), (2, .int x2), (3, .int x3)] → W p l e rmX2_firstDifference s m args below meth c H locs 0 0 Q (F0 m 35 ls []) := by
  induction n with
  | zero => intro F L r x2 x3 H locs ls hh; exact hh.elim
  | succ n ih => intro F L r x2 x3 H locs ls hh hw hl; exact tX2_firstDifference_b35_body C hR ha1 ih hh hw hl
set_option maxHeartbeats 4000000 in
set_option maxRecDepth 100000 in
theorem tX2_firstDifference_b0 {a1 : Nat} {K : Int32 → cS → Prop} (C : CallFix p m c cX2_firstDifference 4 s args wsX2_firstDifference RX2) (hR : Rti .int p l e rmX2_firstDifference s m args below meth c cX2_firstDifference D A (cT cI cL cF cM) (cWu h cI cL cF cM) K Q) (ha1 : kd a1 = 6) {F : Nat → Nat → Int32} {L : Nat → Nat → Int64} {r : Nat → Nat → Nat} {x2 : Int32} (hh : wpX2_firstDifference_b0 a1 F L r x2 K) {H : Heap} {locs : List Loc} {ls : Array Slot} (hw : Wd D A s (cT cI cL cF cM) (cW h cI cL cF cM F L r) H locs) (hl : lv_has ls 4 [(0, .ref (h 102)), (1, .ref (h a1)), (2, .int x2)]) : W p l e rmX2_firstDifference s m args below meth c H locs 0 0 Q (F0 m 0 ls []) := by
  unfold wpX2_firstDifference_b0 at hh
  refine lv_aload_n C.1 C.2.1 dX2_firstDifference_0 rfl (lv_at hl 0 rfl) ?_
  refine c_get C hw (inC inW2) (kd_lt kp102 (by decide)) (ce2 kp102) rfl 9 (by decide) (wc w_542) (v := .ref (h 94)) rfl dX2_firstDifference_1 ?_
  refine lv_aload_n C.1 C.2.1 dX2_firstDifference_4 rfl (lv_at hl 0 rfl) ?_
  refine c_get C hw (inC inW2) (kd_lt kp102 (by decide)) (ce2 kp102) rfl 5 (by decide) (wc w_538) (v := .ref (h 90)) rfl dX2_firstDifference_5 ?_
  refine c_Vv C hw (ctX3_copyFrom l D h cI cL cF cM 94 90 kp94 kp90 F L r hh) (cwV 1 C.2.2.2.2 (gd_V w_1242 w_1243 w_1244 w_121 w_1245) rfl rfl rfl cdX3_copyFrom ⟨Nat.le_of_ble_eq_true rfl, Nat.le_of_ble_eq_true rfl⟩) rfl (kd_lt kp94 (by decide)) (ce3 kp94) rfl hl.1 (Nat.le_of_ble_eq_true rfl) dX2_firstDifference_8 ⟨Nat.zero_le _, Nat.zero_le _⟩ (fun u8 H locs hh hw => ?_) rfl
  refine lv_aload_n C.1 C.2.1 dX2_firstDifference_11 rfl (lv_at hl 0 rfl) ?_
  refine c_get C hw (inC inW2) (kd_lt kp102 (by decide)) (ce2 kp102) rfl 8 (by decide) (wc w_541) (v := .ref (h 92)) rfl dX2_firstDifference_12 ?_
  refine lv_aload_n C.1 C.2.1 dX2_firstDifference_15 rfl (lv_at hl 0 rfl) ?_
  refine c_get C hw (inC inW2) (kd_lt kp102 (by decide)) (ce2 kp102) rfl 5 (by decide) (wc w_538) (v := .ref (h 90)) rfl dX2_firstDifference_16 ?_
  refine c_Vv C hw (ctX3_copyFrom l D h cI cL cF cM 92 90 kp92 kp90 u8.1 u8.2.1 u8.2.2 hh) (cwV 1 C.2.2.2.2 (gd_V w_1242 w_1243 w_1244 w_121 w_1245) rfl rfl rfl cdX3_copyFrom ⟨Nat.le_of_ble_eq_true rfl, Nat.le_of_ble_eq_true rfl⟩) rfl (kd_lt kp92 (by decide)) (ce3 kp92) rfl hl.1 (Nat.le_of_ble_eq_true rfl) dX2_firstDifference_19 ⟨Nat.zero_le _, Nat.zero_le _⟩ (fun u19 H locs hh hw => ?_) rfl
  refine lv_aload_n C.1 C.2.1 dX2_firstDifference_22 rfl (lv_at hl 0 rfl) ?_
  refine c_get C hw (inC inW2) (kd_lt kp102 (by decide)) (ce2 kp102) rfl 10 (by decide) (wc w_543) (v := .ref (h 45)) rfl dX2_firstDifference_23 ?_
  refine lv_aload_n C.1 C.2.1 dX2_firstDifference_26 rfl (lv_at hl 0 rfl) ?_
  refine c_get C hw (inC inW2) (kd_lt kp102 (by decide)) (ce2 kp102) rfl 6 (by decide) (wc w_539) (v := .ref (h 44)) rfl dX2_firstDifference_27 ?_
  refine c_Vv C hw (ctX0_jamLike l D h cI cL cF cM 45 44 kp45 kp44 u19.1 u19.2.1 u19.2.2 hh) (cwV 1 C.2.2.2.2 (gd_V w_1250 w_1251 w_1252 w_122 w_1253) rfl rfl rfl cdX0_jamLike ⟨Nat.le_of_ble_eq_true rfl, Nat.le_of_ble_eq_true rfl⟩) rfl (kd_lt kp45 (by decide)) (ce0 kp45) rfl hl.1 (Nat.le_of_ble_eq_true rfl) dX2_firstDifference_30 ⟨Nat.zero_le _, Nat.zero_le _⟩ (fun u30 H locs hh hw => ?_) rfl
  refine lv_iconst (v := (1 : Int32)) C.1 C.2.1 dX2_firstDifference_33 (by decide) ?_
  refine lv_istore_n (lv' := [(3, .int (1 : Int32)), (0, .ref (h 102)), (1, .ref (h a1)), (2, .int x2)]) C.1 C.2.1 dX2_firstDifference_34 rfl hl (by decide) rfl (fun ls hl => ?_)
  obtain ⟨n, hh⟩ := hh
  exact tX2_firstDifference_b35 C hR ha1 n _ _ _ _ _ _ _ _ hh hw (lv_sub hl [1, 2, 3, 0] rfl)
theorem ctX2_firstDifference (l : Launch) (D : va_G) (h : Nat → Nat) (cI cL cF cM : ClassId) (a1 : Nat) (ha1 : kd a1 = 6) (F : Nat → Nat → Int32) (L : Nat → Nat → Int64) (r : Nat → Nat → Nat) (x2 : Int32) {K : Int32 → cS → Prop} (hh : wpX2_firstDifference a1 F L r x2 K) : Ci l yX2_firstDifference wsX2_firstDifference rmX2_firstDifference [.ref (h 102), .ref (h a1), .int x2] D (cT cI cL cF cM) (cWu h cI cL cF cM) (F, L, r) K := by
  refine Ci_of (cc := cX2_firstDifference) (maxL := 4) (by decide) rfl (Nat.le_of_ble_eq_true rfl) ?_
  intro p e s m below meth c A Q C hw hR ls hl
  exact tX2_firstDifference_b0 C hR ha1 hh hw hl
theorem cdX2_firstDifference : yX2_firstDifference.cls = RX2 ∧ yX2_firstDifference.cls ≠ "java/lang/invoke/MethodHandle" ∧ yX2_firstDifference.cls ≠ "java/lang/invoke/VarHandle" ∧ (parseMethodDescriptor yX2_firstDifference.desc).map (fun d => d.parameters.length) = some 2 := by decide +kernel
abbrev rmX10_same : Room := { frames := 4, cells := 0, slots := 0, locals := 110 }
set_option maxHeartbeats 4000000 in
set_option maxRecDepth 100000 in
theorem tX10_same_b0 {K : Int32 → cS → Prop} (C : CallFix p m c cX10_same 2 s args wsX10_same RX10) (hR : Rti .int p l e rmX10_same s m args below meth c cX10_same D A (cT cI cL cF cM) (cWu h cI cL cF cM) K Q) {F : Nat → Nat → Int32} {L : Nat → Nat → Int64} {r : Nat → Nat → Nat} {x1 : Int32} (hh : wpX10_same_b0 F L r x1 K) {H : Heap} {locs : List Loc} {ls : Array Slot} (hw : Wd D A s (cT cI cL cF cM) (cW h cI cL cF cM F L r) H locs) (hl : lv_has ls 2 [(0, .ref (h 0)), (1, .int x1)]) : W p l e rmX10_same s m args below meth c H locs 0 0 Q (F0 m 0 ls []) := by
  unfold wpX10_same_b0 at hh
  refine lv_iload_n C.1 C.2.1 dX10_same_0 rfl (lv_at hl 1 rfl) ?_
  refine wd_Si C hw (ctX2_isLength l D x1 hh) (va_cwS 1 C.2.2.2.2 (gd_S w_1235 w_1236 (ini_cls rfl w_124) w_1237) rfl rfl rfl cdX2_isLength ⟨Nat.le_of_ble_eq_true rfl, Nat.le_of_ble_eq_true rfl⟩) rfl hl.1 (Nat.le_of_ble_eq_true rfl) dX10_same_1 ⟨Nat.zero_le _, Nat.zero_le _⟩ (fun r1 H locs hh hw => ?_) rfl
  refine lv_if_ne (tgt := 9) C.1 C.2.1 dX10_same_4 (by decide) (fun c4 => ?_) (fun c4 => ?_)
  · replace hh := hh.1 c4
    refine lv_aload_n C.1 C.2.1 dX10_same_9 rfl (lv_at hl 0 rfl) ?_
    refine c_get C hw (inC inW10) (kd_lt kp0 (by decide)) (ce10 kp0) rfl 14 (by decide) (wc w_584) (v := .ref (h 102)) rfl dX10_same_10 ?_
    refine lv_aload_n C.1 C.2.1 dX10_same_13 rfl (lv_at hl 0 rfl) ?_
    refine c_get C hw (inC inW10) (kd_lt kp0 (by decide)) (ce10 kp0) rfl 4 (by decide) (wc w_574) (v := .ref (h (r 0 4))) rfl dX10_same_14 ?_
    refine lv_aload_n C.1 C.2.1 dX10_same_17 rfl (lv_at hl 0 rfl) ?_
    refine c_get C hw (inC inW10) (kd_lt kp0 (by decide)) (ce10 kp0) rfl 6 (by decide) (wc w_576) (v := .ref (h 74)) rfl dX10_same_18 ?_
    refine lv_aload_n C.1 C.2.1 dX10_same_21 rfl (lv_at hl 0 rfl) ?_
    refine c_get C hw (inC inW10) (kd_lt kp0 (by decide)) (ce10 kp0) rfl 5 (by decide) (wc w_575) (v := .ref (h 46)) rfl dX10_same_22 ?_
    refine lv_aload_n C.1 C.2.1 dX10_same_25 rfl (lv_at hl 0 rfl) ?_
    refine c_get C hw (inC inW10) (kd_lt kp0 (by decide)) (ce10 kp0) rfl 7 (by decide) (wc w_577) (v := .ref (h 43)) rfl dX10_same_26 ?_
    obtain ⟨hk0, hh⟩ := hh
    refine c_Vv C hw (ctX2_begin l D h cI cL cF cM (r 0 4) 74 46 43 hk0 kp74 kp46 kp43 F L r hh) (cwV 4 C.2.2.2.2 (gd_V w_1238 w_1239 w_1240 w_124 w_1241) rfl rfl rfl cdX2_begin ⟨Nat.le_of_ble_eq_true rfl, Nat.le_of_ble_eq_true rfl⟩) rfl (kd_lt kp102 (by decide)) (ce2 kp102) rfl hl.1 (Nat.le_of_ble_eq_true rfl) dX10_same_29 ⟨Nat.zero_le _, Nat.zero_le _⟩ (fun u29 H locs hh hw => ?_) rfl
    refine lv_aload_n C.1 C.2.1 dX10_same_32 rfl (lv_at hl 0 rfl) ?_
    refine c_get C hw (inC inW10) (kd_lt kp0 (by decide)) (ce10 kp0) rfl 14 (by decide) (wc w_584) (v := .ref (h 102)) rfl dX10_same_33 ?_
    refine lv_aload_n C.1 C.2.1 dX10_same_36 rfl (lv_at hl 0 rfl) ?_
    refine c_get C hw (inC inW10) (kd_lt kp0 (by decide)) (ce10 kp0) rfl 3 (by decide) (wc w_573) (v := .ref (h (u29.2.2 0 3))) rfl dX10_same_37 ?_
    refine lv_iload_n C.1 C.2.1 dX10_same_40 rfl (lv_at hl 1 rfl) ?_
    obtain ⟨hk1, hh⟩ := hh
    refine c_Vi C hw (ctX2_firstDifference l D h cI cL cF cM (u29.2.2 0 3) hk1 u29.1 u29.2.1 u29.2.2 x1 hh) (cwV 2 C.2.2.2.2 (gd_V w_1258 w_1259 w_1260 w_124 w_1261) rfl rfl rfl cdX2_firstDifference ⟨Nat.le_of_ble_eq_true rfl, Nat.le_of_ble_eq_true rfl⟩) rfl (kd_lt kp102 (by decide)) (ce2 kp102) rfl hl.1 (Nat.le_of_ble_eq_true rfl) dX10_same_41 ⟨Nat.zero_le _, Nat.zero_le _⟩ (fun r41 u41 H locs hh hw => ?_) rfl
    exact hR _ _ _ (u41.1, u41.2.1, u41.2.2) _ _ dX10_same_44 rfl hh hw
  · replace hh := hh.2 c4
    refine lv_iconst (v := (-1 : Int32)) C.1 C.2.1 dX10_same_7 (by decide) ?_
    exact hR _ _ _ (F, L, r) _ _ dX10_same_8 rfl hh hw
theorem ctX10_same (l : Launch) (D : va_G) (h : Nat → Nat) (cI cL cF cM : ClassId) (F : Nat → Nat → Int32) (L : Nat → Nat → Int64) (r : Nat → Nat → Nat) (x1 : Int32) {K : Int32 → cS → Prop} (hh : wpX10_same F L r x1 K) : Ci l yX10_same wsX10_same rmX10_same [.ref (h 0), .int x1] D (cT cI cL cF cM) (cWu h cI cL cF cM) (F, L, r) K := by
  refine Ci_of (cc := cX10_same) (maxL := 2) (by decide) rfl (Nat.le_of_ble_eq_true rfl) ?_
  intro p e s m below meth c A Q C hw hR ls hl
  exact tX10_same_b0 C hR hh hw hl
theorem cdX10_same : yX10_same.cls = RX10 ∧ yX10_same.cls ≠ "java/lang/invoke/MethodHandle" ∧ yX10_same.cls ≠ "java/lang/invoke/VarHandle" ∧ (parseMethodDescriptor yX10_same.desc).map (fun d => d.parameters.length) = some 1 := by decide +kernel
end
