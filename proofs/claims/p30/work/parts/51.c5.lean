section
variable {p : Program} {l : Launch} {e : Env} {s : State} {m : MethodId} {args : Array Value} {below : List Frame} {meth : Method} {c : Code} {D : va_G} {A : Nat → Prop} {h : Nat → Nat} {cI cL cF cM : ClassId} {Q : State → Prop}
abbrev rmX1_sideOfWall : Room := { frames := 0, cells := 0, slots := 0, locals := 0 }
set_option maxHeartbeats 4000000 in
set_option maxRecDepth 100000 in
theorem tX1_sideOfWall_b20 {a0 : Nat} {K : Int32 → cS → Prop} (C : CallFix p m c cX1_sideOfWall 2 s args wsX1_sideOfWall RX1) (hR : Rti .int p l e rmX1_sideOfWall s m args below meth c cX1_sideOfWall D A (cT cI cL cF cM) (cWu h cI cL cF cM) K Q) (ha0 : kd a0 = 1) {F : Nat → Nat → Int32} {L : Nat → Nat → Int64} {r : Nat → Nat → Nat} {k0 : Int32} (hh : wpX1_sideOfWall_b20 a0 F L r k0 K) {H : Heap} {locs : List Loc} {ls : Array Slot} (hw : Wd D A s (cT cI cL cF cM) (cW h cI cL cF cM F L r) H locs) (hl : lv_has ls 2 [(0, .ref (h a0))]) : W p l e rmX1_sideOfWall s m args below meth c H locs 0 0 Q (F0 m 20 ls [.int k0]) := by
  unfold wpX1_sideOfWall_b20 at hh
  exact hR _ _ _ (F, L, r) _ _ dX1_sideOfWall_20 rfl hh hw
set_option maxHeartbeats 4000000 in
set_option maxRecDepth 100000 in
theorem tX1_sideOfWall_b0 {a0 : Nat} {K : Int32 → cS → Prop} (C : CallFix p m c cX1_sideOfWall 2 s args wsX1_sideOfWall RX1) (hR : Rti .int p l e rmX1_sideOfWall s m args below meth c cX1_sideOfWall D A (cT cI cL cF cM) (cWu h cI cL cF cM) K Q) (ha0 : kd a0 = 1) {F : Nat → Nat → Int32} {L : Nat → Nat → Int64} {r : Nat → Nat → Nat} {x1 : Int32} (hh : wpX1_sideOfWall_b0 a0 F L r x1 K) {H : Heap} {locs : List Loc} {ls : Array Slot} (hw : Wd D A s (cT cI cL cF cM) (cW h cI cL cF cM F L r) H locs) (hl : lv_has ls 2 [(0, .ref (h a0)), (1, .int x1)]) : W p l e rmX1_sideOfWall s m args below meth c H locs 0 0 Q (F0 m 0 ls []) := by
  unfold wpX1_sideOfWall_b0 at hh
  refine lv_iload_n C.1 C.2.1 dX1_sideOfWall_0 rfl (lv_at hl 1 rfl) ?_
  refine lv_aload_n C.1 C.2.1 dX1_sideOfWall_1 rfl (lv_at hl 0 rfl) ?_
  refine c_get C hw (inC inW1) (kd_lt ha0 (by decide)) (ce1 ha0) rfl 1 (by decide) (wc w_357) (v := .int (F a0 1)) rfl dX1_sideOfWall_2 ?_
  refine lv_aload_n C.1 C.2.1 dX1_sideOfWall_5 rfl (lv_at hl 0 rfl) ?_
  refine c_get C hw (inC inW1) (kd_lt ha0 (by decide)) (ce1 ha0) rfl 0 (by decide) (wc w_356) (v := .int (F a0 0)) rfl dX1_sideOfWall_6 ?_
  refine lv_iconst (v := (1 : Int32)) C.1 C.2.1 dX1_sideOfWall_9 (by decide) ?_
  refine lv_isub C.1 C.2.1 dX1_sideOfWall_10 ?_
  refine lv_imul C.1 C.2.1 dX1_sideOfWall_11 ?_
  refine lv_icmp_ge (tgt := 19) C.1 C.2.1 dX1_sideOfWall_12 (by decide) (fun c12 => ?_) (fun c12 => ?_)
  · replace hh := hh.1 c12
    refine lv_iconst (v := (2 : Int32)) C.1 C.2.1 dX1_sideOfWall_19 (by decide) ?_
    exact tX1_sideOfWall_b20 C hR ha0 hh hw (lv_sub hl [0] rfl)
  · replace hh := hh.2 c12
    refine lv_iconst (v := (1 : Int32)) C.1 C.2.1 dX1_sideOfWall_15 (by decide) ?_
    refine lv_goto (tgt := 20) C.1 C.2.1 dX1_sideOfWall_16 (by decide) ?_
    exact tX1_sideOfWall_b20 C hR ha0 hh hw (lv_sub hl [0] rfl)
theorem ctX1_sideOfWall (l : Launch) (D : va_G) (h : Nat → Nat) (cI cL cF cM : ClassId) (a0 : Nat) (ha0 : kd a0 = 1) (F : Nat → Nat → Int32) (L : Nat → Nat → Int64) (r : Nat → Nat → Nat) (x1 : Int32) {K : Int32 → cS → Prop} (hh : wpX1_sideOfWall a0 F L r x1 K) : Ci l yX1_sideOfWall wsX1_sideOfWall rmX1_sideOfWall [.ref (h a0), .int x1] D (cT cI cL cF cM) (cWu h cI cL cF cM) (F, L, r) K := by
  refine Ci_of (cc := cX1_sideOfWall) (maxL := 2) (by decide) rfl (Nat.le_of_ble_eq_true rfl) ?_
  intro p e s m below meth c A Q C hw hR ls hl
  exact tX1_sideOfWall_b0 C hR ha0 hh hw hl
theorem cdX1_sideOfWall : yX1_sideOfWall.cls = RX1 ∧ yX1_sideOfWall.cls ≠ "java/lang/invoke/MethodHandle" ∧ yX1_sideOfWall.cls ≠ "java/lang/invoke/VarHandle" ∧ (parseMethodDescriptor yX1_sideOfWall.desc).map (fun d => d.parameters.length) = some 1 := by decide +kernel
abbrev rmX1_raiseWalls : Room := { frames := 2, cells := 0, slots := 0, locals := 46 }
set_option maxHeartbeats 4000000 in
set_option maxRecDepth 100000 in
theorem tX1_raiseWalls_b37 {a0 : Nat} {B6 : (Nat → Nat → Int32) → (Nat → Nat → Int64) → (Nat → Nat → Nat) → Int32 → Int32 → Prop} {K : cS → Prop} (C : CallFix p m c cX1_raiseWalls 3 s args wsX1_raiseWalls RX1) (hR : Rtv p l e rmX1_raiseWalls s m args below meth c cX1_raiseWalls D A (cT cI cL cF cM) (cWu h cI cL cF cM) K Q) (ha0 : kd a0 = 1) (hB6 : ∀ (F : Nat → Nat → Int32) (L : Nat → Nat → Int64) (r : Nat → Nat → Nat) (x1 : Int32) (x2 : Int32) (H : Heap) (locs : List Loc) (ls : Array Slot), B6 F L r x1 x2 → Wd D A s (cT cI cL cF cM) (cW h cI cL cF cM F L r) H locs → lv_has ls 3 [(0, .ref (h a0)), (1, .int x1), (2, .int x2)] → W p l e rmX1_raiseWalls s m args below meth c H locs 0 0 Q (F0 m 6 ls [])) {F : Nat → Nat → Int32} {L : Nat → Nat → Int64} {r : Nat → Nat → Nat} {x1 : Int32} {x2 : Int32} (hh : wpX1_raiseWalls_b37 B6 a0 F L r x1 x2 K) {H : Heap} {locs : List Loc} {ls : Array Slot} (hw : Wd D A s (cT cI cL cF cM) (cW h cI cL cF cM F L r) H locs) (hl : lv_has ls 3 [(0, .ref (h a0)), (1, .int x1), (2, .int x2)]) : W p l e rmX1_raiseWalls s m args below meth c H locs 0 0 Q (F0 m 37 ls []) := by
  unfold wpX1_raiseWalls_b37 at hh
  refine lv_iinc (v := x2 + (1 : Int32)) (lv' := [(2, .int (x2 + (1 : Int32))), (0, .ref (h a0)), (1, .int x1)]) C.1 C.2.1 dX1_raiseWalls_37 hl (k := 2) rfl rfl (by decide) rfl (fun ls hl => ?_)
  refine lv_goto (tgt := 6) C.1 C.2.1 dX1_raiseWalls_40 (by decide) ?_
  exact hB6 _ _ _ _ _ _ _ _ hh hw (lv_sub hl [1, 2, 0] rfl)
set_option maxHeartbeats 4000000 in
set_option maxRecDepth 100000 in
theorem tX1_raiseWalls_b6_body {a0 : Nat} {B6 : (Nat → Nat → Int32) → (Nat → Nat → Int64) → (Nat → Nat → Nat) → Int32 → Int32 → Prop} {K : cS → Prop} (C : CallFix p m c cX1_raiseWalls 3 s args wsX1_raiseWalls RX1) (hR : Rtv p l e rmX1_raiseWalls s m args below meth c cX1_raiseWalls D A (cT cI cL cF cM) (cWu h cI cL cF cM) K Q) (ha0 : kd a0 = 1) (hB6 : ∀ (F : Nat → Nat → Int32) (L : Nat → Nat → Int64) (r : Nat → Nat → Nat) (x1 : Int32) (x2 : Int32) (H : Heap) (locs : List Loc) (ls : Array Slot), B6 F L r x1 x2 → Wd D A s (cT cI cL cF cM) (cW h cI cL cF cM F L r) H locs → lv_has ls 3 [(0, .ref (h a0)), (1, .int x1), (2, .int x2)] → W p l e rmX1_raiseWalls s m args below meth c H locs 0 0 Q (F0 m 6 ls [])) {F : Nat → Nat → Int32} {L : Nat → Nat → Int64} {r : Nat → Nat → Nat} {x1 : Int32} {x2 : Int32} (hh : wpX1_raiseWalls_b6_body B6 a0 F L r x1 x2 K) {H : Heap} {locs : List Loc} {ls : Array Slot} (hw : Wd D A s (cT cI cL cF cM) (cW h cI cL cF cM F L r) H locs) (hl : lv_has ls 3 [(0, .ref (h a0)), (1, .int x1), (2, .int x2)]) : W p l e rmX1_raiseWalls s m args below meth c H locs 0 0 Q (F0 m 6 ls []) := by
  unfold wpX1_raiseWalls_b6_body at hh
  refine lv_iload_n C.1 C.2.1 dX1_raiseWalls_6 rfl (lv_at hl 2 rfl) ?_
  refine lv_aload_n C.1 C.2.1 dX1_raiseWalls_7 rfl (lv_at hl 0 rfl) ?_
  refine c_Vi C hw (ctX1_wallNumbers l D h cI cL cF cM a0 ha0 F L r hh) (cwV 0 C.2.2.2.2 (gd_V w_1107 w_1100 w_1101 w_120 w_1102) rfl rfl rfl cdX1_wallNumbers ⟨Nat.le_of_ble_eq_true rfl, Nat.le_of_ble_eq_true rfl⟩) rfl (kd_lt ha0 (by decide)) (ce1 ha0) rfl hl.1 (Nat.le_of_ble_eq_true rfl) dX1_raiseWalls_8 ⟨Nat.zero_le _, Nat.zero_le _⟩ (fun r8 u8 H locs hh hw => ?_) rfl
  refine lv_icmp_ge (tgt := 43) C.1 C.2.1 dX1_raiseWalls_11 (by decide) (fun c11 => ?_) (fun c11 => ?_)
  · replace hh := hh.1 c11
    exact hR _ _ (u8.1, u8.2.1, u8.2.2) _ _ dX1_raiseWalls_43 hh hw
  · replace hh := hh.2 c11
    refine lv_iload_n C.1 C.2.1 dX1_raiseWalls_14 rfl (lv_at hl 1 rfl) ?_
    refine lv_iload_n C.1 C.2.1 dX1_raiseWalls_15 rfl (lv_at hl 2 rfl) ?_
    refine g_ishr C dX1_raiseWalls_16 ?_
    refine lv_iconst (v := (1 : Int32)) C.1 C.2.1 dX1_raiseWalls_17 (by decide) ?_
    refine lv_iand C.1 C.2.1 dX1_raiseWalls_18 ?_
    refine lv_if_eq (tgt := 37) C.1 C.2.1 dX1_raiseWalls_19 (by decide) (fun c19 => ?_) (fun c19 => ?_)
    · replace hh := hh.1 c19
      exact tX1_raiseWalls_b37 C hR ha0 hB6 hh hw hl
    · replace hh := hh.2 c19
      refine lv_aload_n C.1 C.2.1 dX1_raiseWalls_22 rfl (lv_at hl 0 rfl) ?_
      refine lv_aload_n C.1 C.2.1 dX1_raiseWalls_23 rfl (lv_at hl 0 rfl) ?_
      refine lv_iload_n C.1 C.2.1 dX1_raiseWalls_24 rfl (lv_at hl 2 rfl) ?_
      refine c_Vi C hw (ctX1_squareOfWall l D h cI cL cF cM a0 ha0 u8.1 u8.2.1 u8.2.2 x2 hh) (cwV 1 C.2.2.2.2 (gd_V w_1108 w_1110 w_41 w_120 w_1111) rfl rfl rfl cdX1_squareOfWall ⟨Nat.le_of_ble_eq_true rfl, Nat.le_of_ble_eq_true rfl⟩) rfl (kd_lt ha0 (by decide)) (ce1 ha0) rfl hl.1 (Nat.le_of_ble_eq_true rfl) dX1_raiseWalls_25 ⟨Nat.zero_le _, Nat.zero_le _⟩ (fun r25 u25 H locs hh hw => ?_) rfl
      refine lv_aload_n C.1 C.2.1 dX1_raiseWalls_28 rfl (lv_at hl 0 rfl) ?_
      refine lv_iload_n C.1 C.2.1 dX1_raiseWalls_29 rfl (lv_at hl 2 rfl) ?_
      refine c_Vi C hw (ctX1_sideOfWall l D h cI cL cF cM a0 ha0 u25.1 u25.2.1 u25.2.2 x2 hh) (cwV 1 C.2.2.2.2 (gd_V w_1112 w_1114 w_42 w_120 w_1115) rfl rfl rfl cdX1_sideOfWall ⟨Nat.le_of_ble_eq_true rfl, Nat.le_of_ble_eq_true rfl⟩) rfl (kd_lt ha0 (by decide)) (ce1 ha0) rfl hl.1 (Nat.le_of_ble_eq_true rfl) dX1_raiseWalls_30 ⟨Nat.zero_le _, Nat.zero_le _⟩ (fun r30 u30 H locs hh hw => ?_) rfl
      refine lv_iconst (v := (1 : Int32)) C.1 C.2.1 dX1_raiseWalls_33 (by decide) ?_
      refine c_Vv C hw (ctX1_putWall l D h cI cL cF cM a0 ha0 u30.1 u30.2.1 u30.2.2 r25 r30 (1 : Int32) hh) (cwV 3 C.2.2.2.2 (gd_V w_1116 w_953 w_954 w_120 w_955) rfl rfl rfl cdX1_putWall ⟨Nat.le_of_ble_eq_true rfl, Nat.le_of_ble_eq_true rfl⟩) rfl (kd_lt ha0 (by decide)) (ce1 ha0) rfl hl.1 (Nat.le_of_ble_eq_true rfl) dX1_raiseWalls_34 ⟨Nat.zero_le _, Nat.zero_le _⟩ (fun u34 H locs hh hw => ?_) rfl
      exact tX1_raiseWalls_b37 C hR ha0 hB6 hh hw hl
theorem tX1_raiseWalls_b6 {a0 : Nat} {K : cS → Prop} (C : CallFix p m c cX1_raiseWalls 3 s args wsX1_raiseWalls RX1) (hR : Rtv p l e rmX1_raiseWalls s m args below meth c cX1_raiseWalls D A (cT cI cL cF cM) (cWu h cI cL cF cM) K Q) (ha0 : kd a0 = 1) (n : Nat) : ∀ (F : Nat → Nat → Int32) (L : Nat → Nat → Int64) (r : Nat → Nat → Nat) (x1 : Int32) (x2 : Int32) (H : Heap) (locs : List Loc) (ls : Array Slot), wpX1_raiseWalls_b6 a0 n F L r x1 x2 K → Wd D A s (cT cI cL cF cM) (cW h cI cL cF cM F L r) H locs → lv_has ls 3 [(0, .ref (h a0)), (1, .int x1), (2, .int x2)] → W p l e rmX1_raiseWalls s m args below meth c H locs 0 0 Q (F0 m 6 ls []) := by
  induction n with
  | zero => intro F L r x1 x2 H locs ls hh; exact hh.elim
  | succ n ih => intro F L r x1 x2 H locs ls hh hw hl; exact tX1_raiseWalls_b6_body C hR ha0 ih hh hw hl
set_option maxHeartbeats 4000000 in
set_option maxRecDepth 100000 in
theorem tX1_raiseWalls_b0 {a0 : Nat} {K : cS → Prop} (C : CallFix p m c cX1_raiseWalls 3 s args wsX1_raiseWalls RX1) (hR : Rtv p l e rmX1_raiseWalls s m args below meth c cX1_raiseWalls D A (cT cI cL cF cM) (cWu h cI cL cF cM) K Q) (ha0 : kd a0 = 1) {F : Nat → Nat → Int32} {L : Nat → Nat → Int64} {r : Nat → Nat → Nat} {x1 : Int32} (hh : wpX1_raiseWalls_b0 a0 F L r x1 K) {H : Heap} {locs : List Loc} {ls : Array Slot} (hw : Wd D A s (cT cI cL cF cM) (cW h cI cL cF cM F L r) H locs) (hl : lv_has ls 3 [(0, .ref (h a0)), (1, .int x1)]) : W p l e rmX1_raiseWalls s m args below meth c H locs 0 0 Q (F0 m 0 ls []) := by
  unfold wpX1_raiseWalls_b0 at hh
  refine lv_aload_n C.1 C.2.1 dX1_raiseWalls_0 rfl (lv_at hl 0 rfl) ?_
  refine c_Vv C hw (ctX1_clearWalls l D h cI cL cF cM a0 ha0 F L r hh) (cwV 0 C.2.2.2.2 (gd_V w_352 w_354 w_0 w_120 w_355) rfl rfl rfl cdX1_clearWalls ⟨Nat.le_of_ble_eq_true rfl, Nat.le_of_ble_eq_true rfl⟩) rfl (kd_lt ha0 (by decide)) (ce1 ha0) rfl hl.1 (Nat.le_of_ble_eq_true rfl) dX1_raiseWalls_1 ⟨Nat.zero_le _, Nat.zero_le _⟩ (fun u1 H locs hh hw => ?_) rfl
  refine lv_iconst (v := (0 : Int32)) C.1 C.2.1 dX1_raiseWalls_4 (by decide) ?_
  refine lv_istore_n (lv' := [(2, .int (0 : Int32)), (0, .ref (h a0)), (1, .int x1)]) C.1 C.2.1 dX1_raiseWalls_5 rfl hl (by decide) rfl (fun ls hl => ?_)
  obtain ⟨n, hh⟩ := hh
  exact tX1_raiseWalls_b6 C hR ha0 n _ _ _ _ _ _ _ _ hh hw (lv_sub hl [1, 2, 0] rfl)
theorem ctX1_raiseWalls (l : Launch) (D : va_G) (h : Nat → Nat) (cI cL cF cM : ClassId) (a0 : Nat) (ha0 : kd a0 = 1) (F : Nat → Nat → Int32) (L : Nat → Nat → Int64) (r : Nat → Nat → Nat) (x1 : Int32) {K : cS → Prop} (hh : wpX1_raiseWalls a0 F L r x1 K) : Cv l yX1_raiseWalls wsX1_raiseWalls rmX1_raiseWalls [.ref (h a0), .int x1] D (cT cI cL cF cM) (cWu h cI cL cF cM) (F, L, r) K := by
  refine Cv_of (cc := cX1_raiseWalls) (maxL := 3) (by decide) rfl (Nat.le_of_ble_eq_true rfl) ?_
  intro p e s m below meth c A Q C hw hR ls hl
  exact tX1_raiseWalls_b0 C hR ha0 hh hw hl
theorem cdX1_raiseWalls : yX1_raiseWalls.cls = RX1 ∧ yX1_raiseWalls.cls ≠ "java/lang/invoke/MethodHandle" ∧ yX1_raiseWalls.cls ≠ "java/lang/invoke/VarHandle" ∧ (parseMethodDescriptor yX1_raiseWalls.desc).map (fun d => d.parameters.length) = some 1 := by decide +kernel
abbrev rmX8_nextStart : Room := { frames := 3, cells := 0, slots := 0, locals := 68 }
set_option maxHeartbeats 4000000 in
set_option maxRecDepth 100000 in
theorem tX8_nextStart_b79 {B12 : (Nat → Nat → Int32) → (Nat → Nat → Int64) → (Nat → Nat → Nat) → Int32 → Int32 → Prop} {K : Int32 → cS → Prop} (C : CallFix p m c cX8_nextStart 3 s args wsX8_nextStart RX8) (hR : Rti .boolean p l e rmX8_nextStart s m args below meth c cX8_nextStart D A (cT cI cL cF cM) (cWu h cI cL cF cM) K Q) (hB12 : ∀ (F : Nat → Nat → Int32) (L : Nat → Nat → Int64) (r : Nat → Nat → Nat) (x1 : Int32) (x2 : Int32) (H : Heap) (locs : List Loc) (ls : Array Slot), B12 F L r x1 x2 → Wd D A s (cT cI cL cF cM) (cW h cI cL cF cM F L r) H locs → lv_has ls 3 [(0, .ref (h 96)), (1, .int x1), (2, .int x2)] → W p l e rmX8_nextStart s m args below meth c H locs 0 0 Q (F0 m 12 ls [])) {F : Nat → Nat → Int32} {L : Nat → Nat → Int64} {r : Nat → Nat → Nat} {x1 : Int32} {x2 : Int32} (hh : wpX8_nextStart_b79 B12 F L r x1 x2 K) {H : Heap} {locs : List Loc} {ls : Array Slot} (hw : Wd D A s (cT cI cL cF cM) (cW h cI cL cF cM F L r) H locs) (hl : lv_has ls 3 [(0, .ref (h 96)), (1, .int x1), (2, .int x2)]) : W p l e rmX8_nextStart s m args below meth c H locs 0 0 Q (F0 m 79 ls []) := by
  unfold wpX8_nextStart_b79 at hh
  refine lv_aload_n C.1 C.2.1 dX8_nextStart_79 rfl (lv_at hl 0 rfl) ?_
  refine c_get C hw (inC inW8) (kd_lt kp96 (by decide)) (ce8 kp96) rfl 3 (by decide) (wc w_478) (v := .int (F 96 3)) rfl dX8_nextStart_80 ?_
  refine lv_iload_n C.1 C.2.1 dX8_nextStart_83 rfl (lv_at hl 1 rfl) ?_
  refine lv_icmp_lt (tgt := 89) C.1 C.2.1 dX8_nextStart_84 (by decide) (fun c84 => ?_) (fun c84 => ?_)
  · replace hh := hh.1 c84
    refine lv_aload_n C.1 C.2.1 dX8_nextStart_89 rfl (lv_at hl 0 rfl) ?_
    refine c_get C hw (inC inW8) (kd_lt kp96 (by decide)) (ce8 kp96) rfl 5 (by decide) (wc w_480) (v := .long (L 96 5)) rfl dX8_nextStart_90 ?_
    refine lv_aload_n C.1 C.2.1 dX8_nextStart_93 rfl (lv_at hl 0 rfl) ?_
    refine c_get C hw (inC inW8) (kd_lt kp96 (by decide)) (ce8 kp96) rfl 4 (by decide) (wc w_479) (v := .int (F 96 4)) rfl dX8_nextStart_94 ?_
    refine lv_lushr (v := jlushr (L 96 5) (F 96 4)) C.1 C.2.1 dX8_nextStart_97 rfl ?_
    refine lv_lconst (v := (1 : Int64)) C.1 C.2.1 dX8_nextStart_98 (by decide) ?_
    refine lv_land C.1 C.2.1 dX8_nextStart_99 ?_
    refine lv_lconst (v := (0 : Int64)) C.1 C.2.1 dX8_nextStart_100 (by decide) ?_
    refine W.lcmp C.1 C.2.1 dX8_nextStart_101 ?_
    refine lv_if_eq (tgt := 107) C.1 C.2.1 dX8_nextStart_102 (by decide) (fun c102 => ?_) (fun c102 => ?_)
    · replace hh := hh.1 c102
      refine lv_iinc (v := x2 + (1 : Int32)) (lv' := [(2, .int (x2 + (1 : Int32))), (0, .ref (h 96)), (1, .int x1)]) C.1 C.2.1 dX8_nextStart_107 hl (k := 2) rfl rfl (by decide) rfl (fun ls hl => ?_)
      refine lv_goto (tgt := 12) C.1 C.2.1 dX8_nextStart_110 (by decide) ?_
      exact hB12 _ _ _ _ _ _ _ _ hh hw (lv_sub hl [1, 2, 0] rfl)
    · replace hh := hh.2 c102
      refine lv_iconst (v := (1 : Int32)) C.1 C.2.1 dX8_nextStart_105 (by decide) ?_
      exact hR _ _ _ (F, L, r) _ _ dX8_nextStart_106 rfl hh hw
  · replace hh := hh.2 c84
    refine lv_iconst (v := (0 : Int32)) C.1 C.2.1 dX8_nextStart_87 (by decide) ?_
    exact hR _ _ _ (F, L, r) _ _ dX8_nextStart_88 rfl hh hw
set_option maxHeartbeats 4000000 in
set_option maxRecDepth 100000 in
theorem tX8_nextStart_b12_body {B12 : (Nat → Nat → Int32) → (Nat → Nat → Int64) → (Nat → Nat → Nat) → Int32 → Int32 → Prop} {K : Int32 → cS → Prop} (C : CallFix p m c cX8_nextStart 3 s args wsX8_nextStart RX8) (hR : Rti .boolean p l e rmX8_nextStart s m args below meth c cX8_nextStart D A (cT cI cL cF cM) (cWu h cI cL cF cM) K Q) (hB12 : ∀ (F : Nat → Nat → Int32) (L : Nat → Nat → Int64) (r : Nat → Nat → Nat) (x1 : Int32) (x2 : Int32) (H : Heap) (locs : List Loc) (ls : Array Slot), B12 F L r x1 x2 → Wd D A s (cT cI cL cF cM) (cW h cI cL cF cM F L r) H locs → lv_has ls 3 [(0, .ref (h 96)), (1, .int x1), (2, .int x2)] → W p l e rmX8_nextStart s m args below meth c H locs 0 0 Q (F0 m 12 ls [])) {F : Nat → Nat → Int32} {L : Nat → Nat → Int64} {r : Nat → Nat → Nat} {x1 : Int32} {x2 : Int32} (hh : wpX8_nextStart_b12_body B12 F L r x1 x2 K) {H : Heap} {locs : List Loc} {ls : Array Slot} (hw : Wd D A s (cT cI cL cF cM) (cW h cI cL cF cM F L r) H locs) (hl : lv_has ls 3 [(0, .ref (h 96)), (1, .int x1), (2, .int x2)]) : W p l e rmX8_nextStart s m args below meth c H locs 0 0 Q (F0 m 12 ls []) := by
  unfold wpX8_nextStart_b12_body at hh
  refine lv_iload_n C.1 C.2.1 dX8_nextStart_12 rfl (lv_at hl 2 rfl) ?_
  refine lv_ldc C.1 C.2.1 C.2.2.2.1 (C.2.2.2.2 _ (wc w_1094)) dX8_nextStart_13 ?_
  refine lv_icmp_ge (tgt := 113) C.1 C.2.1 dX8_nextStart_15 (by decide) (fun c15 => ?_) (fun c15 => ?_)
  · replace hh := hh.1 c15
    refine lv_iconst (v := (0 : Int32)) C.1 C.2.1 dX8_nextStart_113 (by decide) ?_
    exact hR _ _ _ (F, L, r) _ _ dX8_nextStart_114 rfl hh hw
  · replace hh := hh.2 c15
    refine lv_aload_n C.1 C.2.1 dX8_nextStart_18 rfl (lv_at hl 0 rfl) ?_
    refine lv_dup C.1 C.2.1 dX8_nextStart_19 rfl ?_
    refine c_get C hw (inC inW8) (kd_lt kp96 (by decide)) (ce8 kp96) rfl 4 (by decide) (wc w_479) (v := .int (F 96 4)) rfl dX8_nextStart_20 ?_
    refine lv_iconst (v := (1 : Int32)) C.1 C.2.1 dX8_nextStart_23 (by decide) ?_
    refine lv_iadd C.1 C.2.1 dX8_nextStart_24 ?_
    refine c_puti C hw (inC inW8) tyX8 tyX8_ok nmX8 (kd_lt kp96 (by decide)) (ce8 kp96) rfl 4 (by decide) (wc w_479) rfl (ty := .int) (by decide +kernel) rfl rfl (Nat.le_of_ble_eq_true rfl) rfl dX8_nextStart_25 (fun H locs hw => ?_)
    refine lv_aload_n C.1 C.2.1 dX8_nextStart_28 rfl (lv_at hl 0 rfl) ?_
    refine c_get C hw (inC inW8) (kd_lt kp96 (by decide)) (ce8 kp96) rfl 4 (by decide) (wc w_479) (v := .int ((pt F 96 4 ((F 96 4) + (1 : Int32))) 96 4)) rfl dX8_nextStart_29 ?_
    refine lv_aload_n C.1 C.2.1 dX8_nextStart_32 rfl (lv_at hl 0 rfl) ?_
    refine c_get C hw (inC inW8) (kd_lt kp96 (by decide)) (ce8 kp96) rfl 0 (by decide) (wc w_475) (v := .ref (h 66)) rfl dX8_nextStart_33 ?_
    refine c_get C hw (inC inW1) (kd_lt kp66 (by decide)) (ce1 kp66) rfl 2 (by decide) (wc w_359) (v := .int ((pt F 96 4 ((F 96 4) + (1 : Int32))) 66 2)) rfl dX8_nextStart_36 ?_
    refine lv_icmp_lt (tgt := 79) C.1 C.2.1 dX8_nextStart_39 (by decide) (fun c39 => ?_) (fun c39 => ?_)
    · replace hh := hh.1 c39
      exact tX8_nextStart_b79 C hR hB12 hh hw hl
    · replace hh := hh.2 c39
      refine lv_aload_n C.1 C.2.1 dX8_nextStart_42 rfl (lv_at hl 0 rfl) ?_
      refine lv_iconst (v := (0 : Int32)) C.1 C.2.1 dX8_nextStart_43 (by decide) ?_
      refine c_puti C hw (inC inW8) tyX8 tyX8_ok nmX8 (kd_lt kp96 (by decide)) (ce8 kp96) rfl 4 (by decide) (wc w_479) rfl (ty := .int) (by decide +kernel) rfl rfl (Nat.le_of_ble_eq_true rfl) rfl dX8_nextStart_44 (fun H locs hw => ?_)
      refine lv_aload_n C.1 C.2.1 dX8_nextStart_47 rfl (lv_at hl 0 rfl) ?_
      refine lv_dup C.1 C.2.1 dX8_nextStart_48 rfl ?_
      refine c_get C hw (inC inW8) (kd_lt kp96 (by decide)) (ce8 kp96) rfl 3 (by decide) (wc w_478) (v := .int ((pt (pt F 96 4 ((F 96 4) + (1 : Int32))) 96 4 (0 : Int32)) 96 3)) rfl dX8_nextStart_49 ?_
      refine lv_iconst (v := (1 : Int32)) C.1 C.2.1 dX8_nextStart_52 (by decide) ?_
      refine lv_iadd C.1 C.2.1 dX8_nextStart_53 ?_
      refine c_puti C hw (inC inW8) tyX8 tyX8_ok nmX8 (kd_lt kp96 (by decide)) (ce8 kp96) rfl 3 (by decide) (wc w_478) rfl (ty := .int) (by decide +kernel) rfl rfl (Nat.le_of_ble_eq_true rfl) rfl dX8_nextStart_54 (fun H locs hw => ?_)
      refine lv_aload_n C.1 C.2.1 dX8_nextStart_57 rfl (lv_at hl 0 rfl) ?_
      refine c_get C hw (inC inW8) (kd_lt kp96 (by decide)) (ce8 kp96) rfl 0 (by decide) (wc w_475) (v := .ref (h 66)) rfl dX8_nextStart_58 ?_
      refine lv_aload_n C.1 C.2.1 dX8_nextStart_61 rfl (lv_at hl 0 rfl) ?_
      refine c_get C hw (inC inW8) (kd_lt kp96 (by decide)) (ce8 kp96) rfl 3 (by decide) (wc w_478) (v := .int ((pt (pt (pt F 96 4 ((F 96 4) + (1 : Int32))) 96 4 (0 : Int32)) 96 3 (((pt (pt F 96 4 ((F 96 4) + (1 : Int32))) 96 4 (0 : Int32)) 96 3) + (1 : Int32))) 96 3)) rfl dX8_nextStart_62 ?_
      refine c_Vv C hw (ctX1_raiseWalls l D h cI cL cF cM 66 kp66 (pt (pt (pt F 96 4 ((F 96 4) + (1 : Int32))) 96 4 (0 : Int32)) 96 3 (((pt (pt F 96 4 ((F 96 4) + (1 : Int32))) 96 4 (0 : Int32)) 96 3) + (1 : Int32))) L r ((pt (pt (pt F 96 4 ((F 96 4) + (1 : Int32))) 96 4 (0 : Int32)) 96 3 (((pt (pt F 96 4 ((F 96 4) + (1 : Int32))) 96 4 (0 : Int32)) 96 3) + (1 : Int32))) 96 3) hh) (cwV 1 C.2.2.2.2 (gd_V w_1103 w_1104 w_1105 w_120 w_1106) rfl rfl rfl cdX1_raiseWalls ⟨Nat.le_of_ble_eq_true rfl, Nat.le_of_ble_eq_true rfl⟩) rfl (kd_lt kp66 (by decide)) (ce1 kp66) rfl hl.1 (Nat.le_of_ble_eq_true rfl) dX8_nextStart_65 ⟨Nat.zero_le _, Nat.zero_le _⟩ (fun u65 H locs hh hw => ?_) rfl
      refine lv_aload_n C.1 C.2.1 dX8_nextStart_68 rfl (lv_at hl 0 rfl) ?_
      refine lv_aload_n C.1 C.2.1 dX8_nextStart_69 rfl (lv_at hl 0 rfl) ?_
      refine c_get C hw (inC inW8) (kd_lt kp96 (by decide)) (ce8 kp96) rfl 0 (by decide) (wc w_475) (v := .ref (h 66)) rfl dX8_nextStart_70 ?_
      refine c_Vl C hw (ctX1_reach l D h cI cL cF cM 66 kp66 u65.1 u65.2.1 u65.2.2 hh) (cwV 0 C.2.2.2.2 (gd_V w_1089 w_1053 w_1054 w_120 w_1055) rfl rfl rfl cdX1_reach ⟨Nat.le_of_ble_eq_true rfl, Nat.le_of_ble_eq_true rfl⟩) rfl (kd_lt kp66 (by decide)) (ce1 kp66) rfl hl.1 (Nat.le_of_ble_eq_true rfl) dX8_nextStart_73 ⟨Nat.zero_le _, Nat.zero_le _⟩ (fun r73 u73 H locs hh hw => ?_) rfl
      refine c_putl C hw (inC inW8) tyX8 tyX8_ok nmX8 (kd_lt kp96 (by decide)) (ce8 kp96) rfl 5 (by decide) (wc w_480) rfl (by decide +kernel) (Nat.le_of_ble_eq_true rfl) rfl dX8_nextStart_76 (fun H locs hw => ?_)
      exact tX8_nextStart_b79 C hR hB12 hh hw hl
theorem tX8_nextStart_b12 {K : Int32 → cS → Prop} (C : CallFix p m c cX8_nextStart 3 s args wsX8_nextStart RX8) (hR : Rti .boolean p l e rmX8_nextStart s m args below meth c cX8_nextStart D A (cT cI cL cF cM) (cWu h cI cL cF cM) K Q) (n : Nat) : ∀ (F : Nat → Nat → Int32) (L : Nat → Nat → Int64) (r : Nat → Nat → Nat) (x1 : Int32) (x2 : Int32) (H : Heap) (locs : List Loc) (ls : Array Slot), wpX8_nextStart_b12 n F L r x1 x2 K → Wd D A s (cT cI cL cF cM) (cW h cI cL cF cM F L r) H locs → lv_has ls 3 [(0, .ref (h 96)), (1, .int x1), (2, .int x2)] → W p l e rmX8_nextStart s m args below meth c H locs 0 0 Q (F0 m 12 ls []) := by
  induction n with
  | zero => intro F L r x1 x2 H locs ls hh; exact hh.elim
  | succ n ih => intro F L r x1 x2 H locs ls hh hw hl; exact tX8_nextStart_b12_body C hR ih hh hw hl
set_option maxHeartbeats 4000000 in
set_option maxRecDepth 100000 in
theorem tX8_nextStart_b0 {K : Int32 → cS → Prop} (C : CallFix p m c cX8_nextStart 3 s args wsX8_nextStart RX8) (hR : Rti .boolean p l e rmX8_nextStart s m args below meth c cX8_nextStart D A (cT cI cL cF cM) (cWu h cI cL cF cM) K Q) {F : Nat → Nat → Int32} {L : Nat → Nat → Int64} {r : Nat → Nat → Nat} (hh : wpX8_nextStart_b0 F L r K) {H : Heap} {locs : List Loc} {ls : Array Slot} (hw : Wd D A s (cT cI cL cF cM) (cW h cI cL cF cM F L r) H locs) (hl : lv_has ls 3 [(0, .ref (h 96))]) : W p l e rmX8_nextStart s m args below meth c H locs 0 0 Q (F0 m 0 ls []) := by
  unfold wpX8_nextStart_b0 at hh
  refine lv_iconst (v := (1 : Int32)) C.1 C.2.1 dX8_nextStart_0 (by decide) ?_
  refine lv_aload_n C.1 C.2.1 dX8_nextStart_1 rfl (lv_at hl 0 rfl) ?_
  refine c_get C hw (inC inW8) (kd_lt kp96 (by decide)) (ce8 kp96) rfl 0 (by decide) (wc w_475) (v := .ref (h 66)) rfl dX8_nextStart_2 ?_
  refine c_Vi C hw (ctX1_wallNumbers l D h cI cL cF cM 66 kp66 F L r hh) (cwV 0 C.2.2.2.2 (gd_V w_1099 w_1100 w_1101 w_120 w_1102) rfl rfl rfl cdX1_wallNumbers ⟨Nat.le_of_ble_eq_true rfl, Nat.le_of_ble_eq_true rfl⟩) rfl (kd_lt kp66 (by decide)) (ce1 kp66) rfl hl.1 (Nat.le_of_ble_eq_true rfl) dX8_nextStart_5 ⟨Nat.zero_le _, Nat.zero_le _⟩ (fun r5 u5 H locs hh hw => ?_) rfl
  refine g_ishl C dX8_nextStart_8 ?_
  refine lv_istore_n (lv' := [(1, .int (jshl (1 : Int32) r5)), (0, .ref (h 96))]) C.1 C.2.1 dX8_nextStart_9 rfl hl (by decide) rfl (fun ls hl => ?_)
  refine lv_iconst (v := (0 : Int32)) C.1 C.2.1 dX8_nextStart_10 (by decide) ?_
  refine lv_istore_n (lv' := [(2, .int (0 : Int32)), (1, .int (jshl (1 : Int32) r5)), (0, .ref (h 96))]) C.1 C.2.1 dX8_nextStart_11 rfl hl (by decide) rfl (fun ls hl => ?_)
  obtain ⟨n, hh⟩ := hh
  exact tX8_nextStart_b12 C hR n _ _ _ _ _ _ _ _ hh hw (lv_sub hl [2, 1, 0] rfl)
theorem ctX8_nextStart (l : Launch) (D : va_G) (h : Nat → Nat) (cI cL cF cM : ClassId) (F : Nat → Nat → Int32) (L : Nat → Nat → Int64) (r : Nat → Nat → Nat) {K : Int32 → cS → Prop} (hh : wpX8_nextStart F L r K) : Ci l yX8_nextStart wsX8_nextStart rmX8_nextStart [.ref (h 96)] D (cT cI cL cF cM) (cWu h cI cL cF cM) (F, L, r) K := by
  refine Ci_of (cc := cX8_nextStart) (maxL := 3) (by decide) rfl (Nat.le_of_ble_eq_true rfl) ?_
  intro p e s m below meth c A Q C hw hR ls hl
  exact tX8_nextStart_b0 C hR hh hw hl
theorem cdX8_nextStart : yX8_nextStart.cls = RX8 ∧ yX8_nextStart.cls ≠ "java/lang/invoke/MethodHandle" ∧ yX8_nextStart.cls ≠ "java/lang/invoke/VarHandle" ∧ (parseMethodDescriptor yX8_nextStart.desc).map (fun d => d.parameters.length) = some 0 := by decide +kernel
abbrev rmX8_findHeld : Room := { frames := 4, cells := 0, slots := 0, locals := 111 }
set_option maxHeartbeats 4000000 in
set_option maxRecDepth 100000 in
theorem tX8_findHeld_b88 {a1 : Nat} {K : cS → Prop} (C : CallFix p m c cX8_findHeld 4 s args wsX8_findHeld RX8) (hR : Rtv p l e rmX8_findHeld s m args below meth c cX8_findHeld D A (cT cI cL cF cM) (cWu h cI cL cF cM) K Q) (ha1 : kd a1 = 6) {F : Nat → Nat → Int32} {L : Nat → Nat → Int64} {r : Nat → Nat → Nat} (hh : wpX8_findHeld_b88 a1 F L r K) {H : Heap} {locs : List Loc} {ls : Array Slot} (hw : Wd D A s (cT cI cL cF cM) (cW h cI cL cF cM F L r) H locs) (hl : lv_has ls 4 [(0, .ref (h 96))]) : W p l e rmX8_findHeld s m args below meth c H locs 0 0 Q (F0 m 88 ls []) := by
  unfold wpX8_findHeld_b88 at hh
  exact hR _ _ (F, L, r) _ _ dX8_findHeld_88 hh hw
set_option maxHeartbeats 4000000 in
set_option maxRecDepth 100000 in
theorem tX8_findHeld_b18_body {a1 : Nat} {B18 : (Nat → Nat → Int32) → (Nat → Nat → Int64) → (Nat → Nat → Nat) → Int32 → Int32 → Prop} {K : cS → Prop} (C : CallFix p m c cX8_findHeld 4 s args wsX8_findHeld RX8) (hR : Rtv p l e rmX8_findHeld s m args below meth c cX8_findHeld D A (cT cI cL cF cM) (cWu h cI cL cF cM) K Q) (ha1 : kd a1 = 6) (hB18 : ∀ (F : Nat → Nat → Int32) (L : Nat → Nat → Int64) (r : Nat → Nat → Nat) (x2 : Int32) (x3 : Int32) (H : Heap) (locs : List Loc) (ls : Array Slot), B18 F L r x2 x3 → Wd D A s (cT cI cL cF cM) (cW h cI cL cF cM F L r) H locs → lv_has ls 4 [(0, .ref (h 96)), (1, .ref (h a1)), (2, .int x2), (3, .int x3)] → W p l e rmX8_findHeld s m args below meth c H locs 0 0 Q (F0 m 18 ls [])) {F : Nat → Nat → Int32} {L : Nat → Nat → Int64} {r : Nat → Nat → Nat} {x2 : Int32} {x3 : Int32} (hh : wpX8_findHeld_b18_body B18 a1 F L r x2 x3 K) {H : Heap} {locs : List Loc} {ls : Array Slot} (hw : Wd D A s (cT cI cL cF cM) (cW h cI cL cF cM F L r) H locs) (hl : lv_has ls 4 [(0, .ref (h 96)), (1, .ref (h a1)), (2, .int x2), (3, .int x3)]) : W p l e rmX8_findHeld s m args below meth c H locs 0 0 Q (F0 m 18 ls []) := by
  unfold wpX8_findHeld_b18_body at hh
  refine lv_iload_n C.1 C.2.1 dX8_findHeld_18 rfl (lv_at hl 3 rfl) ?_
  refine lv_ldc C.1 C.2.1 C.2.2.2.1 (C.2.2.2.2 _ (wc w_1094)) dX8_findHeld_19 ?_
  refine lv_icmp_ge (tgt := 88) C.1 C.2.1 dX8_findHeld_21 (by decide) (fun c21 => ?_) (fun c21 => ?_)
  · replace hh := hh.1 c21
    exact tX8_findHeld_b88 C hR ha1 hh hw (lv_sub hl [0] rfl)
  · replace hh := hh.2 c21
    refine lv_aload_n C.1 C.2.1 dX8_findHeld_24 rfl (lv_at hl 0 rfl) ?_
    refine c_Vi C hw (ctX8_nextStart l D h cI cL cF cM F L r hh) (cwV 0 C.2.2.2.2 (gd_V w_1095 w_1097 w_40 w_123 w_1098) rfl rfl rfl cdX8_nextStart ⟨Nat.le_of_ble_eq_true rfl, Nat.le_of_ble_eq_true rfl⟩) rfl (kd_lt kp96 (by decide)) (ce8 kp96) rfl hl.1 (Nat.le_of_ble_eq_true rfl) dX8_findHeld_25 ⟨Nat.zero_le _, Nat.zero_le _⟩ (fun r25 u25 H locs hh hw => ?_) rfl
    refine lv_if_eq (tgt := 88) C.1 C.2.1 dX8_findHeld_28 (by decide) (fun c28 => ?_) (fun c28 => ?_)
    · replace hh := hh.1 c28
      exact tX8_findHeld_b88 C hR ha1 hh hw (lv_sub hl [0] rfl)
    · replace hh := hh.2 c28
      refine lv_aload_n C.1 C.2.1 dX8_findHeld_31 rfl (lv_at hl 0 rfl) ?_
      refine c_get C hw (inC inW8) (kd_lt kp96 (by decide)) (ce8 kp96) rfl 1 (by decide) (wc w_476) (v := .ref (h 86)) rfl dX8_findHeld_32 ?_
      refine lv_aload_n C.1 C.2.1 dX8_findHeld_35 rfl (lv_at hl 0 rfl) ?_
      refine c_get C hw (inC inW8) (kd_lt kp96 (by decide)) (ce8 kp96) rfl 4 (by decide) (wc w_479) (v := .int (u25.1 96 4)) rfl dX8_findHeld_36 ?_
      refine c_Vv C hw (ctX3_setDownWiped l D h cI cL cF cM 86 kp86 u25.1 u25.2.1 u25.2.2 (u25.1 96 4) hh) (cwV 1 C.2.2.2.2 (gd_V w_1117 w_914 w_915 w_121 w_916) rfl rfl rfl cdX3_setDownWiped ⟨Nat.le_of_ble_eq_true rfl, Nat.le_of_ble_eq_true rfl⟩) rfl (kd_lt kp86 (by decide)) (ce3 kp86) rfl hl.1 (Nat.le_of_ble_eq_true rfl) dX8_findHeld_39 ⟨Nat.zero_le _, Nat.zero_le _⟩ (fun u39 H locs hh hw => ?_) rfl
      refine lv_aload_n C.1 C.2.1 dX8_findHeld_42 rfl (lv_at hl 0 rfl) ?_
      refine c_get C hw (inC inW8) (kd_lt kp96 (by decide)) (ce8 kp96) rfl 1 (by decide) (wc w_476) (v := .ref (h 86)) rfl dX8_findHeld_43 ?_
      refine lv_aload_n C.1 C.2.1 dX8_findHeld_46 rfl (lv_at hl 1 rfl) ?_
      refine lv_aload_n C.1 C.2.1 dX8_findHeld_47 rfl (lv_at hl 0 rfl) ?_
      refine c_get C hw (inC inW8) (kd_lt kp96 (by decide)) (ce8 kp96) rfl 0 (by decide) (wc w_475) (v := .ref (h 66)) rfl dX8_findHeld_48 ?_
      refine lv_bipush (v := (100 : Int32)) C.1 C.2.1 dX8_findHeld_51 (by decide) ?_
      refine c_Vi C hw (ctX3_arrive l D h cI cL cF cM 86 a1 66 kp86 ha1 kp66 u39.1 u39.2.1 u39.2.2 (100 : Int32) hh) (cwV 3 C.2.2.2.2 (gd_V w_1118 w_1040 w_1041 w_121 w_1042) rfl rfl rfl cdX3_arrive ⟨Nat.le_of_ble_eq_true rfl, Nat.le_of_ble_eq_true rfl⟩) rfl (kd_lt kp86 (by decide)) (ce3 kp86) rfl hl.1 (Nat.le_of_ble_eq_true rfl) dX8_findHeld_53 ⟨Nat.zero_le _, Nat.zero_le _⟩ (fun r53 u53 H locs hh hw => ?_) rfl
      refine lv_bipush (v := (-2 : Int32)) C.1 C.2.1 dX8_findHeld_56 (by decide) ?_
      refine lv_icmp_ne (tgt := 82) C.1 C.2.1 dX8_findHeld_58 (by decide) (fun c58 => ?_) (fun c58 => ?_)
      · replace hh := hh.1 c58
        refine lv_iinc (v := x3 + (1 : Int32)) (lv' := [(3, .int (x3 + (1 : Int32))), (0, .ref (h 96)), (1, .ref (h a1)), (2, .int x2)]) C.1 C.2.1 dX8_findHeld_82 hl (k := 3) rfl rfl (by decide) rfl (fun ls hl => ?_)
        refine lv_goto (tgt := 18) C.1 C.2.1 dX8_findHeld_85 (by decide) ?_
        exact hB18 _ _ _ _ _ _ _ _ hh hw (lv_sub hl [1, 2, 3, 0] rfl)
      · replace hh := hh.2 c58
        refine lv_aload_n C.1 C.2.1 dX8_findHeld_61 rfl (lv_at hl 0 rfl) ?_
        refine c_get C hw (inC inW8) (kd_lt kp96 (by decide)) (ce8 kp96) rfl 8 (by decide) (wc w_483) (v := .ref (h 97)) rfl dX8_findHeld_62 ?_
        refine lv_iload_n C.1 C.2.1 dX8_findHeld_65 rfl (lv_at hl 2 rfl) ?_
        refine lv_aload_n C.1 C.2.1 dX8_findHeld_66 rfl (lv_at hl 0 rfl) ?_
        refine c_get C hw (inC inW8) (kd_lt kp96 (by decide)) (ce8 kp96) rfl 3 (by decide) (wc w_478) (v := .int (u53.1 96 3)) rfl dX8_findHeld_67 ?_
        obtain ⟨hi70, hh⟩ := hh
        refine c_ias C hw (kd_lt kp97 (by decide)) (ce12 kp97) hi70 dX8_findHeld_70 (fun H locs hw => ?_)
        refine lv_aload_n C.1 C.2.1 dX8_findHeld_71 rfl (lv_at hl 0 rfl) ?_
        refine c_get C hw (inC inW8) (kd_lt kp96 (by decide)) (ce8 kp96) rfl 9 (by decide) (wc w_484) (v := .ref (h 98)) rfl dX8_findHeld_72 ?_
        refine lv_iload_n C.1 C.2.1 dX8_findHeld_75 rfl (lv_at hl 2 rfl) ?_
        refine lv_aload_n C.1 C.2.1 dX8_findHeld_76 rfl (lv_at hl 0 rfl) ?_
        refine c_get C hw (inC inW8) (kd_lt kp96 (by decide)) (ce8 kp96) rfl 4 (by decide) (wc w_479) (v := .int ((pt u53.1 97 (ix x2) (u53.1 96 3)) 96 4)) rfl dX8_findHeld_77 ?_
        obtain ⟨hi80, hh⟩ := hh
        refine c_ias C hw (kd_lt kp98 (by decide)) (ce12 kp98) hi80 dX8_findHeld_80 (fun H locs hw => ?_)
        exact hR _ _ (pt (pt u53.1 97 (ix x2) (u53.1 96 3)) 98 (ix x2) ((pt u53.1 97 (ix x2) (u53.1 96 3)) 96 4), u53.2.1, u53.2.2) _ _ dX8_findHeld_81 hh hw
theorem tX8_findHeld_b18 {a1 : Nat} {K : cS → Prop} (C : CallFix p m c cX8_findHeld 4 s args wsX8_findHeld RX8) (hR : Rtv p l e rmX8_findHeld s m args below meth c cX8_findHeld D A (cT cI cL cF cM) (cWu h cI cL cF cM) K Q) (ha1 : kd a1 = 6) (n : Nat) : ∀ (F : Nat → Nat → Int32) (L : Nat → Nat → Int64) (r : Nat → Nat → Nat) (x2 : Int32) (x3 : Int32) (H : Heap) (locs : List Loc) (ls : Array Slot), wpX8_findHeld_b18 a1 n F L r x2 x3 K → Wd D A s (cT cI cL cF cM) (cW h cI cL cF cM F L r) H locs → lv_has ls 4 [(0, .ref (h 96)), (1, .ref (h a1)), (2, .int x2), (3, .int x3)] → W p l e rmX8_findHeld s m args below meth c H locs 0 0 Q (F0 m 18 ls []) := by
  induction n with
  | zero => intro F L r x2 x3 H locs ls hh; exact hh.elim
  | succ n ih => intro F L r x2 x3 H locs ls hh hw hl; exact tX8_findHeld_b18_body C hR ha1 ih hh hw hl
set_option maxHeartbeats 4000000 in
set_option maxRecDepth 100000 in
theorem tX8_findHeld_b0 {a1 : Nat} {K : cS → Prop} (C : CallFix p m c cX8_findHeld 4 s args wsX8_findHeld RX8) (hR : Rtv p l e rmX8_findHeld s m args below meth c cX8_findHeld D A (cT cI cL cF cM) (cWu h cI cL cF cM) K Q) (ha1 : kd a1 = 6) {F : Nat → Nat → Int32} {L : Nat → Nat → Int64} {r : Nat → Nat → Nat} {x2 : Int32} (hh : wpX8_findHeld_b0 a1 F L r x2 K) {H : Heap} {locs : List Loc} {ls : Array Slot} (hw : Wd D A s (cT cI cL cF cM) (cW h cI cL cF cM F L r) H locs) (hl : lv_has ls 4 [(0, .ref (h 96)), (1, .ref (h a1)), (2, .int x2)]) : W p l e rmX8_findHeld s m args below meth c H locs 0 0 Q (F0 m 0 ls []) := by
  unfold wpX8_findHeld_b0 at hh
  refine lv_aload_n C.1 C.2.1 dX8_findHeld_0 rfl (lv_at hl 0 rfl) ?_
  refine c_get C hw (inC inW8) (kd_lt kp96 (by decide)) (ce8 kp96) rfl 8 (by decide) (wc w_483) (v := .ref (h 97)) rfl dX8_findHeld_1 ?_
  refine lv_iload_n C.1 C.2.1 dX8_findHeld_4 rfl (lv_at hl 2 rfl) ?_
  refine lv_bipush (v := (-2 : Int32)) C.1 C.2.1 dX8_findHeld_5 (by decide) ?_
  obtain ⟨hi7, hh⟩ := hh
  refine c_ias C hw (kd_lt kp97 (by decide)) (ce12 kp97) hi7 dX8_findHeld_7 (fun H locs hw => ?_)
  refine lv_aload_n C.1 C.2.1 dX8_findHeld_8 rfl (lv_at hl 0 rfl) ?_
  refine c_get C hw (inC inW8) (kd_lt kp96 (by decide)) (ce8 kp96) rfl 9 (by decide) (wc w_484) (v := .ref (h 98)) rfl dX8_findHeld_9 ?_
  refine lv_iload_n C.1 C.2.1 dX8_findHeld_12 rfl (lv_at hl 2 rfl) ?_
  refine lv_bipush (v := (-2 : Int32)) C.1 C.2.1 dX8_findHeld_13 (by decide) ?_
  obtain ⟨hi15, hh⟩ := hh
  refine c_ias C hw (kd_lt kp98 (by decide)) (ce12 kp98) hi15 dX8_findHeld_15 (fun H locs hw => ?_)
  refine lv_iconst (v := (0 : Int32)) C.1 C.2.1 dX8_findHeld_16 (by decide) ?_
  refine lv_istore_n (lv' := [(3, .int (0 : Int32)), (0, .ref (h 96)), (1, .ref (h a1)), (2, .int x2)]) C.1 C.2.1 dX8_findHeld_17 rfl hl (by decide) rfl (fun ls hl => ?_)
  obtain ⟨n, hh⟩ := hh
  exact tX8_findHeld_b18 C hR ha1 n _ _ _ _ _ _ _ _ hh hw (lv_sub hl [1, 2, 3, 0] rfl)
theorem ctX8_findHeld (l : Launch) (D : va_G) (h : Nat → Nat) (cI cL cF cM : ClassId) (a1 : Nat) (ha1 : kd a1 = 6) (F : Nat → Nat → Int32) (L : Nat → Nat → Int64) (r : Nat → Nat → Nat) (x2 : Int32) {K : cS → Prop} (hh : wpX8_findHeld a1 F L r x2 K) : Cv l yX8_findHeld wsX8_findHeld rmX8_findHeld [.ref (h 96), .ref (h a1), .int x2] D (cT cI cL cF cM) (cWu h cI cL cF cM) (F, L, r) K := by
  refine Cv_of (cc := cX8_findHeld) (maxL := 4) (by decide) rfl (Nat.le_of_ble_eq_true rfl) ?_
  intro p e s m below meth c A Q C hw hR ls hl
  exact tX8_findHeld_b0 C hR ha1 hh hw hl
theorem cdX8_findHeld : yX8_findHeld.cls = RX8 ∧ yX8_findHeld.cls ≠ "java/lang/invoke/MethodHandle" ∧ yX8_findHeld.cls ≠ "java/lang/invoke/VarHandle" ∧ (parseMethodDescriptor yX8_findHeld.desc).map (fun d => d.parameters.length) = some 2 := by decide +kernel
abbrev rmX8_heldBy : Room := { frames := 5, cells := 0, slots := 0, locals := 134 }
set_option maxHeartbeats 4000000 in
set_option maxRecDepth 100000 in
theorem tX8_heldBy_b67 {a1 : Nat} {K : Int32 → cS → Prop} (C : CallFix p m c cX8_heldBy 6 s args wsX8_heldBy RX8) (hR : Rti .int p l e rmX8_heldBy s m args below meth c cX8_heldBy D A (cT cI cL cF cM) (cWu h cI cL cF cM) K Q) (ha1 : kd a1 = 6) {F : Nat → Nat → Int32} {L : Nat → Nat → Int64} {r : Nat → Nat → Nat} {k0 : Int32} (hh : wpX8_heldBy_b67 a1 F L r k0 K) {H : Heap} {locs : List Loc} {ls : Array Slot} (hw : Wd D A s (cT cI cL cF cM) (cW h cI cL cF cM F L r) H locs) (hl : lv_has ls 6 [(0, .ref (h 96))]) : W p l e rmX8_heldBy s m args below meth c H locs 0 0 Q (F0 m 67 ls [.int k0]) := by
  unfold wpX8_heldBy_b67 at hh
  exact hR _ _ _ (F, L, r) _ _ dX8_heldBy_67 rfl hh hw
set_option maxHeartbeats 4000000 in
set_option maxRecDepth 100000 in
theorem tX8_heldBy_b45 {a1 : Nat} {K : Int32 → cS → Prop} (C : CallFix p m c cX8_heldBy 6 s args wsX8_heldBy RX8) (hR : Rti .int p l e rmX8_heldBy s m args below meth c cX8_heldBy D A (cT cI cL cF cM) (cWu h cI cL cF cM) K Q) (ha1 : kd a1 = 6) {F : Nat → Nat → Int32} {L : Nat → Nat → Int64} {r : Nat → Nat → Nat} {x4 : Int32} {x5 : Int32} (hh : wpX8_heldBy_b45 a1 F L r x4 x5 K) {H : Heap} {locs : List Loc} {ls : Array Slot} (hw : Wd D A s (cT cI cL cF cM) (cW h cI cL cF cM F L r) H locs) (hl : lv_has ls 6 [(0, .ref (h 96)), (4, .int x4), (5, .int x5)]) : W p l e rmX8_heldBy s m args below meth c H locs 0 0 Q (F0 m 45 ls []) := by
  unfold wpX8_heldBy_b45 at hh
  refine lv_iload C.1 C.2.1 dX8_heldBy_45 (lv_at hl 1 rfl) ?_
  refine lv_if_ne (tgt := 60) C.1 C.2.1 dX8_heldBy_47 (by decide) (fun c47 => ?_) (fun c47 => ?_)
  · replace hh := hh.1 c47
    refine lv_aload_n C.1 C.2.1 dX8_heldBy_60 rfl (lv_at hl 0 rfl) ?_
    refine c_get C hw (inC inW8) (kd_lt kp96 (by decide)) (ce8 kp96) rfl 9 (by decide) (wc w_484) (v := .ref (h 98)) rfl dX8_heldBy_61 ?_
    refine lv_iload C.1 C.2.1 dX8_heldBy_64 (lv_at hl 2 rfl) ?_
    obtain ⟨hi66, hh⟩ := hh
    refine c_ial C hw (kd_lt kp98 (by decide)) (ce12 kp98) hi66 dX8_heldBy_66 ?_
    exact tX8_heldBy_b67 C hR ha1 hh hw (lv_sub hl [0] rfl)
  · replace hh := hh.2 c47
    refine lv_aload_n C.1 C.2.1 dX8_heldBy_50 rfl (lv_at hl 0 rfl) ?_
    refine c_get C hw (inC inW8) (kd_lt kp96 (by decide)) (ce8 kp96) rfl 8 (by decide) (wc w_483) (v := .ref (h 97)) rfl dX8_heldBy_51 ?_
    refine lv_iload C.1 C.2.1 dX8_heldBy_54 (lv_at hl 2 rfl) ?_
    obtain ⟨hi56, hh⟩ := hh
    refine c_ial C hw (kd_lt kp97 (by decide)) (ce12 kp97) hi56 dX8_heldBy_56 ?_
    refine lv_goto (tgt := 67) C.1 C.2.1 dX8_heldBy_57 (by decide) ?_
    exact tX8_heldBy_b67 C hR ha1 hh hw (lv_sub hl [0] rfl)
set_option maxHeartbeats 4000000 in
set_option maxRecDepth 100000 in
theorem tX8_heldBy_b0 {a1 : Nat} {K : Int32 → cS → Prop} (C : CallFix p m c cX8_heldBy 6 s args wsX8_heldBy RX8) (hR : Rti .int p l e rmX8_heldBy s m args below meth c cX8_heldBy D A (cT cI cL cF cM) (cWu h cI cL cF cM) K Q) (ha1 : kd a1 = 6) {F : Nat → Nat → Int32} {L : Nat → Nat → Int64} {r : Nat → Nat → Nat} {x2 : Int32} {x3 : Int32} {x4 : Int32} (hh : wpX8_heldBy_b0 a1 F L r x2 x3 x4 K) {H : Heap} {locs : List Loc} {ls : Array Slot} (hw : Wd D A s (cT cI cL cF cM) (cW h cI cL cF cM F L r) H locs) (hl : lv_has ls 6 [(0, .ref (h 96)), (1, .ref (h a1)), (2, .int x2), (3, .int x3), (4, .int x4)]) : W p l e rmX8_heldBy s m args below meth c H locs 0 0 Q (F0 m 0 ls []) := by
  unfold wpX8_heldBy_b0 at hh
  refine lv_iload_n C.1 C.2.1 dX8_heldBy_0 rfl (lv_at hl 2 rfl) ?_
  refine lv_iload_n C.1 C.2.1 dX8_heldBy_1 rfl (lv_at hl 3 rfl) ?_
  refine wd_Si C hw (ctX8_sizeOf l D x2 x3 hh) (va_cwS 2 C.2.2.2.2 (gd_S w_1080 w_1081 (ini_cls rfl w_123) w_1082) rfl rfl rfl cdX8_sizeOf ⟨Nat.le_of_ble_eq_true rfl, Nat.le_of_ble_eq_true rfl⟩) rfl hl.1 (Nat.le_of_ble_eq_true rfl) dX8_heldBy_2 ⟨Nat.zero_le _, Nat.zero_le _⟩ (fun r2 H locs hh hw => ?_) rfl
  refine lv_istore (lv' := [(5, .int r2), (0, .ref (h 96)), (1, .ref (h a1)), (2, .int x2), (3, .int x3), (4, .int x4)]) C.1 C.2.1 dX8_heldBy_5 hl (by decide) rfl (fun ls hl => ?_)
  refine lv_aload_n C.1 C.2.1 dX8_heldBy_7 rfl (lv_at hl 1 rfl) ?_
  refine c_get C hw (inC inW8) (kd_lt kp96 (by decide)) (ce8 kp96) rfl 6 (by decide) (wc w_481) (v := .int (F 96 6)) rfl dX8_heldBy_8 ?_
  refine lv_iload C.1 C.2.1 dX8_heldBy_11 (lv_at hl 0 rfl) ?_
  refine g_ishr C dX8_heldBy_13 ?_
  refine lv_iconst (v := (1 : Int32)) C.1 C.2.1 dX8_heldBy_14 (by decide) ?_
  refine lv_iand C.1 C.2.1 dX8_heldBy_15 ?_
  refine lv_if_ne (tgt := 45) C.1 C.2.1 dX8_heldBy_16 (by decide) (fun c16 => ?_) (fun c16 => ?_)
  · replace hh := hh.1 c16
    exact tX8_heldBy_b45 C hR ha1 hh hw (lv_sub hl [1, 5, 0] rfl)
  · replace hh := hh.2 c16
    refine lv_aload_n C.1 C.2.1 dX8_heldBy_19 rfl (lv_at hl 1 rfl) ?_
    refine lv_iload_n C.1 C.2.1 dX8_heldBy_20 rfl (lv_at hl 3 rfl) ?_
    refine lv_iload_n C.1 C.2.1 dX8_heldBy_21 rfl (lv_at hl 4 rfl) ?_
    refine c_Vv C hw (ctX8_layFirst l D h cI cL cF cM F L r x2 x3 hh) (cwV 2 C.2.2.2.2 (gd_V w_1084 w_1086 w_38 w_123 w_1087) rfl rfl rfl cdX8_layFirst ⟨Nat.le_of_ble_eq_true rfl, Nat.le_of_ble_eq_true rfl⟩) rfl (kd_lt kp96 (by decide)) (ce8 kp96) rfl hl.1 (Nat.le_of_ble_eq_true rfl) dX8_heldBy_22 ⟨Nat.zero_le _, Nat.zero_le _⟩ (fun u22 H locs hh hw => ?_) rfl
    refine lv_aload_n C.1 C.2.1 dX8_heldBy_25 rfl (lv_at hl 1 rfl) ?_
    refine lv_aload_n C.1 C.2.1 dX8_heldBy_26 rfl (lv_at hl 2 rfl) ?_
    refine lv_iload C.1 C.2.1 dX8_heldBy_27 (lv_at hl 0 rfl) ?_
    refine c_Vv C hw (ctX8_findHeld l D h cI cL cF cM a1 ha1 u22.1 u22.2.1 u22.2.2 r2 hh) (cwV 2 C.2.2.2.2 (gd_V w_1090 w_1092 w_39 w_123 w_1093) rfl rfl rfl cdX8_findHeld ⟨Nat.le_of_ble_eq_true rfl, Nat.le_of_ble_eq_true rfl⟩) rfl (kd_lt kp96 (by decide)) (ce8 kp96) rfl hl.1 (Nat.le_of_ble_eq_true rfl) dX8_heldBy_29 ⟨Nat.zero_le _, Nat.zero_le _⟩ (fun u29 H locs hh hw => ?_) rfl
    refine lv_aload_n C.1 C.2.1 dX8_heldBy_32 rfl (lv_at hl 1 rfl) ?_
    refine lv_dup C.1 C.2.1 dX8_heldBy_33 rfl ?_
    refine c_get C hw (inC inW8) (kd_lt kp96 (by decide)) (ce8 kp96) rfl 6 (by decide) (wc w_481) (v := .int (u29.1 96 6)) rfl dX8_heldBy_34 ?_
    refine lv_iconst (v := (1 : Int32)) C.1 C.2.1 dX8_heldBy_37 (by decide) ?_
    refine lv_iload C.1 C.2.1 dX8_heldBy_38 (lv_at hl 0 rfl) ?_
    refine g_ishl C dX8_heldBy_40 ?_
    refine lv_ior C.1 C.2.1 dX8_heldBy_41 ?_
    refine c_puti C hw (inC inW8) tyX8 tyX8_ok nmX8 (kd_lt kp96 (by decide)) (ce8 kp96) rfl 6 (by decide) (wc w_481) rfl (ty := .int) (by decide +kernel) rfl rfl (Nat.le_of_ble_eq_true rfl) rfl dX8_heldBy_42 (fun H locs hw => ?_)
    exact tX8_heldBy_b45 C hR ha1 hh hw (lv_sub hl [1, 5, 0] rfl)
theorem ctX8_heldBy (l : Launch) (D : va_G) (h : Nat → Nat) (cI cL cF cM : ClassId) (a1 : Nat) (ha1 : kd a1 = 6) (F : Nat → Nat → Int32) (L : Nat → Nat → Int64) (r : Nat → Nat → Nat) (x2 : Int32) (x3 : Int32) (x4 : Int32) {K : Int32 → cS → Prop} (hh : wpX8_heldBy a1 F L r x2 x3 x4 K) : Ci l yX8_heldBy wsX8_heldBy rmX8_heldBy [.ref (h 96), .ref (h a1), .int x2, .int x3, .int x4] D (cT cI cL cF cM) (cWu h cI cL cF cM) (F, L, r) K := by
  refine Ci_of (cc := cX8_heldBy) (maxL := 6) (by decide) rfl (Nat.le_of_ble_eq_true rfl) ?_
  intro p e s m below meth c A Q C hw hR ls hl
  exact tX8_heldBy_b0 C hR ha1 hh hw hl
theorem cdX8_heldBy : yX8_heldBy.cls = RX8 ∧ yX8_heldBy.cls ≠ "java/lang/invoke/MethodHandle" ∧ yX8_heldBy.cls ≠ "java/lang/invoke/VarHandle" ∧ (parseMethodDescriptor yX8_heldBy.desc).map (fun d => d.parameters.length) = some 4 := by decide +kernel
abbrev rmX10_held : Room := { frames := 6, cells := 0, slots := 0, locals := 159 }
set_option maxHeartbeats 4000000 in
set_option maxRecDepth 100000 in
theorem tX10_held_b17 {K : Int32 → cS → Prop} (C : CallFix p m c cX10_held 4 s args wsX10_held RX10) (hR : Rti .int p l e rmX10_held s m args below meth c cX10_held D A (cT cI cL cF cM) (cWu h cI cL cF cM) K Q) {F : Nat → Nat → Int32} {L : Nat → Nat → Int64} {r : Nat → Nat → Nat} (hh : wpX10_held_b17 F L r K) {H : Heap} {locs : List Loc} {ls : Array Slot} (hw : Wd D A s (cT cI cL cF cM) (cW h cI cL cF cM F L r) H locs) (hl : lv_has ls 4 [(0, .ref (h 0))]) : W p l e rmX10_held s m args below meth c H locs 0 0 Q (F0 m 17 ls []) := by
  unfold wpX10_held_b17 at hh
  refine lv_iconst (v := (-1 : Int32)) C.1 C.2.1 dX10_held_17 (by decide) ?_
  exact hR _ _ _ (F, L, r) _ _ dX10_held_18 rfl hh hw
set_option maxHeartbeats 4000000 in
set_option maxRecDepth 100000 in
theorem tX10_held_b0 {K : Int32 → cS → Prop} (C : CallFix p m c cX10_held 4 s args wsX10_held RX10) (hR : Rti .int p l e rmX10_held s m args below meth c cX10_held D A (cT cI cL cF cM) (cWu h cI cL cF cM) K Q) {F : Nat → Nat → Int32} {L : Nat → Nat → Int64} {r : Nat → Nat → Nat} {x1 : Int32} {x2 : Int32} {x3 : Int32} (hh : wpX10_held_b0 F L r x1 x2 x3 K) {H : Heap} {locs : List Loc} {ls : Array Slot} (hw : Wd D A s (cT cI cL cF cM) (cW h cI cL cF cM F L r) H locs) (hl : lv_has ls 4 [(0, .ref (h 0)), (1, .int x1), (2, .int x2), (3, .int x3)]) : W p l e rmX10_held s m args below meth c H locs 0 0 Q (F0 m 0 ls []) := by
  unfold wpX10_held_b0 at hh
  refine lv_iload_n C.1 C.2.1 dX10_held_0 rfl (lv_at hl 1 rfl) ?_
  refine lv_iload_n C.1 C.2.1 dX10_held_1 rfl (lv_at hl 2 rfl) ?_
  refine wd_Si C hw (ctX8_isSmall l D x1 x2 hh) (va_cwS 2 C.2.2.2.2 (gd_S w_1073 w_1074 (ini_cls rfl w_123) w_1075) rfl rfl rfl cdX8_isSmall ⟨Nat.le_of_ble_eq_true rfl, Nat.le_of_ble_eq_true rfl⟩) rfl hl.1 (Nat.le_of_ble_eq_true rfl) dX10_held_2 ⟨Nat.zero_le _, Nat.zero_le _⟩ (fun r2 H locs hh hw => ?_) rfl
  refine lv_if_eq (tgt := 17) C.1 C.2.1 dX10_held_5 (by decide) (fun c5 => ?_) (fun c5 => ?_)
  · replace hh := hh.1 c5
    exact tX10_held_b17 C hR hh hw (lv_sub hl [0] rfl)
  · replace hh := hh.2 c5
    refine lv_iload_n C.1 C.2.1 dX10_held_8 rfl (lv_at hl 3 rfl) ?_
    refine lv_if_lt (tgt := 17) C.1 C.2.1 dX10_held_9 (by decide) (fun c9 => ?_) (fun c9 => ?_)
    · replace hh := hh.1 c9
      exact tX10_held_b17 C hR hh hw (lv_sub hl [0] rfl)
    · replace hh := hh.2 c9
      refine lv_iload_n C.1 C.2.1 dX10_held_12 rfl (lv_at hl 3 rfl) ?_
      refine lv_iconst (v := (1 : Int32)) C.1 C.2.1 dX10_held_13 (by decide) ?_
      refine lv_icmp_le (tgt := 19) C.1 C.2.1 dX10_held_14 (by decide) (fun c14 => ?_) (fun c14 => ?_)
      · replace hh := hh.1 c14
        refine lv_aload_n C.1 C.2.1 dX10_held_19 rfl (lv_at hl 0 rfl) ?_
        refine c_get C hw (inC inW10) (kd_lt kp0 (by decide)) (ce10 kp0) rfl 13 (by decide) (wc w_583) (v := .ref (h 96)) rfl dX10_held_20 ?_
        refine lv_aload_n C.1 C.2.1 dX10_held_23 rfl (lv_at hl 0 rfl) ?_
        refine c_get C hw (inC inW10) (kd_lt kp0 (by decide)) (ce10 kp0) rfl 3 (by decide) (wc w_573) (v := .ref (h (r 0 3))) rfl dX10_held_24 ?_
        refine lv_iload_n C.1 C.2.1 dX10_held_27 rfl (lv_at hl 1 rfl) ?_
        refine lv_iload_n C.1 C.2.1 dX10_held_28 rfl (lv_at hl 2 rfl) ?_
        refine lv_iload_n C.1 C.2.1 dX10_held_29 rfl (lv_at hl 3 rfl) ?_
        obtain ⟨hk0, hh⟩ := hh
        refine c_Vi C hw (ctX8_heldBy l D h cI cL cF cM (r 0 3) hk0 F L r x1 x2 x3 hh) (cwV 4 C.2.2.2.2 (gd_V w_1076 w_1077 w_1078 w_123 w_1079) rfl rfl rfl cdX8_heldBy ⟨Nat.le_of_ble_eq_true rfl, Nat.le_of_ble_eq_true rfl⟩) rfl (kd_lt kp96 (by decide)) (ce8 kp96) rfl hl.1 (Nat.le_of_ble_eq_true rfl) dX10_held_30 ⟨Nat.zero_le _, Nat.zero_le _⟩ (fun r30 u30 H locs hh hw => ?_) rfl
        exact hR _ _ _ (u30.1, u30.2.1, u30.2.2) _ _ dX10_held_33 rfl hh hw
      · replace hh := hh.2 c14
        exact tX10_held_b17 C hR hh hw (lv_sub hl [0] rfl)
theorem ctX10_held (l : Launch) (D : va_G) (h : Nat → Nat) (cI cL cF cM : ClassId) (F : Nat → Nat → Int32) (L : Nat → Nat → Int64) (r : Nat → Nat → Nat) (x1 : Int32) (x2 : Int32) (x3 : Int32) {K : Int32 → cS → Prop} (hh : wpX10_held F L r x1 x2 x3 K) : Ci l yX10_held wsX10_held rmX10_held [.ref (h 0), .int x1, .int x2, .int x3] D (cT cI cL cF cM) (cWu h cI cL cF cM) (F, L, r) K := by
  refine Ci_of (cc := cX10_held) (maxL := 4) (by decide) rfl (Nat.le_of_ble_eq_true rfl) ?_
  intro p e s m below meth c A Q C hw hR ls hl
  exact tX10_held_b0 C hR hh hw hl
theorem cdX10_held : yX10_held.cls = RX10 ∧ yX10_held.cls ≠ "java/lang/invoke/MethodHandle" ∧ yX10_held.cls ≠ "java/lang/invoke/VarHandle" ∧ (parseMethodDescriptor yX10_held.desc).map (fun d => d.parameters.length) = some 3 := by decide +kernel
abbrev rmX8_findLongest : Room := { frames := 4, cells := 0, slots := 0, locals := 111 }
set_option maxHeartbeats 4000000 in
set_option maxRecDepth 100000 in
theorem tX8_findLongest_b94 {a1 : Nat} {K : cS → Prop} (C : CallFix p m c cX8_findLongest 5 s args wsX8_findLongest RX8) (hR : Rtv p l e rmX8_findLongest s m args below meth c cX8_findLongest D A (cT cI cL cF cM) (cWu h cI cL cF cM) K Q) (ha1 : kd a1 = 6) {F : Nat → Nat → Int32} {L : Nat → Nat → Int64} {r : Nat → Nat → Nat} (hh : wpX8_findLongest_b94 a1 F L r K) {H : Heap} {locs : List Loc} {ls : Array Slot} (hw : Wd D A s (cT cI cL cF cM) (cW h cI cL cF cM F L r) H locs) (hl : lv_has ls 5 [(0, .ref (h 96))]) : W p l e rmX8_findLongest s m args below meth c H locs 0 0 Q (F0 m 94 ls []) := by
  unfold wpX8_findLongest_b94 at hh
  exact hR _ _ (F, L, r) _ _ dX8_findLongest_94 hh hw
set_option maxHeartbeats 4000000 in
set_option maxRecDepth 100000 in
theorem tX8_findLongest_b88 {a1 : Nat} {B9 : (Nat → Nat → Int32) → (Nat → Nat → Int64) → (Nat → Nat → Nat) → Int32 → Int32 → Prop} {K : cS → Prop} (C : CallFix p m c cX8_findLongest 5 s args wsX8_findLongest RX8) (hR : Rtv p l e rmX8_findLongest s m args below meth c cX8_findLongest D A (cT cI cL cF cM) (cWu h cI cL cF cM) K Q) (ha1 : kd a1 = 6) (hB9 : ∀ (F : Nat → Nat → Int32) (L : Nat → Nat → Int64) (r : Nat → Nat → Nat) (x2 : Int32) (x3 : Int32) (H : Heap) (locs : List Loc) (ls : Array Slot), B9 F L r x2 x3 → Wd D A s (cT cI cL cF cM) (cW h cI cL cF cM F L r) H locs → lv_has ls 5 [(0, .ref (h 96)), (1, .ref (h a1)), (2, .int x2), (3, .int x3)] → W p l e rmX8_findLongest s m args below meth c H locs 0 0 Q (F0 m 9 ls [])) {F : Nat → Nat → Int32} {L : Nat → Nat → Int64} {r : Nat → Nat → Nat} {x2 : Int32} {x3 : Int32} (hh : wpX8_findLongest_b88 B9 a1 F L r x2 x3 K) {H : Heap} {locs : List Loc} {ls : Array Slot} (hw : Wd D A s (cT cI cL cF cM) (cW h cI cL cF cM F L r) H locs) (hl : lv_has ls 5 [(0, .ref (h 96)), (1, .ref (h a1)), (2, .int x2), (3, .int x3)]) : W p l e rmX8_findLongest s m args below meth c H locs 0 0 Q (F0 m 88 ls []) := by
  unfold wpX8_findLongest_b88 at hh
  refine lv_iinc (v := x3 + (1 : Int32)) (lv' := [(3, .int (x3 + (1 : Int32))), (0, .ref (h 96)), (1, .ref (h a1)), (2, .int x2)]) C.1 C.2.1 dX8_findLongest_88 hl (k := 3) rfl rfl (by decide) rfl (fun ls hl => ?_)
  refine lv_goto (tgt := 9) C.1 C.2.1 dX8_findLongest_91 (by decide) ?_
  exact hB9 _ _ _ _ _ _ _ _ hh hw (lv_sub hl [1, 2, 3, 0] rfl)
set_option maxHeartbeats 4000000 in
set_option maxRecDepth 100000 in
theorem tX8_findLongest_b9_body {a1 : Nat} {B9 : (Nat → Nat → Int32) → (Nat → Nat → Int64) → (Nat → Nat → Nat) → Int32 → Int32 → Prop} {K : cS → Prop} (C : CallFix p m c cX8_findLongest 5 s args wsX8_findLongest RX8) (hR : Rtv p l e rmX8_findLongest s m args below meth c cX8_findLongest D A (cT cI cL cF cM) (cWu h cI cL cF cM) K Q) (ha1 : kd a1 = 6) (hB9 : ∀ (F : Nat → Nat → Int32) (L : Nat → Nat → Int64) (r : Nat → Nat → Nat) (x2 : Int32) (x3 : Int32) (H : Heap) (locs : List Loc) (ls : Array Slot), B9 F L r x2 x3 → Wd D A s (cT cI cL cF cM) (cW h cI cL cF cM F L r) H locs → lv_has ls 5 [(0, .ref (h 96)), (1, .ref (h a1)), (2, .int x2), (3, .int x3)] → W p l e rmX8_findLongest s m args below meth c H locs 0 0 Q (F0 m 9 ls [])) {F : Nat → Nat → Int32} {L : Nat → Nat → Int64} {r : Nat → Nat → Nat} {x2 : Int32} {x3 : Int32} (hh : wpX8_findLongest_b9_body B9 a1 F L r x2 x3 K) {H : Heap} {locs : List Loc} {ls : Array Slot} (hw : Wd D A s (cT cI cL cF cM) (cW h cI cL cF cM F L r) H locs) (hl : lv_has ls 5 [(0, .ref (h 96)), (1, .ref (h a1)), (2, .int x2), (3, .int x3)]) : W p l e rmX8_findLongest s m args below meth c H locs 0 0 Q (F0 m 9 ls []) := by
  unfold wpX8_findLongest_b9_body at hh
  refine lv_iload_n C.1 C.2.1 dX8_findLongest_9 rfl (lv_at hl 3 rfl) ?_
  refine lv_ldc C.1 C.2.1 C.2.2.2.1 (C.2.2.2.2 _ (wc w_1094)) dX8_findLongest_10 ?_
  refine lv_icmp_ge (tgt := 94) C.1 C.2.1 dX8_findLongest_12 (by decide) (fun c12 => ?_) (fun c12 => ?_)
  · replace hh := hh.1 c12
    exact tX8_findLongest_b94 C hR ha1 hh hw (lv_sub hl [0] rfl)
  · replace hh := hh.2 c12
    refine lv_aload_n C.1 C.2.1 dX8_findLongest_15 rfl (lv_at hl 0 rfl) ?_
    refine c_Vi C hw (ctX8_nextStart l D h cI cL cF cM F L r hh) (cwV 0 C.2.2.2.2 (gd_V w_1095 w_1097 w_40 w_123 w_1098) rfl rfl rfl cdX8_nextStart ⟨Nat.le_of_ble_eq_true rfl, Nat.le_of_ble_eq_true rfl⟩) rfl (kd_lt kp96 (by decide)) (ce8 kp96) rfl hl.1 (Nat.le_of_ble_eq_true rfl) dX8_findLongest_16 ⟨Nat.zero_le _, Nat.zero_le _⟩ (fun r16 u16 H locs hh hw => ?_) rfl
    refine lv_if_eq (tgt := 94) C.1 C.2.1 dX8_findLongest_19 (by decide) (fun c19 => ?_) (fun c19 => ?_)
    · replace hh := hh.1 c19
      exact tX8_findLongest_b94 C hR ha1 hh hw (lv_sub hl [0] rfl)
    · replace hh := hh.2 c19
      refine lv_aload_n C.1 C.2.1 dX8_findLongest_22 rfl (lv_at hl 0 rfl) ?_
      refine c_get C hw (inC inW8) (kd_lt kp96 (by decide)) (ce8 kp96) rfl 1 (by decide) (wc w_476) (v := .ref (h 86)) rfl dX8_findLongest_23 ?_
      refine lv_aload_n C.1 C.2.1 dX8_findLongest_26 rfl (lv_at hl 0 rfl) ?_
      refine c_get C hw (inC inW8) (kd_lt kp96 (by decide)) (ce8 kp96) rfl 4 (by decide) (wc w_479) (v := .int (u16.1 96 4)) rfl dX8_findLongest_27 ?_
      refine c_Vv C hw (ctX3_setDownWiped l D h cI cL cF cM 86 kp86 u16.1 u16.2.1 u16.2.2 (u16.1 96 4) hh) (cwV 1 C.2.2.2.2 (gd_V w_1117 w_914 w_915 w_121 w_916) rfl rfl rfl cdX3_setDownWiped ⟨Nat.le_of_ble_eq_true rfl, Nat.le_of_ble_eq_true rfl⟩) rfl (kd_lt kp86 (by decide)) (ce3 kp86) rfl hl.1 (Nat.le_of_ble_eq_true rfl) dX8_findLongest_30 ⟨Nat.zero_le _, Nat.zero_le _⟩ (fun u30 H locs hh hw => ?_) rfl
      refine lv_aload_n C.1 C.2.1 dX8_findLongest_33 rfl (lv_at hl 0 rfl) ?_
      refine c_get C hw (inC inW8) (kd_lt kp96 (by decide)) (ce8 kp96) rfl 1 (by decide) (wc w_476) (v := .ref (h 86)) rfl dX8_findLongest_34 ?_
      refine lv_aload_n C.1 C.2.1 dX8_findLongest_37 rfl (lv_at hl 1 rfl) ?_
      refine lv_aload_n C.1 C.2.1 dX8_findLongest_38 rfl (lv_at hl 0 rfl) ?_
      refine c_get C hw (inC inW8) (kd_lt kp96 (by decide)) (ce8 kp96) rfl 0 (by decide) (wc w_475) (v := .ref (h 66)) rfl dX8_findLongest_39 ?_
      refine lv_bipush (v := (100 : Int32)) C.1 C.2.1 dX8_findLongest_42 (by decide) ?_
      refine c_Vi C hw (ctX3_arrive l D h cI cL cF cM 86 a1 66 kp86 ha1 kp66 u30.1 u30.2.1 u30.2.2 (100 : Int32) hh) (cwV 3 C.2.2.2.2 (gd_V w_1118 w_1040 w_1041 w_121 w_1042) rfl rfl rfl cdX3_arrive ⟨Nat.le_of_ble_eq_true rfl, Nat.le_of_ble_eq_true rfl⟩) rfl (kd_lt kp86 (by decide)) (ce3 kp86) rfl hl.1 (Nat.le_of_ble_eq_true rfl) dX8_findLongest_44 ⟨Nat.zero_le _, Nat.zero_le _⟩ (fun r44 u44 H locs hh hw => ?_) rfl
      refine lv_istore (lv' := [(4, .int r44), (0, .ref (h 96)), (1, .ref (h a1)), (2, .int x2), (3, .int x3)]) C.1 C.2.1 dX8_findLongest_47 hl (by decide) rfl (fun ls hl => ?_)
      refine lv_iload C.1 C.2.1 dX8_findLongest_49 (lv_at hl 0 rfl) ?_
      refine lv_aload_n C.1 C.2.1 dX8_findLongest_51 rfl (lv_at hl 1 rfl) ?_
      refine c_get C hw (inC inW8) (kd_lt kp96 (by decide)) (ce8 kp96) rfl 10 (by decide) (wc w_485) (v := .ref (h 99)) rfl dX8_findLongest_52 ?_
      refine lv_iload_n C.1 C.2.1 dX8_findLongest_55 rfl (lv_at hl 3 rfl) ?_
      obtain ⟨hi56, hh⟩ := hh
      refine c_ial C hw (kd_lt kp99 (by decide)) (ce12 kp99) hi56 dX8_findLongest_56 ?_
      refine lv_icmp_le (tgt := 88) C.1 C.2.1 dX8_findLongest_57 (by decide) (fun c57 => ?_) (fun c57 => ?_)
      · replace hh := hh.1 c57
        exact tX8_findLongest_b88 C hR ha1 hB9 hh hw (lv_sub hl [1, 2, 3, 4] rfl)
      · replace hh := hh.2 c57
        refine lv_aload_n C.1 C.2.1 dX8_findLongest_60 rfl (lv_at hl 1 rfl) ?_
        refine c_get C hw (inC inW8) (kd_lt kp96 (by decide)) (ce8 kp96) rfl 10 (by decide) (wc w_485) (v := .ref (h 99)) rfl dX8_findLongest_61 ?_
        refine lv_iload_n C.1 C.2.1 dX8_findLongest_64 rfl (lv_at hl 3 rfl) ?_
        refine lv_iload C.1 C.2.1 dX8_findLongest_65 (lv_at hl 0 rfl) ?_
        obtain ⟨hi67, hh⟩ := hh
        refine c_ias C hw (kd_lt kp99 (by decide)) (ce12 kp99) hi67 dX8_findLongest_67 (fun H locs hw => ?_)
        refine lv_aload_n C.1 C.2.1 dX8_findLongest_68 rfl (lv_at hl 1 rfl) ?_
        refine c_get C hw (inC inW8) (kd_lt kp96 (by decide)) (ce8 kp96) rfl 11 (by decide) (wc w_486) (v := .ref (h 100)) rfl dX8_findLongest_69 ?_
        refine lv_iload_n C.1 C.2.1 dX8_findLongest_72 rfl (lv_at hl 3 rfl) ?_
        refine lv_aload_n C.1 C.2.1 dX8_findLongest_73 rfl (lv_at hl 1 rfl) ?_
        refine c_get C hw (inC inW8) (kd_lt kp96 (by decide)) (ce8 kp96) rfl 3 (by decide) (wc w_478) (v := .int ((pt u44.1 99 (ix x2) r44) 96 3)) rfl dX8_findLongest_74 ?_
        obtain ⟨hi77, hh⟩ := hh
        refine c_ias C hw (kd_lt kp100 (by decide)) (ce12 kp100) hi77 dX8_findLongest_77 (fun H locs hw => ?_)
        refine lv_aload_n C.1 C.2.1 dX8_findLongest_78 rfl (lv_at hl 1 rfl) ?_
        refine c_get C hw (inC inW8) (kd_lt kp96 (by decide)) (ce8 kp96) rfl 12 (by decide) (wc w_487) (v := .ref (h 101)) rfl dX8_findLongest_79 ?_
        refine lv_iload_n C.1 C.2.1 dX8_findLongest_82 rfl (lv_at hl 3 rfl) ?_
        refine lv_aload_n C.1 C.2.1 dX8_findLongest_83 rfl (lv_at hl 1 rfl) ?_
        refine c_get C hw (inC inW8) (kd_lt kp96 (by decide)) (ce8 kp96) rfl 4 (by decide) (wc w_479) (v := .int ((pt (pt u44.1 99 (ix x2) r44) 100 (ix x2) ((pt u44.1 99 (ix x2) r44) 96 3)) 96 4)) rfl dX8_findLongest_84 ?_
        obtain ⟨hi87, hh⟩ := hh
        refine c_ias C hw (kd_lt kp101 (by decide)) (ce12 kp101) hi87 dX8_findLongest_87 (fun H locs hw => ?_)
        exact tX8_findLongest_b88 C hR ha1 hB9 hh hw (lv_sub hl [1, 2, 3, 4] rfl)
theorem tX8_findLongest_b9 {a1 : Nat} {K : cS → Prop} (C : CallFix p m c cX8_findLongest 5 s args wsX8_findLongest RX8) (hR : Rtv p l e rmX8_findLongest s m args below meth c cX8_findLongest D A (cT cI cL cF cM) (cWu h cI cL cF cM) K Q) (ha1 : kd a1 = 6) (n : Nat) : ∀ (F : Nat → Nat → Int32) (L : Nat → Nat → Int64) (r : Nat → Nat → Nat) (x2 : Int32) (x3 : Int32) (H : Heap) (locs : List Loc) (ls : Array Slot), wpX8_findLongest_b9 a1 n F L r x2 x3 K → Wd D A s (cT cI cL cF cM) (cW h cI cL cF cM F L r) H locs → lv_has ls 5 [(0, .ref (h 96)), (1, .ref (h a1)), (2, .int x2), (3, .int x3)] → W p l e rmX8_findLongest s m args below meth c H locs 0 0 Q (F0 m 9 ls []) := by
  induction n with
  | zero => intro F L r x2 x3 H locs ls hh; exact hh.elim
  | succ n ih => intro F L r x2 x3 H locs ls hh hw hl; exact tX8_findLongest_b9_body C hR ha1 ih hh hw hl
set_option maxHeartbeats 4000000 in
set_option maxRecDepth 100000 in
theorem tX8_findLongest_b0 {a1 : Nat} {K : cS → Prop} (C : CallFix p m c cX8_findLongest 5 s args wsX8_findLongest RX8) (hR : Rtv p l e rmX8_findLongest s m args below meth c cX8_findLongest D A (cT cI cL cF cM) (cWu h cI cL cF cM) K Q) (ha1 : kd a1 = 6) {F : Nat → Nat → Int32} {L : Nat → Nat → Int64} {r : Nat → Nat → Nat} {x2 : Int32} (hh : wpX8_findLongest_b0 a1 F L r x2 K) {H : Heap} {locs : List Loc} {ls : Array Slot} (hw : Wd D A s (cT cI cL cF cM) (cW h cI cL cF cM F L r) H locs) (hl : lv_has ls 5 [(0, .ref (h 96)), (1, .ref (h a1)), (2, .int x2)]) : W p l e rmX8_findLongest s m args below meth c H locs 0 0 Q (F0 m 0 ls []) := by
  unfold wpX8_findLongest_b0 at hh
  refine lv_aload_n C.1 C.2.1 dX8_findLongest_0 rfl (lv_at hl 0 rfl) ?_
  refine c_get C hw (inC inW8) (kd_lt kp96 (by decide)) (ce8 kp96) rfl 10 (by decide) (wc w_485) (v := .ref (h 99)) rfl dX8_findLongest_1 ?_
  refine lv_iload_n C.1 C.2.1 dX8_findLongest_4 rfl (lv_at hl 2 rfl) ?_
  refine lv_iconst (v := (-1 : Int32)) C.1 C.2.1 dX8_findLongest_5 (by decide) ?_
  obtain ⟨hi6, hh⟩ := hh
  refine c_ias C hw (kd_lt kp99 (by decide)) (ce12 kp99) hi6 dX8_findLongest_6 (fun H locs hw => ?_)
  refine lv_iconst (v := (0 : Int32)) C.1 C.2.1 dX8_findLongest_7 (by decide) ?_
  refine lv_istore_n (lv' := [(3, .int (0 : Int32)), (0, .ref (h 96)), (1, .ref (h a1)), (2, .int x2)]) C.1 C.2.1 dX8_findLongest_8 rfl hl (by decide) rfl (fun ls hl => ?_)
  obtain ⟨n, hh⟩ := hh
  exact tX8_findLongest_b9 C hR ha1 n _ _ _ _ _ _ _ _ hh hw (lv_sub hl [1, 2, 3, 0] rfl)
theorem ctX8_findLongest (l : Launch) (D : va_G) (h : Nat → Nat) (cI cL cF cM : ClassId) (a1 : Nat) (ha1 : kd a1 = 6) (F : Nat → Nat → Int32) (L : Nat → Nat → Int64) (r : Nat → Nat → Nat) (x2 : Int32) {K : cS → Prop} (hh : wpX8_findLongest a1 F L r x2 K) : Cv l yX8_findLongest wsX8_findLongest rmX8_findLongest [.ref (h 96), .ref (h a1), .int x2] D (cT cI cL cF cM) (cWu h cI cL cF cM) (F, L, r) K := by
  refine Cv_of (cc := cX8_findLongest) (maxL := 5) (by decide) rfl (Nat.le_of_ble_eq_true rfl) ?_
  intro p e s m below meth c A Q C hw hR ls hl
  exact tX8_findLongest_b0 C hR ha1 hh hw hl
theorem cdX8_findLongest : yX8_findLongest.cls = RX8 ∧ yX8_findLongest.cls ≠ "java/lang/invoke/MethodHandle" ∧ yX8_findLongest.cls ≠ "java/lang/invoke/VarHandle" ∧ (parseMethodDescriptor yX8_findLongest.desc).map (fun d => d.parameters.length) = some 2 := by decide +kernel
abbrev rmX8_longestBy : Room := { frames := 5, cells := 0, slots := 0, locals := 135 }
set_option maxHeartbeats 4000000 in
set_option maxRecDepth 100000 in
theorem tX8_longestBy_b81 {a1 : Nat} {K : Int32 → cS → Prop} (C : CallFix p m c cX8_longestBy 6 s args wsX8_longestBy RX8) (hR : Rti .int p l e rmX8_longestBy s m args below meth c cX8_longestBy D A (cT cI cL cF cM) (cWu h cI cL cF cM) K Q) (ha1 : kd a1 = 6) {F : Nat → Nat → Int32} {L : Nat → Nat → Int64} {r : Nat → Nat → Nat} {k0 : Int32} (hh : wpX8_longestBy_b81 a1 F L r k0 K) {H : Heap} {locs : List Loc} {ls : Array Slot} (hw : Wd D A s (cT cI cL cF cM) (cW h cI cL cF cM F L r) H locs) (hl : lv_has ls 6 [(0, .ref (h 96))]) : W p l e rmX8_longestBy s m args below meth c H locs 0 0 Q (F0 m 81 ls [.int k0]) := by
  unfold wpX8_longestBy_b81 at hh
  exact hR _ _ _ (F, L, r) _ _ dX8_longestBy_81 rfl hh hw
set_option maxHeartbeats 4000000 in
set_option maxRecDepth 100000 in
theorem tX8_longestBy_b45 {a1 : Nat} {K : Int32 → cS → Prop} (C : CallFix p m c cX8_longestBy 6 s args wsX8_longestBy RX8) (hR : Rti .int p l e rmX8_longestBy s m args below meth c cX8_longestBy D A (cT cI cL cF cM) (cWu h cI cL cF cM) K Q) (ha1 : kd a1 = 6) {F : Nat → Nat → Int32} {L : Nat → Nat → Int64} {r : Nat → Nat → Nat} {x4 : Int32} {x5 : Int32} (hh : wpX8_longestBy_b45 a1 F L r x4 x5 K) {H : Heap} {locs : List Loc} {ls : Array Slot} (hw : Wd D A s (cT cI cL cF cM) (cW h cI cL cF cM F L r) H locs) (hl : lv_has ls 6 [(0, .ref (h 96)), (4, .int x4), (5, .int x5)]) : W p l e rmX8_longestBy s m args below meth c H locs 0 0 Q (F0 m 45 ls []) := by
  unfold wpX8_longestBy_b45 at hh
  refine lv_iload C.1 C.2.1 dX8_longestBy_45 (lv_at hl 1 rfl) ?_
  refine lv_if_ne (tgt := 58) C.1 C.2.1 dX8_longestBy_47 (by decide) (fun c47 => ?_) (fun c47 => ?_)
  · replace hh := hh.1 c47
    refine lv_iload C.1 C.2.1 dX8_longestBy_58 (lv_at hl 1 rfl) ?_
    refine lv_iconst (v := (1 : Int32)) C.1 C.2.1 dX8_longestBy_60 (by decide) ?_
    refine lv_icmp_ne (tgt := 74) C.1 C.2.1 dX8_longestBy_61 (by decide) (fun c61 => ?_) (fun c61 => ?_)
    · replace hh := hh.1 c61
      refine lv_aload_n C.1 C.2.1 dX8_longestBy_74 rfl (lv_at hl 0 rfl) ?_
      refine c_get C hw (inC inW8) (kd_lt kp96 (by decide)) (ce8 kp96) rfl 12 (by decide) (wc w_487) (v := .ref (h 101)) rfl dX8_longestBy_75 ?_
      refine lv_iload C.1 C.2.1 dX8_longestBy_78 (lv_at hl 2 rfl) ?_
      obtain ⟨hi80, hh⟩ := hh
      refine c_ial C hw (kd_lt kp101 (by decide)) (ce12 kp101) hi80 dX8_longestBy_80 ?_
      exact tX8_longestBy_b81 C hR ha1 hh hw (lv_sub hl [0] rfl)
    · replace hh := hh.2 c61
      refine lv_aload_n C.1 C.2.1 dX8_longestBy_64 rfl (lv_at hl 0 rfl) ?_
      refine c_get C hw (inC inW8) (kd_lt kp96 (by decide)) (ce8 kp96) rfl 11 (by decide) (wc w_486) (v := .ref (h 100)) rfl dX8_longestBy_65 ?_
      refine lv_iload C.1 C.2.1 dX8_longestBy_68 (lv_at hl 2 rfl) ?_
      obtain ⟨hi70, hh⟩ := hh
      refine c_ial C hw (kd_lt kp100 (by decide)) (ce12 kp100) hi70 dX8_longestBy_70 ?_
      refine lv_goto (tgt := 81) C.1 C.2.1 dX8_longestBy_71 (by decide) ?_
      exact tX8_longestBy_b81 C hR ha1 hh hw (lv_sub hl [0] rfl)
  · replace hh := hh.2 c47
    refine lv_aload_n C.1 C.2.1 dX8_longestBy_50 rfl (lv_at hl 0 rfl) ?_
    refine c_get C hw (inC inW8) (kd_lt kp96 (by decide)) (ce8 kp96) rfl 10 (by decide) (wc w_485) (v := .ref (h 99)) rfl dX8_longestBy_51 ?_
    refine lv_iload C.1 C.2.1 dX8_longestBy_54 (lv_at hl 2 rfl) ?_
    obtain ⟨hi56, hh⟩ := hh
    refine c_ial C hw (kd_lt kp99 (by decide)) (ce12 kp99) hi56 dX8_longestBy_56 ?_
    exact hR _ _ _ (F, L, r) _ _ dX8_longestBy_57 rfl hh hw
set_option maxHeartbeats 4000000 in
set_option maxRecDepth 100000 in
theorem tX8_longestBy_b0 {a1 : Nat} {K : Int32 → cS → Prop} (C : CallFix p m c cX8_longestBy 6 s args wsX8_longestBy RX8) (hR : Rti .int p l e rmX8_longestBy s m args below meth c cX8_longestBy D A (cT cI cL cF cM) (cWu h cI cL cF cM) K Q) (ha1 : kd a1 = 6) {F : Nat → Nat → Int32} {L : Nat → Nat → Int64} {r : Nat → Nat → Nat} {x2 : Int32} {x3 : Int32} {x4 : Int32} (hh : wpX8_longestBy_b0 a1 F L r x2 x3 x4 K) {H : Heap} {locs : List Loc} {ls : Array Slot} (hw : Wd D A s (cT cI cL cF cM) (cW h cI cL cF cM F L r) H locs) (hl : lv_has ls 6 [(0, .ref (h 96)), (1, .ref (h a1)), (2, .int x2), (3, .int x3), (4, .int x4)]) : W p l e rmX8_longestBy s m args below meth c H locs 0 0 Q (F0 m 0 ls []) := by
  unfold wpX8_longestBy_b0 at hh
  refine lv_iload_n C.1 C.2.1 dX8_longestBy_0 rfl (lv_at hl 2 rfl) ?_
  refine lv_iload_n C.1 C.2.1 dX8_longestBy_1 rfl (lv_at hl 3 rfl) ?_
  refine wd_Si C hw (ctX8_sizeOf l D x2 x3 hh) (va_cwS 2 C.2.2.2.2 (gd_S w_1080 w_1081 (ini_cls rfl w_123) w_1082) rfl rfl rfl cdX8_sizeOf ⟨Nat.le_of_ble_eq_true rfl, Nat.le_of_ble_eq_true rfl⟩) rfl hl.1 (Nat.le_of_ble_eq_true rfl) dX8_longestBy_2 ⟨Nat.zero_le _, Nat.zero_le _⟩ (fun r2 H locs hh hw => ?_) rfl
  refine lv_istore (lv' := [(5, .int r2), (0, .ref (h 96)), (1, .ref (h a1)), (2, .int x2), (3, .int x3), (4, .int x4)]) C.1 C.2.1 dX8_longestBy_5 hl (by decide) rfl (fun ls hl => ?_)
  refine lv_aload_n C.1 C.2.1 dX8_longestBy_7 rfl (lv_at hl 1 rfl) ?_
  refine c_get C hw (inC inW8) (kd_lt kp96 (by decide)) (ce8 kp96) rfl 7 (by decide) (wc w_482) (v := .int (F 96 7)) rfl dX8_longestBy_8 ?_
  refine lv_iload C.1 C.2.1 dX8_longestBy_11 (lv_at hl 0 rfl) ?_
  refine g_ishr C dX8_longestBy_13 ?_
  refine lv_iconst (v := (1 : Int32)) C.1 C.2.1 dX8_longestBy_14 (by decide) ?_
  refine lv_iand C.1 C.2.1 dX8_longestBy_15 ?_
  refine lv_if_ne (tgt := 45) C.1 C.2.1 dX8_longestBy_16 (by decide) (fun c16 => ?_) (fun c16 => ?_)
  · replace hh := hh.1 c16
    exact tX8_longestBy_b45 C hR ha1 hh hw (lv_sub hl [1, 5, 0] rfl)
  · replace hh := hh.2 c16
    refine lv_aload_n C.1 C.2.1 dX8_longestBy_19 rfl (lv_at hl 1 rfl) ?_
    refine lv_iload_n C.1 C.2.1 dX8_longestBy_20 rfl (lv_at hl 3 rfl) ?_
    refine lv_iload_n C.1 C.2.1 dX8_longestBy_21 rfl (lv_at hl 4 rfl) ?_
    refine c_Vv C hw (ctX8_layFirst l D h cI cL cF cM F L r x2 x3 hh) (cwV 2 C.2.2.2.2 (gd_V w_1084 w_1086 w_38 w_123 w_1087) rfl rfl rfl cdX8_layFirst ⟨Nat.le_of_ble_eq_true rfl, Nat.le_of_ble_eq_true rfl⟩) rfl (kd_lt kp96 (by decide)) (ce8 kp96) rfl hl.1 (Nat.le_of_ble_eq_true rfl) dX8_longestBy_22 ⟨Nat.zero_le _, Nat.zero_le _⟩ (fun u22 H locs hh hw => ?_) rfl
    refine lv_aload_n C.1 C.2.1 dX8_longestBy_25 rfl (lv_at hl 1 rfl) ?_
    refine lv_aload_n C.1 C.2.1 dX8_longestBy_26 rfl (lv_at hl 2 rfl) ?_
    refine lv_iload C.1 C.2.1 dX8_longestBy_27 (lv_at hl 0 rfl) ?_
    refine c_Vv C hw (ctX8_findLongest l D h cI cL cF cM a1 ha1 u22.1 u22.2.1 u22.2.2 r2 hh) (cwV 2 C.2.2.2.2 (gd_V w_1127 w_1129 w_43 w_123 w_1130) rfl rfl rfl cdX8_findLongest ⟨Nat.le_of_ble_eq_true rfl, Nat.le_of_ble_eq_true rfl⟩) rfl (kd_lt kp96 (by decide)) (ce8 kp96) rfl hl.1 (Nat.le_of_ble_eq_true rfl) dX8_longestBy_29 ⟨Nat.zero_le _, Nat.zero_le _⟩ (fun u29 H locs hh hw => ?_) rfl
    refine lv_aload_n C.1 C.2.1 dX8_longestBy_32 rfl (lv_at hl 1 rfl) ?_
    refine lv_dup C.1 C.2.1 dX8_longestBy_33 rfl ?_
    refine c_get C hw (inC inW8) (kd_lt kp96 (by decide)) (ce8 kp96) rfl 7 (by decide) (wc w_482) (v := .int (u29.1 96 7)) rfl dX8_longestBy_34 ?_
    refine lv_iconst (v := (1 : Int32)) C.1 C.2.1 dX8_longestBy_37 (by decide) ?_
    refine lv_iload C.1 C.2.1 dX8_longestBy_38 (lv_at hl 0 rfl) ?_
    refine g_ishl C dX8_longestBy_40 ?_
    refine lv_ior C.1 C.2.1 dX8_longestBy_41 ?_
    refine c_puti C hw (inC inW8) tyX8 tyX8_ok nmX8 (kd_lt kp96 (by decide)) (ce8 kp96) rfl 7 (by decide) (wc w_482) rfl (ty := .int) (by decide +kernel) rfl rfl (Nat.le_of_ble_eq_true rfl) rfl dX8_longestBy_42 (fun H locs hw => ?_)
    exact tX8_longestBy_b45 C hR ha1 hh hw (lv_sub hl [1, 5, 0] rfl)
theorem ctX8_longestBy (l : Launch) (D : va_G) (h : Nat → Nat) (cI cL cF cM : ClassId) (a1 : Nat) (ha1 : kd a1 = 6) (F : Nat → Nat → Int32) (L : Nat → Nat → Int64) (r : Nat → Nat → Nat) (x2 : Int32) (x3 : Int32) (x4 : Int32) {K : Int32 → cS → Prop} (hh : wpX8_longestBy a1 F L r x2 x3 x4 K) : Ci l yX8_longestBy wsX8_longestBy rmX8_longestBy [.ref (h 96), .ref (h a1), .int x2, .int x3, .int x4] D (cT cI cL cF cM) (cWu h cI cL cF cM) (F, L, r) K := by
  refine Ci_of (cc := cX8_longestBy) (maxL := 6) (by decide) rfl (Nat.le_of_ble_eq_true rfl) ?_
  intro p e s m below meth c A Q C hw hR ls hl
  exact tX8_longestBy_b0 C hR ha1 hh hw hl
theorem cdX8_longestBy : yX8_longestBy.cls = RX8 ∧ yX8_longestBy.cls ≠ "java/lang/invoke/MethodHandle" ∧ yX8_longestBy.cls ≠ "java/lang/invoke/VarHandle" ∧ (parseMethodDescriptor yX8_longestBy.desc).map (fun d => d.parameters.length) = some 4 := by decide +kernel
abbrev rmX10_longest : Room := { frames := 6, cells := 0, slots := 0, locals := 160 }
set_option maxHeartbeats 4000000 in
set_option maxRecDepth 100000 in
theorem tX10_longest_b17 {K : Int32 → cS → Prop} (C : CallFix p m c cX10_longest 4 s args wsX10_longest RX10) (hR : Rti .int p l e rmX10_longest s m args below meth c cX10_longest D A (cT cI cL cF cM) (cWu h cI cL cF cM) K Q) {F : Nat → Nat → Int32} {L : Nat → Nat → Int64} {r : Nat → Nat → Nat} (hh : wpX10_longest_b17 F L r K) {H : Heap} {locs : List Loc} {ls : Array Slot} (hw : Wd D A s (cT cI cL cF cM) (cW h cI cL cF cM F L r) H locs) (hl : lv_has ls 4 [(0, .ref (h 0))]) : W p l e rmX10_longest s m args below meth c H locs 0 0 Q (F0 m 17 ls []) := by
  unfold wpX10_longest_b17 at hh
  refine lv_iconst (v := (-1 : Int32)) C.1 C.2.1 dX10_longest_17 (by decide) ?_
  exact hR _ _ _ (F, L, r) _ _ dX10_longest_18 rfl hh hw
set_option maxHeartbeats 4000000 in
set_option maxRecDepth 100000 in
theorem tX10_longest_b0 {K : Int32 → cS → Prop} (C : CallFix p m c cX10_longest 4 s args wsX10_longest RX10) (hR : Rti .int p l e rmX10_longest s m args below meth c cX10_longest D A (cT cI cL cF cM) (cWu h cI cL cF cM) K Q) {F : Nat → Nat → Int32} {L : Nat → Nat → Int64} {r : Nat → Nat → Nat} {x1 : Int32} {x2 : Int32} {x3 : Int32} (hh : wpX10_longest_b0 F L r x1 x2 x3 K) {H : Heap} {locs : List Loc} {ls : Array Slot} (hw : Wd D A s (cT cI cL cF cM) (cW h cI cL cF cM F L r) H locs) (hl : lv_has ls 4 [(0, .ref (h 0)), (1, .int x1), (2, .int x2), (3, .int x3)]) : W p l e rmX10_longest s m args below meth c H locs 0 0 Q (F0 m 0 ls []) := by
  unfold wpX10_longest_b0 at hh
  refine lv_iload_n C.1 C.2.1 dX10_longest_0 rfl (lv_at hl 1 rfl) ?_
  refine lv_iload_n C.1 C.2.1 dX10_longest_1 rfl (lv_at hl 2 rfl) ?_
  refine wd_Si C hw (ctX8_isSmall l D x1 x2 hh) (va_cwS 2 C.2.2.2.2 (gd_S w_1073 w_1074 (ini_cls rfl w_123) w_1075) rfl rfl rfl cdX8_isSmall ⟨Nat.le_of_ble_eq_true rfl, Nat.le_of_ble_eq_true rfl⟩) rfl hl.1 (Nat.le_of_ble_eq_true rfl) dX10_longest_2 ⟨Nat.zero_le _, Nat.zero_le _⟩ (fun r2 H locs hh hw => ?_) rfl
  refine lv_if_eq (tgt := 17) C.1 C.2.1 dX10_longest_5 (by decide) (fun c5 => ?_) (fun c5 => ?_)
  · replace hh := hh.1 c5
    exact tX10_longest_b17 C hR hh hw (lv_sub hl [0] rfl)
  · replace hh := hh.2 c5
    refine lv_iload_n C.1 C.2.1 dX10_longest_8 rfl (lv_at hl 3 rfl) ?_
    refine lv_if_lt (tgt := 17) C.1 C.2.1 dX10_longest_9 (by decide) (fun c9 => ?_) (fun c9 => ?_)
    · replace hh := hh.1 c9
      exact tX10_longest_b17 C hR hh hw (lv_sub hl [0] rfl)
    · replace hh := hh.2 c9
      refine lv_iload_n C.1 C.2.1 dX10_longest_12 rfl (lv_at hl 3 rfl) ?_
      refine lv_iconst (v := (2 : Int32)) C.1 C.2.1 dX10_longest_13 (by decide) ?_
      refine lv_icmp_le (tgt := 19) C.1 C.2.1 dX10_longest_14 (by decide) (fun c14 => ?_) (fun c14 => ?_)
      · replace hh := hh.1 c14
        refine lv_aload_n C.1 C.2.1 dX10_longest_19 rfl (lv_at hl 0 rfl) ?_
        refine c_get C hw (inC inW10) (kd_lt kp0 (by decide)) (ce10 kp0) rfl 13 (by decide) (wc w_583) (v := .ref (h 96)) rfl dX10_longest_20 ?_
        refine lv_aload_n C.1 C.2.1 dX10_longest_23 rfl (lv_at hl 0 rfl) ?_
        refine c_get C hw (inC inW10) (kd_lt kp0 (by decide)) (ce10 kp0) rfl 3 (by decide) (wc w_573) (v := .ref (h (r 0 3))) rfl dX10_longest_24 ?_
        refine lv_iload_n C.1 C.2.1 dX10_longest_27 rfl (lv_at hl 1 rfl) ?_
        refine lv_iload_n C.1 C.2.1 dX10_longest_28 rfl (lv_at hl 2 rfl) ?_
        refine lv_iload_n C.1 C.2.1 dX10_longest_29 rfl (lv_at hl 3 rfl) ?_
        obtain ⟨hk0, hh⟩ := hh
        refine c_Vi C hw (ctX8_longestBy l D h cI cL cF cM (r 0 3) hk0 F L r x1 x2 x3 hh) (cwV 4 C.2.2.2.2 (gd_V w_1123 w_1124 w_1125 w_123 w_1126) rfl rfl rfl cdX8_longestBy ⟨Nat.le_of_ble_eq_true rfl, Nat.le_of_ble_eq_true rfl⟩) rfl (kd_lt kp96 (by decide)) (ce8 kp96) rfl hl.1 (Nat.le_of_ble_eq_true rfl) dX10_longest_30 ⟨Nat.zero_le _, Nat.zero_le _⟩ (fun r30 u30 H locs hh hw => ?_) rfl
        exact hR _ _ _ (u30.1, u30.2.1, u30.2.2) _ _ dX10_longest_33 rfl hh hw
      · replace hh := hh.2 c14
        exact tX10_longest_b17 C hR hh hw (lv_sub hl [0] rfl)
theorem ctX10_longest (l : Launch) (D : va_G) (h : Nat → Nat) (cI cL cF cM : ClassId) (F : Nat → Nat → Int32) (L : Nat → Nat → Int64) (r : Nat → Nat → Nat) (x1 : Int32) (x2 : Int32) (x3 : Int32) {K : Int32 → cS → Prop} (hh : wpX10_longest F L r x1 x2 x3 K) : Ci l yX10_longest wsX10_longest rmX10_longest [.ref (h 0), .int x1, .int x2, .int x3] D (cT cI cL cF cM) (cWu h cI cL cF cM) (F, L, r) K := by
  refine Ci_of (cc := cX10_longest) (maxL := 4) (by decide) rfl (Nat.le_of_ble_eq_true rfl) ?_
  intro p e s m below meth c A Q C hw hR ls hl
  exact tX10_longest_b0 C hR hh hw hl
theorem cdX10_longest : yX10_longest.cls = RX10 ∧ yX10_longest.cls ≠ "java/lang/invoke/MethodHandle" ∧ yX10_longest.cls ≠ "java/lang/invoke/VarHandle" ∧ (parseMethodDescriptor yX10_longest.desc).map (fun d => d.parameters.length) = some 3 := by decide +kernel
abbrev rmX6_usesYes : Room := { frames := 1, cells := 0, slots := 0, locals := 21 }
set_option maxHeartbeats 4000000 in
set_option maxRecDepth 100000 in
theorem tX6_usesYes_b115 {a0 : Nat} {K : Int32 → cS → Prop} (C : CallFix p m c cX6_usesYes 7 s args wsX6_usesYes RX6) (hR : Rti .boolean p l e rmX6_usesYes s m args below meth c cX6_usesYes D A (cT cI cL cF cM) (cWu h cI cL cF cM) K Q) (ha0 : kd a0 = 6) {F : Nat → Nat → Int32} {L : Nat → Nat → Int64} {r : Nat → Nat → Nat} {k0 : Int32} (hh : wpX6_usesYes_b115 a0 F L r k0 K) {H : Heap} {locs : List Loc} {ls : Array Slot} (hw : Wd D A s (cT cI cL cF cM) (cW h cI cL cF cM F L r) H locs) (hl : lv_has ls 7 [(0, .ref (h a0))]) : W p l e rmX6_usesYes s m args below meth c H locs 0 0 Q (F0 m 115 ls [.int k0]) := by
  unfold wpX6_usesYes_b115 at hh
  obtain ⟨hb115, hh⟩ := hh
  exact hR _ _ _ (F, L, r) _ _ dX6_usesYes_115 (isB_nar hb115) hh hw
set_option maxHeartbeats 4000000 in
set_option maxRecDepth 100000 in
theorem tX6_usesYes_b114 {a0 : Nat} {K : Int32 → cS → Prop} (C : CallFix p m c cX6_usesYes 7 s args wsX6_usesYes RX6) (hR : Rti .boolean p l e rmX6_usesYes s m args below meth c cX6_usesYes D A (cT cI cL cF cM) (cWu h cI cL cF cM) K Q) (ha0 : kd a0 = 6) {F : Nat → Nat → Int32} {L : Nat → Nat → Int64} {r : Nat → Nat → Nat} (hh : wpX6_usesYes_b114 a0 F L r K) {H : Heap} {locs : List Loc} {ls : Array Slot} (hw : Wd D A s (cT cI cL cF cM) (cW h cI cL cF cM F L r) H locs) (hl : lv_has ls 7 [(0, .ref (h a0))]) : W p l e rmX6_usesYes s m args below meth c H locs 0 0 Q (F0 m 114 ls []) := by
  unfold wpX6_usesYes_b114 at hh
  refine lv_iconst (v := (0 : Int32)) C.1 C.2.1 dX6_usesYes_114 (by decide) ?_
  exact tX6_usesYes_b115 C hR ha0 hh hw hl
set_option maxHeartbeats 4000000 in
set_option maxRecDepth 100000 in
theorem tX6_usesYes_b86 {a0 : Nat} {B15 : (Nat → Nat → Int32) → (Nat → Nat → Int64) → (Nat → Nat → Nat) → Int32 → Int32 → Int32 → Int32 → Int32 → Prop} {B51 : (Nat → Nat → Int32) → (Nat → Nat → Int64) → (Nat → Nat → Nat) → Int32 → Int32 → Int32 → Int32 → Int32 → Int32 → Prop} {K : Int32 → cS → Prop} (C : CallFix p m c cX6_usesYes 7 s args wsX6_usesYes RX6) (hR : Rti .boolean p l e rmX6_usesYes s m args below meth c cX6_usesYes D A (cT cI cL cF cM) (cWu h cI cL cF cM) K Q) (ha0 : kd a0 = 6) (hB15 : ∀ (F : Nat → Nat → Int32) (L : Nat → Nat → Int64) (r : Nat → Nat → Nat) (x1 : Int32) (x2 : Int32) (x3 : Int32) (x4 : Int32) (x5 : Int32) (H : Heap) (locs : List Loc) (ls : Array Slot), B15 F L r x1 x2 x3 x4 x5 → Wd D A s (cT cI cL cF cM) (cW h cI cL cF cM F L r) H locs → lv_has ls 7 [(0, .ref (h a0)), (1, .int x1), (2, .int x2), (3, .int x3), (4, .int x4), (5, .int x5)] → W p l e rmX6_usesYes s m args below meth c H locs 0 0 Q (F0 m 15 ls [])) (hB51 : ∀ (F : Nat → Nat → Int32) (L : Nat → Nat → Int64) (r : Nat → Nat → Nat) (x1 : Int32) (x2 : Int32) (x3 : Int32) (x4 : Int32) (x5 : Int32) (x6 : Int32) (H : Heap) (locs : List Loc) (ls : Array Slot), B51 F L r x1 x2 x3 x4 x5 x6 → Wd D A s (cT cI cL cF cM) (cW h cI cL cF cM F L r) H locs → lv_has ls 7 [(0, .ref (h a0)), (1, .int x1), (2, .int x2), (3, .int x3), (4, .int x4), (5, .int x5), (6, .int x6)] → W p l e rmX6_usesYes s m args below meth c H locs 0 0 Q (F0 m 51 ls [])) {F : Nat → Nat → Int32} {L : Nat → Nat → Int64} {r : Nat → Nat → Nat} {k0 : Int32} {k1 : Int32} {x1 : Int32} {x2 : Int32} {x3 : Int32} {x5 : Int32} {x6 : Int32} (hh : wpX6_usesYes_b86 B15 B51 a0 F L r k0 k1 x1 x2 x3 x5 x6 K) {H : Heap} {locs : List Loc} {ls : Array Slot} (hw : Wd D A s (cT cI cL cF cM) (cW h cI cL cF cM F L r) H locs) (hl : lv_has ls 7 [(0, .ref (h a0)), (1, .int x1), (2, .int x2), (3, .int x3), (5, .int x5), (6, .int x6)]) : W p l e rmX6_usesYes s m args below meth c H locs 0 0 Q (F0 m 86 ls [.int k1, .int k0]) := by
  unfold wpX6_usesYes_b86 at hh
  refine lv_ior C.1 C.2.1 dX6_usesYes_86 ?_
  refine lv_istore (lv' := [(4, .int (k0 ||| k1)), (0, .ref (h a0)), (1, .int x1), (2, .int x2), (3, .int x3), (5, .int x5), (6, .int x6)]) C.1 C.2.1 dX6_usesYes_87 hl (by decide) rfl (fun ls hl => ?_)
  refine lv_iinc (v := x6 + (1 : Int32)) (lv' := [(6, .int (x6 + (1 : Int32))), (4, .int (k0 ||| k1)), (0, .ref (h a0)), (1, .int x1), (2, .int x2), (3, .int x3), (5, .int x5)]) C.1 C.2.1 dX6_usesYes_89 hl (k := 6) rfl rfl (by decide) rfl (fun ls hl => ?_)
  refine lv_goto (tgt := 51) C.1 C.2.1 dX6_usesYes_92 (by decide) ?_
  exact hB51 _ _ _ _ _ _ _ _ _ _ _ _ hh hw (lv_sub hl [2, 3, 4, 5, 1, 6, 0] rfl)
set_option maxHeartbeats 4000000 in
set_option maxRecDepth 100000 in
theorem tX6_usesYes_b51_body {a0 : Nat} {B15 : (Nat → Nat → Int32) → (Nat → Nat → Int64) → (Nat → Nat → Nat) → Int32 → Int32 → Int32 → Int32 → Int32 → Prop} {B51 : (Nat → Nat → Int32) → (Nat → Nat → Int64) → (Nat → Nat → Nat) → Int32 → Int32 → Int32 → Int32 → Int32 → Int32 → Prop} {K : Int32 → cS → Prop} (C : CallFix p m c cX6_usesYes 7 s args wsX6_usesYes RX6) (hR : Rti .boolean p l e rmX6_usesYes s m args below meth c cX6_usesYes D A (cT cI cL cF cM) (cWu h cI cL cF cM) K Q) (ha0 : kd a0 = 6) (hB15 : ∀ (F : Nat → Nat → Int32) (L : Nat → Nat → Int64) (r : Nat → Nat → Nat) (x1 : Int32) (x2 : Int32) (x3 : Int32) (x4 : Int32) (x5 : Int32) (H : Heap) (locs : List Loc) (ls : Array Slot), B15 F L r x1 x2 x3 x4 x5 → Wd D A s (cT cI cL cF cM) (cW h cI cL cF cM F L r) H locs → lv_has ls 7 [(0, .ref (h a0)), (1, .int x1), (2, .int x2), (3, .int x3), (4, .int x4), (5, .int x5)] → W p l e rmX6_usesYes s m args below meth c H locs 0 0 Q (F0 m 15 ls [])) (hB51 : ∀ (F : Nat → Nat → Int32) (L : Nat → Nat → Int64) (r : Nat → Nat → Nat) (x1 : Int32) (x2 : Int32) (x3 : Int32) (x4 : Int32) (x5 : Int32) (x6 : Int32) (H : Heap) (locs : List Loc) (ls : Array Slot), B51 F L r x1 x2 x3 x4 x5 x6 → Wd D A s (cT cI cL cF cM) (cW h cI cL cF cM F L r) H locs → lv_has ls 7 [(0, .ref (h a0)), (1, .int x1), (2, .int x2), (3, .int x3), (4, .int x4), (5, .int x5), (6, .int x6)] → W p l e rmX6_usesYes s m args below meth c H locs 0 0 Q (F0 m 51 ls [])) {F : Nat → Nat → Int32} {L : Nat → Nat → Int64} {r : Nat → Nat → Nat} {x1 : Int32} {x2 : Int32} {x3 : Int32} {x4 : Int32} {x5 : Int32} {x6 : Int32} (hh : wpX6_usesYes_b51_body B15 B51 a0 F L r x1 x2 x3 x4 x5 x6 K) {H : Heap} {locs : List Loc} {ls : Array Slot} (hw : Wd D A s (cT cI cL cF cM) (cW h cI cL cF cM F L r) H locs) (hl : lv_has ls 7 [(0, .ref (h a0)), (1, .int x1), (2, .int x2), (3, .int x3), (4, .int x4), (5, .int x5), (6, .int x6)]) : W p l e rmX6_usesYes s m args below meth c H locs 0 0 Q (F0 m 51 ls []) := by
  unfold wpX6_usesYes_b51_body at hh
  refine lv_iload C.1 C.2.1 dX6_usesYes_51 (lv_at hl 6 rfl) ?_
  refine lv_aload_n C.1 C.2.1 dX6_usesYes_53 rfl (lv_at hl 0 rfl) ?_
  refine c_get C hw (inC inW6) (kd_lt ha0 (by decide)) (ce6 ha0) rfl 2 (by decide) (wc w_232) (v := .ref (h (a0 + 2))) rfl dX6_usesYes_54 ?_
  refine lv_iload C.1 C.2.1 dX6_usesYes_57 (lv_at hl 5 rfl) ?_
  obtain ⟨hi59, hh⟩ := hh
  refine c_ial C hw (kd_lt (kd6_2 ha0) (by decide)) (ce20 (kd6_2 ha0)) hi59 dX6_usesYes_59 ?_
  refine lv_icmp_ge (tgt := 95) C.1 C.2.1 dX6_usesYes_60 (by decide) (fun c60 => ?_) (fun c60 => ?_)
  · replace hh := hh.1 c60
    refine lv_iinc (v := x5 + (1 : Int32)) (lv' := [(5, .int (x5 + (1 : Int32))), (0, .ref (h a0)), (1, .int x1), (2, .int x2), (3, .int x3), (4, .int x4), (6, .int x6)]) C.1 C.2.1 dX6_usesYes_95 hl (k := 5) rfl rfl (by decide) rfl (fun ls hl => ?_)
    refine lv_goto (tgt := 15) C.1 C.2.1 dX6_usesYes_98 (by decide) ?_
    exact hB15 _ _ _ _ _ _ _ _ _ _ _ hh hw (lv_sub hl [1, 2, 3, 4, 5, 0] rfl)
  · replace hh := hh.2 c60
    refine lv_iload C.1 C.2.1 dX6_usesYes_63 (lv_at hl 4 rfl) ?_
    refine lv_aload_n C.1 C.2.1 dX6_usesYes_65 rfl (lv_at hl 0 rfl) ?_
    refine c_get C hw (inC inW6) (kd_lt ha0 (by decide)) (ce6 ha0) rfl 1 (by decide) (wc w_230) (v := .ref (h (a0 + 1))) rfl dX6_usesYes_66 ?_
    refine lv_iload C.1 C.2.1 dX6_usesYes_69 (lv_at hl 6 rfl) ?_
    obtain ⟨hi71, hh⟩ := hh
    refine c_ial C hw (kd_lt (kd6_1 ha0) (by decide)) (ce19 (kd6_1 ha0)) hi71 dX6_usesYes_71 ?_
    refine lv_bipush (v := (9 : Int32)) C.1 C.2.1 dX6_usesYes_72 (by decide) ?_
    refine lv_iload_n C.1 C.2.1 dX6_usesYes_74 rfl (lv_at hl 1 rfl) ?_
    refine wd_Si C hw (ctX6_actOf l D (9 : Int32) x1 hh) (va_cwS 2 C.2.2.2.2 (gd_S w_1143 w_797 (ini_cls rfl w_117) w_798) rfl rfl rfl cdX6_actOf ⟨Nat.le_of_ble_eq_true rfl, Nat.le_of_ble_eq_true rfl⟩) rfl hl.1 (Nat.le_of_ble_eq_true rfl) dX6_usesYes_75 ⟨Nat.zero_le _, Nat.zero_le _⟩ (fun r75 H locs hh hw => ?_) rfl
    refine lv_icmp_ne (tgt := 85) C.1 C.2.1 dX6_usesYes_78 (by decide) (fun c78 => ?_) (fun c78 => ?_)
    · replace hh := hh.1 c78
      refine lv_iconst (v := (0 : Int32)) C.1 C.2.1 dX6_usesYes_85 (by decide) ?_
      exact tX6_usesYes_b86 C hR ha0 hB15 hB51 hh hw (lv_sub hl [0, 1, 2, 3, 5, 6] rfl)
    · replace hh := hh.2 c78
      refine lv_iconst (v := (1 : Int32)) C.1 C.2.1 dX6_usesYes_81 (by decide) ?_
      refine lv_goto (tgt := 86) C.1 C.2.1 dX6_usesYes_82 (by decide) ?_
      exact tX6_usesYes_b86 C hR ha0 hB15 hB51 hh hw (lv_sub hl [0, 1, 2, 3, 5, 6] rfl)
theorem tX6_usesYes_b51 {a0 : Nat} {B15 : (Nat → Nat → Int32) → (Nat → Nat → Int64) → (Nat → Nat → Nat) → Int32 → Int32 → Int32 → Int32 → Int32 → Prop} {K : Int32 → cS → Prop} (C : CallFix p m c cX6_usesYes 7 s args wsX6_usesYes RX6) (hR : Rti .boolean p l e rmX6_usesYes s m args below meth c cX6_usesYes D A (cT cI cL cF cM) (cWu h cI cL cF cM) K Q) (ha0 : kd a0 = 6) (hB15 : ∀ (F : Nat → Nat → Int32) (L : Nat → Nat → Int64) (r : Nat → Nat → Nat) (x1 : Int32) (x2 : Int32) (x3 : Int32) (x4 : Int32) (x5 : Int32) (H : Heap) (locs : List Loc) (ls : Array Slot), B15 F L r x1 x2 x3 x4 x5 → Wd D A s (cT cI cL cF cM) (cW h cI cL cF cM F L r) H locs → lv_has ls 7 [(0, .ref (h a0)), (1, .int x1), (2, .int x2), (3, .int x3), (4, .int x4), (5, .int x5)] → W p l e rmX6_usesYes s m args below meth c H locs 0 0 Q (F0 m 15 ls [])) (n : Nat) : ∀ (F : Nat → Nat → Int32) (L : Nat → Nat → Int64) (r : Nat → Nat → Nat) (x1 : Int32) (x2 : Int32) (x3 : Int32) (x4 : Int32) (x5 : Int32) (x6 : Int32) (H : Heap) (locs : List Loc) (ls : Array Slot), wpX6_usesYes_b51 B15 a0 n F L r x1 x2 x3 x4 x5 x6 K → Wd D A s (cT cI cL cF cM) (cW h cI cL cF cM F L r) H locs → lv_has ls 7 [(0, .ref (h a0)), (1, .int x1), (2, .int x2), (3, .int x3), (4, .int x4), (5, .int x5), (6, .int x6)] → W p l e rmX6_usesYes s m args below meth c H locs 0 0 Q (F0 m 51 ls []) := by
  induction n with
  | zero => intro F L r x1 x2 x3 x4 x5 x6 H locs ls hh; exact hh.elim
  | succ n ih => intro F L r x1 x2 x3 x4 x5 x6 H locs ls hh hw hl; exact tX6_usesYes_b51_body C hR ha0 hB15 ih hh hw hl
set_option maxHeartbeats 4000000 in
set_option maxRecDepth 100000 in
theorem tX6_usesYes_b42 {a0 : Nat} {B15 : (Nat → Nat → Int32) → (Nat → Nat → Int64) → (Nat → Nat → Nat) → Int32 → Int32 → Int32 → Int32 → Int32 → Prop} {K : Int32 → cS → Prop} (C : CallFix p m c cX6_usesYes 7 s args wsX6_usesYes RX6) (hR : Rti .boolean p l e rmX6_usesYes s m args below meth c cX6_usesYes D A (cT cI cL cF cM) (cWu h cI cL cF cM) K Q) (ha0 : kd a0 = 6) (hB15 : ∀ (F : Nat → Nat → Int32) (L : Nat → Nat → Int64) (r : Nat → Nat → Nat) (x1 : Int32) (x2 : Int32) (x3 : Int32) (x4 : Int32) (x5 : Int32) (H : Heap) (locs : List Loc) (ls : Array Slot), B15 F L r x1 x2 x3 x4 x5 → Wd D A s (cT cI cL cF cM) (cW h cI cL cF cM F L r) H locs → lv_has ls 7 [(0, .ref (h a0)), (1, .int x1), (2, .int x2), (3, .int x3), (4, .int x4), (5, .int x5)] → W p l e rmX6_usesYes s m args below meth c H locs 0 0 Q (F0 m 15 ls [])) {F : Nat → Nat → Int32} {L : Nat → Nat → Int64} {r : Nat → Nat → Nat} {k0 : Int32} {k1 : Int32} {x1 : Int32} {x2 : Int32} {x4 : Int32} {x5 : Int32} (hh : wpX6_usesYes_b42 B15 a0 F L r k0 k1 x1 x2 x4 x5 K) {H : Heap} {locs : List Loc} {ls : Array Slot} (hw : Wd D A s (cT cI cL cF cM) (cW h cI cL cF cM F L r) H locs) (hl : lv_has ls 7 [(0, .ref (h a0)), (1, .int x1), (2, .int x2), (4, .int x4), (5, .int x5)]) : W p l e rmX6_usesYes s m args below meth c H locs 0 0 Q (F0 m 42 ls [.int k1, .int k0]) := by
  unfold wpX6_usesYes_b42 at hh
  refine lv_ior C.1 C.2.1 dX6_usesYes_42 ?_
  refine lv_istore_n (lv' := [(3, .int (k0 ||| k1)), (0, .ref (h a0)), (1, .int x1), (2, .int x2), (4, .int x4), (5, .int x5)]) C.1 C.2.1 dX6_usesYes_43 rfl hl (by decide) rfl (fun ls hl => ?_)
  refine lv_iload C.1 C.2.1 dX6_usesYes_44 (lv_at hl 5 rfl) ?_
  refine lv_bipush (v := (12 : Int32)) C.1 C.2.1 dX6_usesYes_46 (by decide) ?_
  refine lv_imul C.1 C.2.1 dX6_usesYes_48 ?_
  refine lv_istore (lv' := [(6, .int (x5 * (12 : Int32))), (3, .int (k0 ||| k1)), (0, .ref (h a0)), (1, .int x1), (2, .int x2), (4, .int x4), (5, .int x5)]) C.1 C.2.1 dX6_usesYes_49 hl (by decide) rfl (fun ls hl => ?_)
  obtain ⟨n, hh⟩ := hh
  exact tX6_usesYes_b51 C hR ha0 hB15 n _ _ _ _ _ _ _ _ _ _ _ _ hh hw (lv_sub hl [2, 3, 4, 1, 5, 6, 0] rfl)
set_option maxHeartbeats 4000000 in
set_option maxRecDepth 100000 in
theorem tX6_usesYes_b15_body {a0 : Nat} {B15 : (Nat → Nat → Int32) → (Nat → Nat → Int64) → (Nat → Nat → Nat) → Int32 → Int32 → Int32 → Int32 → Int32 → Prop} {K : Int32 → cS → Prop} (C : CallFix p m c cX6_usesYes 7 s args wsX6_usesYes RX6) (hR : Rti .boolean p l e rmX6_usesYes s m args below meth c cX6_usesYes D A (cT cI cL cF cM) (cWu h cI cL cF cM) K Q) (ha0 : kd a0 = 6) (hB15 : ∀ (F : Nat → Nat → Int32) (L : Nat → Nat → Int64) (r : Nat → Nat → Nat) (x1 : Int32) (x2 : Int32) (x3 : Int32) (x4 : Int32) (x5 : Int32) (H : Heap) (locs : List Loc) (ls : Array Slot), B15 F L r x1 x2 x3 x4 x5 → Wd D A s (cT cI cL cF cM) (cW h cI cL cF cM F L r) H locs → lv_has ls 7 [(0, .ref (h a0)), (1, .int x1), (2, .int x2), (3, .int x3), (4, .int x4), (5, .int x5)] → W p l e rmX6_usesYes s m args below meth c H locs 0 0 Q (F0 m 15 ls [])) {F : Nat → Nat → Int32} {L : Nat → Nat → Int64} {r : Nat → Nat → Nat} {x1 : Int32} {x2 : Int32} {x3 : Int32} {x4 : Int32} {x5 : Int32} (hh : wpX6_usesYes_b15_body B15 a0 F L r x1 x2 x3 x4 x5 K) {H : Heap} {locs : List Loc} {ls : Array Slot} (hw : Wd D A s (cT cI cL cF cM) (cW h cI cL cF cM F L r) H locs) (hl : lv_has ls 7 [(0, .ref (h a0)), (1, .int x1), (2, .int x2), (3, .int x3), (4, .int x4), (5, .int x5)]) : W p l e rmX6_usesYes s m args below meth c H locs 0 0 Q (F0 m 15 ls []) := by
  unfold wpX6_usesYes_b15_body at hh
  refine lv_iload C.1 C.2.1 dX6_usesYes_15 (lv_at hl 5 rfl) ?_
  refine lv_aload_n C.1 C.2.1 dX6_usesYes_17 rfl (lv_at hl 0 rfl) ?_
  refine c_get C hw (inC inW6) (kd_lt ha0 (by decide)) (ce6 ha0) rfl 0 (by decide) (wc w_227) (v := .int (F a0 0)) rfl dX6_usesYes_18 ?_
  refine lv_icmp_ge (tgt := 101) C.1 C.2.1 dX6_usesYes_21 (by decide) (fun c21 => ?_) (fun c21 => ?_)
  · replace hh := hh.1 c21
    refine lv_iload_n C.1 C.2.1 dX6_usesYes_101 rfl (lv_at hl 3 rfl) ?_
    refine lv_if_eq (tgt := 114) C.1 C.2.1 dX6_usesYes_102 (by decide) (fun c102 => ?_) (fun c102 => ?_)
    · replace hh := hh.1 c102
      exact tX6_usesYes_b114 C hR ha0 hh hw (lv_sub hl [0] rfl)
    · replace hh := hh.2 c102
      refine lv_iload C.1 C.2.1 dX6_usesYes_105 (lv_at hl 4 rfl) ?_
      refine lv_if_eq (tgt := 114) C.1 C.2.1 dX6_usesYes_107 (by decide) (fun c107 => ?_) (fun c107 => ?_)
      · replace hh := hh.1 c107
        exact tX6_usesYes_b114 C hR ha0 hh hw (lv_sub hl [0] rfl)
      · replace hh := hh.2 c107
        refine lv_iconst (v := (1 : Int32)) C.1 C.2.1 dX6_usesYes_110 (by decide) ?_
        refine lv_goto (tgt := 115) C.1 C.2.1 dX6_usesYes_111 (by decide) ?_
        exact tX6_usesYes_b115 C hR ha0 hh hw (lv_sub hl [0] rfl)
  · replace hh := hh.2 c21
    refine lv_iload_n C.1 C.2.1 dX6_usesYes_24 rfl (lv_at hl 3 rfl) ?_
    refine lv_aload_n C.1 C.2.1 dX6_usesYes_25 rfl (lv_at hl 0 rfl) ?_
    refine c_get C hw (inC inW6) (kd_lt ha0 (by decide)) (ce6 ha0) rfl 3 (by decide) (wc w_234) (v := .ref (h (a0 + 3))) rfl dX6_usesYes_26 ?_
    refine lv_iload C.1 C.2.1 dX6_usesYes_29 (lv_at hl 5 rfl) ?_
    obtain ⟨hi31, hh⟩ := hh
    refine c_ial C hw (kd_lt (kd6_3 ha0) (by decide)) (ce20 (kd6_3 ha0)) hi31 dX6_usesYes_31 ?_
    refine lv_iload_n C.1 C.2.1 dX6_usesYes_32 rfl (lv_at hl 2 rfl) ?_
    refine lv_iand C.1 C.2.1 dX6_usesYes_33 ?_
    refine lv_if_eq (tgt := 41) C.1 C.2.1 dX6_usesYes_34 (by decide) (fun c34 => ?_) (fun c34 => ?_)
    · replace hh := hh.1 c34
      refine lv_iconst (v := (0 : Int32)) C.1 C.2.1 dX6_usesYes_41 (by decide) ?_
      exact tX6_usesYes_b42 C hR ha0 hB15 hh hw (lv_sub hl [0, 1, 2, 4, 5] rfl)
    · replace hh := hh.2 c34
      refine lv_iconst (v := (1 : Int32)) C.1 C.2.1 dX6_usesYes_37 (by decide) ?_
      refine lv_goto (tgt := 42) C.1 C.2.1 dX6_usesYes_38 (by decide) ?_
      exact tX6_usesYes_b42 C hR ha0 hB15 hh hw (lv_sub hl [0, 1, 2, 4, 5] rfl)
theorem tX6_usesYes_b15 {a0 : Nat} {K : Int32 → cS → Prop} (C : CallFix p m c cX6_usesYes 7 s args wsX6_usesYes RX6) (hR : Rti .boolean p l e rmX6_usesYes s m args below meth c cX6_usesYes D A (cT cI cL cF cM) (cWu h cI cL cF cM) K Q) (ha0 : kd a0 = 6) (n : Nat) : ∀ (F : Nat → Nat → Int32) (L : Nat → Nat → Int64) (r : Nat → Nat → Nat) (x1 : Int32) (x2 : Int32) (x3 : Int32) (x4 : Int32) (x5 : Int32) (H : Heap) (locs : List Loc) (ls : Array Slot), wpX6_usesYes_b15 a0 n F L r x1 x2 x3 x4 x5 K → Wd D A s (cT cI cL cF cM) (cW h cI cL cF cM F L r) H locs → lv_has ls 7 [(0, .ref (h a0)), (1, .int x1), (2, .int x2), (3, .int x3), (4, .int x4), (5, .int x5)] → W p l e rmX6_usesYes s m args below meth c H locs 0 0 Q (F0 m 15 ls []) := by
  induction n with
  | zero => intro F L r x1 x2 x3 x4 x5 H locs ls hh; exact hh.elim
  | succ n ih => intro F L r x1 x2 x3 x4 x5 H locs ls hh hw hl; exact tX6_usesYes_b15_body C hR ha0 ih hh hw hl
set_option maxHeartbeats 4000000 in
set_option maxRecDepth 100000 in
theorem tX6_usesYes_b0 {a0 : Nat} {K : Int32 → cS → Prop} (C : CallFix p m c cX6_usesYes 7 s args wsX6_usesYes RX6) (hR : Rti .boolean p l e rmX6_usesYes s m args below meth c cX6_usesYes D A (cT cI cL cF cM) (cWu h cI cL cF cM) K Q) (ha0 : kd a0 = 6) {F : Nat → Nat → Int32} {L : Nat → Nat → Int64} {r : Nat → Nat → Nat} {x1 : Int32} (hh : wpX6_usesYes_b0 a0 F L r x1 K) {H : Heap} {locs : List Loc} {ls : Array Slot} (hw : Wd D A s (cT cI cL cF cM) (cW h cI cL cF cM F L r) H locs) (hl : lv_has ls 7 [(0, .ref (h a0)), (1, .int x1)]) : W p l e rmX6_usesYes s m args below meth c H locs 0 0 Q (F0 m 0 ls []) := by
  unfold wpX6_usesYes_b0 at hh
  refine lv_iconst (v := (1 : Int32)) C.1 C.2.1 dX6_usesYes_0 (by decide) ?_
  refine lv_bipush (v := (13 : Int32)) C.1 C.2.1 dX6_usesYes_1 (by decide) ?_
  refine lv_iload_n C.1 C.2.1 dX6_usesYes_3 rfl (lv_at hl 1 rfl) ?_
  refine lv_iadd C.1 C.2.1 dX6_usesYes_4 ?_
  refine g_ishl C dX6_usesYes_5 ?_
  refine lv_istore_n (lv' := [(2, .int (jshl (1 : Int32) ((13 : Int32) + x1))), (0, .ref (h a0)), (1, .int x1)]) C.1 C.2.1 dX6_usesYes_6 rfl hl (by decide) rfl (fun ls hl => ?_)
  refine lv_iconst (v := (0 : Int32)) C.1 C.2.1 dX6_usesYes_7 (by decide) ?_
  refine lv_istore_n (lv' := [(3, .int (0 : Int32)), (2, .int (jshl (1 : Int32) ((13 : Int32) + x1))), (0, .ref (h a0)), (1, .int x1)]) C.1 C.2.1 dX6_usesYes_8 rfl hl (by decide) rfl (fun ls hl => ?_)
  refine lv_iconst (v := (0 : Int32)) C.1 C.2.1 dX6_usesYes_9 (by decide) ?_
  refine lv_istore (lv' := [(4, .int (0 : Int32)), (3, .int (0 : Int32)), (2, .int (jshl (1 : Int32) ((13 : Int32) + x1))), (0, .ref (h a0)), (1, .int x1)]) C.1 C.2.1 dX6_usesYes_10 hl (by decide) rfl (fun ls hl => ?_)
  refine lv_iconst (v := (0 : Int32)) C.1 C.2.1 dX6_usesYes_12 (by decide) ?_
  refine lv_istore (lv' := [(5, .int (0 : Int32)), (4, .int (0 : Int32)), (3, .int (0 : Int32)), (2, .int (jshl (1 : Int32) ((13 : Int32) + x1))), (0, .ref (h a0)), (1, .int x1)]) C.1 C.2.1 dX6_usesYes_13 hl (by decide) rfl (fun ls hl => ?_)
  obtain ⟨n, hh⟩ := hh
  exact tX6_usesYes_b15 C hR ha0 n _ _ _ _ _ _ _ _ _ _ _ hh hw (lv_sub hl [4, 5, 3, 2, 1, 0] rfl)
theorem ctX6_usesYes (l : Launch) (D : va_G) (h : Nat → Nat) (cI cL cF cM : ClassId) (a0 : Nat) (ha0 : kd a0 = 6) (F : Nat → Nat → Int32) (L : Nat → Nat → Int64) (r : Nat → Nat → Nat) (x1 : Int32) {K : Int32 → cS → Prop} (hh : wpX6_usesYes a0 F L r x1 K) : Ci l yX6_usesYes wsX6_usesYes rmX6_usesYes [.ref (h a0), .int x1] D (cT cI cL cF cM) (cWu h cI cL cF cM) (F, L, r) K := by
  refine Ci_of (cc := cX6_usesYes) (maxL := 7) (by decide) rfl (Nat.le_of_ble_eq_true rfl) ?_
  intro p e s m below meth c A Q C hw hR ls hl
  exact tX6_usesYes_b0 C hR ha0 hh hw hl
theorem cdX6_usesYes : yX6_usesYes.cls = RX6 ∧ yX6_usesYes.cls ≠ "java/lang/invoke/MethodHandle" ∧ yX6_usesYes.cls ≠ "java/lang/invoke/VarHandle" ∧ (parseMethodDescriptor yX6_usesYes.desc).map (fun d => d.parameters.length) = some 1 := by decide +kernel
abbrev rmX3_standsAs : Room := { frames := 0, cells := 0, slots := 0, locals := 0 }
set_option maxHeartbeats 4000000 in
set_option maxRecDepth 100000 in
theorem tX3_standsAs_b27 {a0 : Nat} {a1 : Nat} {K : Int32 → cS → Prop} (C : CallFix p m c cX3_standsAs 2 s args wsX3_standsAs RX3) (hR : Rti .boolean p l e rmX3_standsAs s m args below meth c cX3_standsAs D A (cT cI cL cF cM) (cWu h cI cL cF cM) K Q) (ha0 : kd a0 = 3) (ha1 : kd a1 = 3) {F : Nat → Nat → Int32} {L : Nat → Nat → Int64} {r : Nat → Nat → Nat} {k0 : Int32} (hh : wpX3_standsAs_b27 a0 a1 F L r k0 K) {H : Heap} {locs : List Loc} {ls : Array Slot} (hw : Wd D A s (cT cI cL cF cM) (cW h cI cL cF cM F L r) H locs) (hl : lv_has ls 2 [(0, .ref (h a0))]) : W p l e rmX3_standsAs s m args below meth c H locs 0 0 Q (F0 m 27 ls [.int k0]) := by
  unfold wpX3_standsAs_b27 at hh
  obtain ⟨hb27, hh⟩ := hh
  exact hR _ _ _ (F, L, r) _ _ dX3_standsAs_27 (isB_nar hb27) hh hw
set_option maxHeartbeats 4000000 in
set_option maxRecDepth 100000 in
theorem tX3_standsAs_b26 {a0 : Nat} {a1 : Nat} {K : Int32 → cS → Prop} (C : CallFix p m c cX3_standsAs 2 s args wsX3_standsAs RX3) (hR : Rti .boolean p l e rmX3_standsAs s m args below meth c cX3_standsAs D A (cT cI cL cF cM) (cWu h cI cL cF cM) K Q) (ha0 : kd a0 = 3) (ha1 : kd a1 = 3) {F : Nat → Nat → Int32} {L : Nat → Nat → Int64} {r : Nat → Nat → Nat} (hh : wpX3_standsAs_b26 a0 a1 F L r K) {H : Heap} {locs : List Loc} {ls : Array Slot} (hw : Wd D A s (cT cI cL cF cM) (cW h cI cL cF cM F L r) H locs) (hl : lv_has ls 2 [(0, .ref (h a0))]) : W p l e rmX3_standsAs s m args below meth c H locs 0 0 Q (F0 m 26 ls []) := by
  unfold wpX3_standsAs_b26 at hh
  refine lv_iconst (v := (0 : Int32)) C.1 C.2.1 dX3_standsAs_26 (by decide) ?_
  exact tX3_standsAs_b27 C hR ha0 ha1 hh hw hl
set_option maxHeartbeats 4000000 in
set_option maxRecDepth 100000 in
theorem tX3_standsAs_b0 {a0 : Nat} {a1 : Nat} {K : Int32 → cS → Prop} (C : CallFix p m c cX3_standsAs 2 s args wsX3_standsAs RX3) (hR : Rti .boolean p l e rmX3_standsAs s m args below meth c cX3_standsAs D A (cT cI cL cF cM) (cWu h cI cL cF cM) K Q) (ha0 : kd a0 = 3) (ha1 : kd a1 = 3) {F : Nat → Nat → Int32} {L : Nat → Nat → Int64} {r : Nat → Nat → Nat} (hh : wpX3_standsAs_b0 a0 a1 F L r K) {H : Heap} {locs : List Loc} {ls : Array Slot} (hw : Wd D A s (cT cI cL cF cM) (cW h cI cL cF cM F L r) H locs) (hl : lv_has ls 2 [(0, .ref (h a0)), (1, .ref (h a1))]) : W p l e rmX3_standsAs s m args below meth c H locs 0 0 Q (F0 m 0 ls []) := by
  unfold wpX3_standsAs_b0 at hh
  refine lv_aload_n C.1 C.2.1 dX3_standsAs_0 rfl (lv_at hl 0 rfl) ?_
  refine c_get C hw (inC inW3) (kd_lt ha0 (by decide)) (ce3 ha0) rfl 0 (by decide) (wc w_392) (v := .int (F a0 0)) rfl dX3_standsAs_1 ?_
  refine lv_aload_n C.1 C.2.1 dX3_standsAs_4 rfl (lv_at hl 1 rfl) ?_
  refine c_get C hw (inC inW3) (kd_lt ha1 (by decide)) (ce3 ha1) rfl 0 (by decide) (wc w_392) (v := .int (F a1 0)) rfl dX3_standsAs_5 ?_
  refine lv_icmp_ne (tgt := 26) C.1 C.2.1 dX3_standsAs_8 (by decide) (fun c8 => ?_) (fun c8 => ?_)
  · replace hh := hh.1 c8
    exact tX3_standsAs_b26 C hR ha0 ha1 hh hw (lv_sub hl [0] rfl)
  · replace hh := hh.2 c8
    refine lv_aload_n C.1 C.2.1 dX3_standsAs_11 rfl (lv_at hl 0 rfl) ?_
    refine c_get C hw (inC inW3) (kd_lt ha0 (by decide)) (ce3 ha0) rfl 1 (by decide) (wc w_396) (v := .int (F a0 1)) rfl dX3_standsAs_12 ?_
    refine lv_aload_n C.1 C.2.1 dX3_standsAs_15 rfl (lv_at hl 1 rfl) ?_
    refine c_get C hw (inC inW3) (kd_lt ha1 (by decide)) (ce3 ha1) rfl 1 (by decide) (wc w_396) (v := .int (F a1 1)) rfl dX3_standsAs_16 ?_
    refine lv_icmp_ne (tgt := 26) C.1 C.2.1 dX3_standsAs_19 (by decide) (fun c19 => ?_) (fun c19 => ?_)
    · replace hh := hh.1 c19
      exact tX3_standsAs_b26 C hR ha0 ha1 hh hw (lv_sub hl [0] rfl)
    · replace hh := hh.2 c19
      refine lv_iconst (v := (1 : Int32)) C.1 C.2.1 dX3_standsAs_22 (by decide) ?_
      refine lv_goto (tgt := 27) C.1 C.2.1 dX3_standsAs_23 (by decide) ?_
      exact tX3_standsAs_b27 C hR ha0 ha1 hh hw (lv_sub hl [0] rfl)
theorem ctX3_standsAs (l : Launch) (D : va_G) (h : Nat → Nat) (cI cL cF cM : ClassId) (a0 : Nat) (a1 : Nat) (ha0 : kd a0 = 3) (ha1 : kd a1 = 3) (F : Nat → Nat → Int32) (L : Nat → Nat → Int64) (r : Nat → Nat → Nat) {K : Int32 → cS → Prop} (hh : wpX3_standsAs a0 a1 F L r K) : Ci l yX3_standsAs wsX3_standsAs rmX3_standsAs [.ref (h a0), .ref (h a1)] D (cT cI cL cF cM) (cWu h cI cL cF cM) (F, L, r) K := by
  refine Ci_of (cc := cX3_standsAs) (maxL := 2) (by decide) rfl (Nat.le_of_ble_eq_true rfl) ?_
  intro p e s m below meth c A Q C hw hR ls hl
  exact tX3_standsAs_b0 C hR ha0 ha1 hh hw hl
theorem cdX3_standsAs : yX3_standsAs.cls = RX3 ∧ yX3_standsAs.cls ≠ "java/lang/invoke/MethodHandle" ∧ yX3_standsAs.cls ≠ "java/lang/invoke/VarHandle" ∧ (parseMethodDescriptor yX3_standsAs.desc).map (fun d => d.parameters.length) = some 1 := by decide +kernel
abbrev rmX8_partWays : Room := { frames := 3, cells := 0, slots := 0, locals := 87 }
set_option maxHeartbeats 4000000 in
set_option maxRecDepth 100000 in
theorem tX8_partWays_b93 {a1 : Nat} {K : Int32 → cS → Prop} (C : CallFix p m c cX8_partWays 3 s args wsX8_partWays RX8) (hR : Rti .boolean p l e rmX8_partWays s m args below meth c cX8_partWays D A (cT cI cL cF cM) (cWu h cI cL cF cM) K Q) (ha1 : kd a1 = 6) {F : Nat → Nat → Int32} {L : Nat → Nat → Int64} {r : Nat → Nat → Nat} (hh : wpX8_partWays_b93 a1 F L r K) {H : Heap} {locs : List Loc} {ls : Array Slot} (hw : Wd D A s (cT cI cL cF cM) (cW h cI cL cF cM F L r) H locs) (hl : lv_has ls 3 [(0, .ref (h 96))]) : W p l e rmX8_partWays s m args below meth c H locs 0 0 Q (F0 m 93 ls []) := by
  unfold wpX8_partWays_b93 at hh
  refine lv_iconst (v := (0 : Int32)) C.1 C.2.1 dX8_partWays_93 (by decide) ?_
  exact hR _ _ _ (F, L, r) _ _ dX8_partWays_94 rfl hh hw
set_option maxHeartbeats 4000000 in
set_option maxRecDepth 100000 in
theorem tX8_partWays_b24_body {a1 : Nat} {B24 : (Nat → Nat → Int32) → (Nat → Nat → Int64) → (Nat → Nat → Nat) → Int32 → Prop} {K : Int32 → cS → Prop} (C : CallFix p m c cX8_partWays 3 s args wsX8_partWays RX8) (hR : Rti .boolean p l e rmX8_partWays s m args below meth c cX8_partWays D A (cT cI cL cF cM) (cWu h cI cL cF cM) K Q) (ha1 : kd a1 = 6) (hB24 : ∀ (F : Nat → Nat → Int32) (L : Nat → Nat → Int64) (r : Nat → Nat → Nat) (x2 : Int32) (H : Heap) (locs : List Loc) (ls : Array Slot), B24 F L r x2 → Wd D A s (cT cI cL cF cM) (cW h cI cL cF cM F L r) H locs → lv_has ls 3 [(0, .ref (h 96)), (1, .ref (h a1)), (2, .int x2)] → W p l e rmX8_partWays s m args below meth c H locs 0 0 Q (F0 m 24 ls [])) {F : Nat → Nat → Int32} {L : Nat → Nat → Int64} {r : Nat → Nat → Nat} {x2 : Int32} (hh : wpX8_partWays_b24_body B24 a1 F L r x2 K) {H : Heap} {locs : List Loc} {ls : Array Slot} (hw : Wd D A s (cT cI cL cF cM) (cW h cI cL cF cM F L r) H locs) (hl : lv_has ls 3 [(0, .ref (h 96)), (1, .ref (h a1)), (2, .int x2)]) : W p l e rmX8_partWays s m args below meth c H locs 0 0 Q (F0 m 24 ls []) := by
  unfold wpX8_partWays_b24_body at hh
  refine lv_iload_n C.1 C.2.1 dX8_partWays_24 rfl (lv_at hl 2 rfl) ?_
  refine lv_bipush (v := (100 : Int32)) C.1 C.2.1 dX8_partWays_25 (by decide) ?_
  refine lv_icmp_ge (tgt := 93) C.1 C.2.1 dX8_partWays_27 (by decide) (fun c27 => ?_) (fun c27 => ?_)
  · replace hh := hh.1 c27
    exact tX8_partWays_b93 C hR ha1 hh hw (lv_sub hl [0] rfl)
  · replace hh := hh.2 c27
    refine lv_aload_n C.1 C.2.1 dX8_partWays_30 rfl (lv_at hl 0 rfl) ?_
    refine c_get C hw (inC inW8) (kd_lt kp96 (by decide)) (ce8 kp96) rfl 1 (by decide) (wc w_476) (v := .ref (h 86)) rfl dX8_partWays_31 ?_
    refine c_get C hw (inC inW3) (kd_lt kp86 (by decide)) (ce3 kp86) rfl 0 (by decide) (wc w_395) (v := .int (F 86 0)) rfl dX8_partWays_34 ?_
    refine lv_aload_n C.1 C.2.1 dX8_partWays_37 rfl (lv_at hl 0 rfl) ?_
    refine c_get C hw (inC inW8) (kd_lt kp96 (by decide)) (ce8 kp96) rfl 0 (by decide) (wc w_475) (v := .ref (h 66)) rfl dX8_partWays_38 ?_
    refine c_get C hw (inC inW1) (kd_lt kp66 (by decide)) (ce1 kp66) rfl 3 (by decide) (wc w_363) (v := .int (F 66 3)) rfl dX8_partWays_41 ?_
    refine lv_icmp_eq (tgt := 93) C.1 C.2.1 dX8_partWays_44 (by decide) (fun c44 => ?_) (fun c44 => ?_)
    · replace hh := hh.1 c44
      exact tX8_partWays_b93 C hR ha1 hh hw (lv_sub hl [0] rfl)
    · replace hh := hh.2 c44
      refine lv_aload_n C.1 C.2.1 dX8_partWays_47 rfl (lv_at hl 0 rfl) ?_
      refine c_get C hw (inC inW8) (kd_lt kp96 (by decide)) (ce8 kp96) rfl 1 (by decide) (wc w_476) (v := .ref (h 86)) rfl dX8_partWays_48 ?_
      refine lv_aload_n C.1 C.2.1 dX8_partWays_51 rfl (lv_at hl 1 rfl) ?_
      refine lv_aload_n C.1 C.2.1 dX8_partWays_52 rfl (lv_at hl 0 rfl) ?_
      refine c_get C hw (inC inW8) (kd_lt kp96 (by decide)) (ce8 kp96) rfl 0 (by decide) (wc w_475) (v := .ref (h 66)) rfl dX8_partWays_53 ?_
      refine c_Vv C hw (ctX3_obey l D h cI cL cF cM 86 a1 66 kp86 ha1 kp66 F L r hh) (cwV 2 C.2.2.2.2 (gd_V w_1148 w_993 w_994 w_121 w_995) rfl rfl rfl cdX3_obey ⟨Nat.le_of_ble_eq_true rfl, Nat.le_of_ble_eq_true rfl⟩) rfl (kd_lt kp86 (by decide)) (ce3 kp86) rfl hl.1 (Nat.le_of_ble_eq_true rfl) dX8_partWays_56 ⟨Nat.zero_le _, Nat.zero_le _⟩ (fun u56 H locs hh hw => ?_) rfl
      refine lv_aload_n C.1 C.2.1 dX8_partWays_59 rfl (lv_at hl 0 rfl) ?_
      refine c_get C hw (inC inW8) (kd_lt kp96 (by decide)) (ce8 kp96) rfl 2 (by decide) (wc w_477) (v := .ref (h 88)) rfl dX8_partWays_60 ?_
      refine lv_aload_n C.1 C.2.1 dX8_partWays_63 rfl (lv_at hl 1 rfl) ?_
      refine lv_aload_n C.1 C.2.1 dX8_partWays_64 rfl (lv_at hl 0 rfl) ?_
      refine c_get C hw (inC inW8) (kd_lt kp96 (by decide)) (ce8 kp96) rfl 0 (by decide) (wc w_475) (v := .ref (h 66)) rfl dX8_partWays_65 ?_
      refine c_Vv C hw (ctX3_obey l D h cI cL cF cM 88 a1 66 kp88 ha1 kp66 u56.1 u56.2.1 u56.2.2 hh) (cwV 2 C.2.2.2.2 (gd_V w_1148 w_993 w_994 w_121 w_995) rfl rfl rfl cdX3_obey ⟨Nat.le_of_ble_eq_true rfl, Nat.le_of_ble_eq_true rfl⟩) rfl (kd_lt kp88 (by decide)) (ce3 kp88) rfl hl.1 (Nat.le_of_ble_eq_true rfl) dX8_partWays_68 ⟨Nat.zero_le _, Nat.zero_le _⟩ (fun u68 H locs hh hw => ?_) rfl
      refine lv_aload_n C.1 C.2.1 dX8_partWays_71 rfl (lv_at hl 0 rfl) ?_
      refine c_get C hw (inC inW8) (kd_lt kp96 (by decide)) (ce8 kp96) rfl 1 (by decide) (wc w_476) (v := .ref (h 86)) rfl dX8_partWays_72 ?_
      refine lv_aload_n C.1 C.2.1 dX8_partWays_75 rfl (lv_at hl 0 rfl) ?_
      refine c_get C hw (inC inW8) (kd_lt kp96 (by decide)) (ce8 kp96) rfl 2 (by decide) (wc w_477) (v := .ref (h 88)) rfl dX8_partWays_76 ?_
      refine c_Vi C hw (ctX3_standsAs l D h cI cL cF cM 86 88 kp86 kp88 u68.1 u68.2.1 u68.2.2 hh) (cwV 1 C.2.2.2.2 (gd_V w_1149 w_1150 w_1151 w_121 w_1152) rfl rfl rfl cdX3_standsAs ⟨Nat.le_of_ble_eq_true rfl, Nat.le_of_ble_eq_true rfl⟩) rfl (kd_lt kp86 (by decide)) (ce3 kp86) rfl hl.1 (Nat.le_of_ble_eq_true rfl) dX8_partWays_79 ⟨Nat.zero_le _, Nat.zero_le _⟩ (fun r79 u79 H locs hh hw => ?_) rfl
      refine lv_if_ne (tgt := 87) C.1 C.2.1 dX8_partWays_82 (by decide) (fun c82 => ?_) (fun c82 => ?_)
      · replace hh := hh.1 c82
        refine lv_iinc (v := x2 + (1 : Int32)) (lv' := [(2, .int (x2 + (1 : Int32))), (0, .ref (h 96)), (1, .ref (h a1))]) C.1 C.2.1 dX8_partWays_87 hl (k := 2) rfl rfl (by decide) rfl (fun ls hl => ?_)
        refine lv_goto (tgt := 24) C.1 C.2.1 dX8_partWays_90 (by decide) ?_
        exact hB24 _ _ _ _ _ _ _ hh hw (lv_sub hl [1, 2, 0] rfl)
      · replace hh := hh.2 c82
        refine lv_iconst (v := (1 : Int32)) C.1 C.2.1 dX8_partWays_85 (by decide) ?_
        exact hR _ _ _ (u79.1, u79.2.1, u79.2.2) _ _ dX8_partWays_86 rfl hh hw
theorem tX8_partWays_b24 {a1 : Nat} {K : Int32 → cS → Prop} (C : CallFix p m c cX8_partWays 3 s args wsX8_partWays RX8) (hR : Rti .boolean p l e rmX8_partWays s m args below meth c cX8_partWays D A (cT cI cL cF cM) (cWu h cI cL cF cM) K Q) (ha1 : kd a1 = 6) (n : Nat) : ∀ (F : Nat → Nat → Int32) (L : Nat → Nat → Int64) (r : Nat → Nat → Nat) (x2 : Int32) (H : Heap) (locs : List Loc) (ls : Array Slot), wpX8_partWays_b24 a1 n F L r x2 K → Wd D A s (cT cI cL cF cM) (cW h cI cL cF cM F L r) H locs → lv_has ls 3 [(0, .ref (h 96)), (1, .ref (h a1)), (2, .int x2)] → W p l e rmX8_partWays s m args below meth c H locs 0 0 Q (F0 m 24 ls []) := by
  induction n with
  | zero => intro F L r x2 H locs ls hh; exact hh.elim
  | succ n ih => intro F L r x2 H locs ls hh hw hl; exact tX8_partWays_b24_body C hR ha1 ih hh hw hl
set_option maxHeartbeats 4000000 in
set_option maxRecDepth 100000 in
theorem tX8_partWays_b0 {a1 : Nat} {K : Int32 → cS → Prop} (C : CallFix p m c cX8_partWays 3 s args wsX8_partWays RX8) (hR : Rti .boolean p l e rmX8_partWays s m args below meth c cX8_partWays D A (cT cI cL cF cM) (cWu h cI cL cF cM) K Q) (ha1 : kd a1 = 6) {F : Nat → Nat → Int32} {L : Nat → Nat → Int64} {r : Nat → Nat → Nat} (hh : wpX8_partWays_b0 a1 F L r K) {H : Heap} {locs : List Loc} {ls : Array Slot} (hw : Wd D A s (cT cI cL cF cM) (cW h cI cL cF cM F L r) H locs) (hl : lv_has ls 3 [(0, .ref (h 96)), (1, .ref (h a1))]) : W p l e rmX8_partWays s m args below meth c H locs 0 0 Q (F0 m 0 ls []) := by
  unfold wpX8_partWays_b0 at hh
  refine lv_aload_n C.1 C.2.1 dX8_partWays_0 rfl (lv_at hl 0 rfl) ?_
  refine c_get C hw (inC inW8) (kd_lt kp96 (by decide)) (ce8 kp96) rfl 1 (by decide) (wc w_476) (v := .ref (h 86)) rfl dX8_partWays_1 ?_
  refine lv_aload_n C.1 C.2.1 dX8_partWays_4 rfl (lv_at hl 0 rfl) ?_
  refine c_get C hw (inC inW8) (kd_lt kp96 (by decide)) (ce8 kp96) rfl 4 (by decide) (wc w_479) (v := .int (F 96 4)) rfl dX8_partWays_5 ?_
  refine c_Vv C hw (ctX3_setDownWiped l D h cI cL cF cM 86 kp86 F L r (F 96 4) hh) (cwV 1 C.2.2.2.2 (gd_V w_1117 w_914 w_915 w_121 w_916) rfl rfl rfl cdX3_setDownWiped ⟨Nat.le_of_ble_eq_true rfl, Nat.le_of_ble_eq_true rfl⟩) rfl (kd_lt kp86 (by decide)) (ce3 kp86) rfl hl.1 (Nat.le_of_ble_eq_true rfl) dX8_partWays_8 ⟨Nat.zero_le _, Nat.zero_le _⟩ (fun u8 H locs hh hw => ?_) rfl
  refine lv_aload_n C.1 C.2.1 dX8_partWays_11 rfl (lv_at hl 0 rfl) ?_
  refine c_get C hw (inC inW8) (kd_lt kp96 (by decide)) (ce8 kp96) rfl 2 (by decide) (wc w_477) (v := .ref (h 88)) rfl dX8_partWays_12 ?_
  refine lv_aload_n C.1 C.2.1 dX8_partWays_15 rfl (lv_at hl 0 rfl) ?_
  refine c_get C hw (inC inW8) (kd_lt kp96 (by decide)) (ce8 kp96) rfl 4 (by decide) (wc w_479) (v := .int (u8.1 96 4)) rfl dX8_partWays_16 ?_
  refine c_Vv C hw (ctX3_setDownWiped l D h cI cL cF cM 88 kp88 u8.1 u8.2.1 u8.2.2 (u8.1 96 4) hh) (cwV 1 C.2.2.2.2 (gd_V w_1117 w_914 w_915 w_121 w_916) rfl rfl rfl cdX3_setDownWiped ⟨Nat.le_of_ble_eq_true rfl, Nat.le_of_ble_eq_true rfl⟩) rfl (kd_lt kp88 (by decide)) (ce3 kp88) rfl hl.1 (Nat.le_of_ble_eq_true rfl) dX8_partWays_19 ⟨Nat.zero_le _, Nat.zero_le _⟩ (fun u19 H locs hh hw => ?_) rfl
  refine lv_iconst (v := (0 : Int32)) C.1 C.2.1 dX8_partWays_22 (by decide) ?_
  refine lv_istore_n (lv' := [(2, .int (0 : Int32)), (0, .ref (h 96)), (1, .ref (h a1))]) C.1 C.2.1 dX8_partWays_23 rfl hl (by decide) rfl (fun ls hl => ?_)
  obtain ⟨n, hh⟩ := hh
  exact tX8_partWays_b24 C hR ha1 n _ _ _ _ _ _ _ hh hw (lv_sub hl [1, 2, 0] rfl)
theorem ctX8_partWays (l : Launch) (D : va_G) (h : Nat → Nat) (cI cL cF cM : ClassId) (a1 : Nat) (ha1 : kd a1 = 6) (F : Nat → Nat → Int32) (L : Nat → Nat → Int64) (r : Nat → Nat → Nat) {K : Int32 → cS → Prop} (hh : wpX8_partWays a1 F L r K) : Ci l yX8_partWays wsX8_partWays rmX8_partWays [.ref (h 96), .ref (h a1)] D (cT cI cL cF cM) (cWu h cI cL cF cM) (F, L, r) K := by
  refine Ci_of (cc := cX8_partWays) (maxL := 3) (by decide) rfl (Nat.le_of_ble_eq_true rfl) ?_
  intro p e s m below meth c A Q C hw hR ls hl
  exact tX8_partWays_b0 C hR ha1 hh hw hl
theorem cdX8_partWays : yX8_partWays.cls = RX8 ∧ yX8_partWays.cls ≠ "java/lang/invoke/MethodHandle" ∧ yX8_partWays.cls ≠ "java/lang/invoke/VarHandle" ∧ (parseMethodDescriptor yX8_partWays.desc).map (fun d => d.parameters.length) = some 1 := by decide +kernel
abbrev rmX8_isNeeded : Room := { frames := 4, cells := 0, slots := 0, locals := 109 }
set_option maxHeartbeats 4000000 in
set_option maxRecDepth 100000 in
theorem tX8_isNeeded_b60 {a1 : Nat} {K : Int32 → cS → Prop} (C : CallFix p m c cX8_isNeeded 6 s args wsX8_isNeeded RX8) (hR : Rti .boolean p l e rmX8_isNeeded s m args below meth c cX8_isNeeded D A (cT cI cL cF cM) (cWu h cI cL cF cM) K Q) (ha1 : kd a1 = 6) {F : Nat → Nat → Int32} {L : Nat → Nat → Int64} {r : Nat → Nat → Nat} (hh : wpX8_isNeeded_b60 a1 F L r K) {H : Heap} {locs : List Loc} {ls : Array Slot} (hw : Wd D A s (cT cI cL cF cM) (cW h cI cL cF cM F L r) H locs) (hl : lv_has ls 6 [(0, .ref (h 96))]) : W p l e rmX8_isNeeded s m args below meth c H locs 0 0 Q (F0 m 60 ls []) := by
  unfold wpX8_isNeeded_b60 at hh
  refine lv_iconst (v := (0 : Int32)) C.1 C.2.1 dX8_isNeeded_60 (by decide) ?_
  exact hR _ _ _ (F, L, r) _ _ dX8_isNeeded_61 rfl hh hw
set_option maxHeartbeats 4000000 in
set_option maxRecDepth 100000 in
theorem tX8_isNeeded_b30_body {a1 : Nat} {B30 : (Nat → Nat → Int32) → (Nat → Nat → Int64) → (Nat → Nat → Nat) → Int32 → Prop} {K : Int32 → cS → Prop} (C : CallFix p m c cX8_isNeeded 6 s args wsX8_isNeeded RX8) (hR : Rti .boolean p l e rmX8_isNeeded s m args below meth c cX8_isNeeded D A (cT cI cL cF cM) (cWu h cI cL cF cM) K Q) (ha1 : kd a1 = 6) (hB30 : ∀ (F : Nat → Nat → Int32) (L : Nat → Nat → Int64) (r : Nat → Nat → Nat) (x5 : Int32) (H : Heap) (locs : List Loc) (ls : Array Slot), B30 F L r x5 → Wd D A s (cT cI cL cF cM) (cW h cI cL cF cM F L r) H locs → lv_has ls 6 [(0, .ref (h 96)), (1, .ref (h a1)), (5, .int x5)] → W p l e rmX8_isNeeded s m args below meth c H locs 0 0 Q (F0 m 30 ls [])) {F : Nat → Nat → Int32} {L : Nat → Nat → Int64} {r : Nat → Nat → Nat} {x5 : Int32} (hh : wpX8_isNeeded_b30_body B30 a1 F L r x5 K) {H : Heap} {locs : List Loc} {ls : Array Slot} (hw : Wd D A s (cT cI cL cF cM) (cW h cI cL cF cM F L r) H locs) (hl : lv_has ls 6 [(0, .ref (h 96)), (1, .ref (h a1)), (5, .int x5)]) : W p l e rmX8_isNeeded s m args below meth c H locs 0 0 Q (F0 m 30 ls []) := by
  unfold wpX8_isNeeded_b30_body at hh
  refine lv_iload C.1 C.2.1 dX8_isNeeded_30 (lv_at hl 2 rfl) ?_
  refine lv_ldc C.1 C.2.1 C.2.2.2.1 (C.2.2.2.2 _ (wc w_1094)) dX8_isNeeded_32 ?_
  refine lv_icmp_ge (tgt := 60) C.1 C.2.1 dX8_isNeeded_34 (by decide) (fun c34 => ?_) (fun c34 => ?_)
  · replace hh := hh.1 c34
    exact tX8_isNeeded_b60 C hR ha1 hh hw (lv_sub hl [0] rfl)
  · replace hh := hh.2 c34
    refine lv_aload_n C.1 C.2.1 dX8_isNeeded_37 rfl (lv_at hl 0 rfl) ?_
    refine c_Vi C hw (ctX8_nextStart l D h cI cL cF cM F L r hh) (cwV 0 C.2.2.2.2 (gd_V w_1095 w_1097 w_40 w_123 w_1098) rfl rfl rfl cdX8_nextStart ⟨Nat.le_of_ble_eq_true rfl, Nat.le_of_ble_eq_true rfl⟩) rfl (kd_lt kp96 (by decide)) (ce8 kp96) rfl hl.1 (Nat.le_of_ble_eq_true rfl) dX8_isNeeded_38 ⟨Nat.zero_le _, Nat.zero_le _⟩ (fun r38 u38 H locs hh hw => ?_) rfl
    refine lv_if_eq (tgt := 60) C.1 C.2.1 dX8_isNeeded_41 (by decide) (fun c41 => ?_) (fun c41 => ?_)
    · replace hh := hh.1 c41
      exact tX8_isNeeded_b60 C hR ha1 hh hw (lv_sub hl [0] rfl)
    · replace hh := hh.2 c41
      refine lv_aload_n C.1 C.2.1 dX8_isNeeded_44 rfl (lv_at hl 0 rfl) ?_
      refine lv_aload_n C.1 C.2.1 dX8_isNeeded_45 rfl (lv_at hl 1 rfl) ?_
      refine c_Vi C hw (ctX8_partWays l D h cI cL cF cM a1 ha1 u38.1 u38.2.1 u38.2.2 hh) (cwV 1 C.2.2.2.2 (gd_V w_1144 w_1146 w_44 w_123 w_1147) rfl rfl rfl cdX8_partWays ⟨Nat.le_of_ble_eq_true rfl, Nat.le_of_ble_eq_true rfl⟩) rfl (kd_lt kp96 (by decide)) (ce8 kp96) rfl hl.1 (Nat.le_of_ble_eq_true rfl) dX8_isNeeded_46 ⟨Nat.zero_le _, Nat.zero_le _⟩ (fun r46 u46 H locs hh hw => ?_) rfl
      refine lv_if_eq (tgt := 54) C.1 C.2.1 dX8_isNeeded_49 (by decide) (fun c49 => ?_) (fun c49 => ?_)
      · replace hh := hh.1 c49
        refine lv_iinc (v := x5 + (1 : Int32)) (lv' := [(5, .int (x5 + (1 : Int32))), (0, .ref (h 96)), (1, .ref (h a1))]) C.1 C.2.1 dX8_isNeeded_54 hl (k := 2) rfl rfl (by decide) rfl (fun ls hl => ?_)
        refine lv_goto (tgt := 30) C.1 C.2.1 dX8_isNeeded_57 (by decide) ?_
        exact hB30 _ _ _ _ _ _ _ hh hw (lv_sub hl [1, 2, 0] rfl)
      · replace hh := hh.2 c49
        refine lv_iconst (v := (1 : Int32)) C.1 C.2.1 dX8_isNeeded_52 (by decide) ?_
        exact hR _ _ _ (u46.1, u46.2.1, u46.2.2) _ _ dX8_isNeeded_53 rfl hh hw
theorem tX8_isNeeded_b30 {a1 : Nat} {K : Int32 → cS → Prop} (C : CallFix p m c cX8_isNeeded 6 s args wsX8_isNeeded RX8) (hR : Rti .boolean p l e rmX8_isNeeded s m args below meth c cX8_isNeeded D A (cT cI cL cF cM) (cWu h cI cL cF cM) K Q) (ha1 : kd a1 = 6) (n : Nat) : ∀ (F : Nat → Nat → Int32) (L : Nat → Nat → Int64) (r : Nat → Nat → Nat) (x5 : Int32) (H : Heap) (locs : List Loc) (ls : Array Slot), wpX8_isNeeded_b30 a1 n F L r x5 K → Wd D A s (cT cI cL cF cM) (cW h cI cL cF cM F L r) H locs → lv_has ls 6 [(0, .ref (h 96)), (1, .ref (h a1)), (5, .int x5)] → W p l e rmX8_isNeeded s m args below meth c H locs 0 0 Q (F0 m 30 ls []) := by
  induction n with
  | zero => intro F L r x5 H locs ls hh; exact hh.elim
  | succ n ih => intro F L r x5 H locs ls hh hw hl; exact tX8_isNeeded_b30_body C hR ha1 ih hh hw hl
set_option maxHeartbeats 4000000 in
set_option maxRecDepth 100000 in
theorem tX8_isNeeded_b0 {a1 : Nat} {K : Int32 → cS → Prop} (C : CallFix p m c cX8_isNeeded 6 s args wsX8_isNeeded RX8) (hR : Rti .boolean p l e rmX8_isNeeded s m args below meth c cX8_isNeeded D A (cT cI cL cF cM) (cWu h cI cL cF cM) K Q) (ha1 : kd a1 = 6) {F : Nat → Nat → Int32} {L : Nat → Nat → Int64} {r : Nat → Nat → Nat} {x2 : Int32} {x3 : Int32} {x4 : Int32} (hh : wpX8_isNeeded_b0 a1 F L r x2 x3 x4 K) {H : Heap} {locs : List Loc} {ls : Array Slot} (hw : Wd D A s (cT cI cL cF cM) (cW h cI cL cF cM F L r) H locs) (hl : lv_has ls 6 [(0, .ref (h 96)), (1, .ref (h a1)), (2, .int x2), (3, .int x3), (4, .int x4)]) : W p l e rmX8_isNeeded s m args below meth c H locs 0 0 Q (F0 m 0 ls []) := by
  unfold wpX8_isNeeded_b0 at hh
  refine lv_aload_n C.1 C.2.1 dX8_isNeeded_0 rfl (lv_at hl 1 rfl) ?_
  refine lv_iload_n C.1 C.2.1 dX8_isNeeded_1 rfl (lv_at hl 2 rfl) ?_
  refine c_Vi C hw (ctX6_usesYes l D h cI cL cF cM a1 ha1 F L r x2 hh) (cwV 1 C.2.2.2.2 (gd_V w_1139 w_1140 w_1141 w_117 w_1142) rfl rfl rfl cdX6_usesYes ⟨Nat.le_of_ble_eq_true rfl, Nat.le_of_ble_eq_true rfl⟩) rfl (kd_lt ha1 (by decide)) (ce6 ha1) rfl hl.1 (Nat.le_of_ble_eq_true rfl) dX8_isNeeded_2 ⟨Nat.zero_le _, Nat.zero_le _⟩ (fun r2 u2 H locs hh hw => ?_) rfl
  refine lv_if_ne (tgt := 10) C.1 C.2.1 dX8_isNeeded_5 (by decide) (fun c5 => ?_) (fun c5 => ?_)
  · replace hh := hh.1 c5
    refine lv_aload_n C.1 C.2.1 dX8_isNeeded_10 rfl (lv_at hl 0 rfl) ?_
    refine lv_iload_n C.1 C.2.1 dX8_isNeeded_11 rfl (lv_at hl 3 rfl) ?_
    refine lv_iload C.1 C.2.1 dX8_isNeeded_12 (lv_at hl 4 rfl) ?_
    refine c_Vv C hw (ctX8_layFirst l D h cI cL cF cM u2.1 u2.2.1 u2.2.2 x3 x4 hh) (cwV 2 C.2.2.2.2 (gd_V w_1084 w_1086 w_38 w_123 w_1087) rfl rfl rfl cdX8_layFirst ⟨Nat.le_of_ble_eq_true rfl, Nat.le_of_ble_eq_true rfl⟩) rfl (kd_lt kp96 (by decide)) (ce8 kp96) rfl hl.1 (Nat.le_of_ble_eq_true rfl) dX8_isNeeded_14 ⟨Nat.zero_le _, Nat.zero_le _⟩ (fun u14 H locs hh hw => ?_) rfl
    refine lv_aload_n C.1 C.2.1 dX8_isNeeded_17 rfl (lv_at hl 0 rfl) ?_
    refine c_get C hw (inC inW8) (kd_lt kp96 (by decide)) (ce8 kp96) rfl 2 (by decide) (wc w_477) (v := .ref (h 88)) rfl dX8_isNeeded_18 ?_
    refine lv_iconst (v := (1 : Int32)) C.1 C.2.1 dX8_isNeeded_21 (by decide) ?_
    refine lv_iload_n C.1 C.2.1 dX8_isNeeded_22 rfl (lv_at hl 2 rfl) ?_
    refine g_ishl C dX8_isNeeded_23 ?_
    refine c_puti C hw (inC inW3) tyX3 tyX3_ok nmX3 (kd_lt kp88 (by decide)) (ce3 kp88) rfl 8 (by decide) (wc w_409) rfl (ty := .int) (by decide +kernel) rfl rfl (Nat.le_of_ble_eq_true rfl) rfl dX8_isNeeded_24 (fun H locs hw => ?_)
    refine lv_iconst (v := (0 : Int32)) C.1 C.2.1 dX8_isNeeded_27 (by decide) ?_
    refine lv_istore (lv' := [(5, .int (0 : Int32)), (0, .ref (h 96)), (1, .ref (h a1)), (2, .int x2), (3, .int x3), (4, .int x4)]) C.1 C.2.1 dX8_isNeeded_28 hl (by decide) rfl (fun ls hl => ?_)
    obtain ⟨n, hh⟩ := hh
    exact tX8_isNeeded_b30 C hR ha1 n _ _ _ _ _ _ _ hh hw (lv_sub hl [1, 2, 0] rfl)
  · replace hh := hh.2 c5
    refine lv_iconst (v := (0 : Int32)) C.1 C.2.1 dX8_isNeeded_8 (by decide) ?_
    exact hR _ _ _ (u2.1, u2.2.1, u2.2.2) _ _ dX8_isNeeded_9 rfl hh hw
theorem ctX8_isNeeded (l : Launch) (D : va_G) (h : Nat → Nat) (cI cL cF cM : ClassId) (a1 : Nat) (ha1 : kd a1 = 6) (F : Nat → Nat → Int32) (L : Nat → Nat → Int64) (r : Nat → Nat → Nat) (x2 : Int32) (x3 : Int32) (x4 : Int32) {K : Int32 → cS → Prop} (hh : wpX8_isNeeded a1 F L r x2 x3 x4 K) : Ci l yX8_isNeeded wsX8_isNeeded rmX8_isNeeded [.ref (h 96), .ref (h a1), .int x2, .int x3, .int x4] D (cT cI cL cF cM) (cWu h cI cL cF cM) (F, L, r) K := by
  refine Ci_of (cc := cX8_isNeeded) (maxL := 6) (by decide) rfl (Nat.le_of_ble_eq_true rfl) ?_
  intro p e s m below meth c A Q C hw hR ls hl
  exact tX8_isNeeded_b0 C hR ha1 hh hw hl
theorem cdX8_isNeeded : yX8_isNeeded.cls = RX8 ∧ yX8_isNeeded.cls ≠ "java/lang/invoke/MethodHandle" ∧ yX8_isNeeded.cls ≠ "java/lang/invoke/VarHandle" ∧ (parseMethodDescriptor yX8_isNeeded.desc).map (fun d => d.parameters.length) = some 4 := by decide +kernel
abbrev rmX10_needs : Room := { frames := 5, cells := 0, slots := 0, locals := 134 }
set_option maxHeartbeats 4000000 in
set_option maxRecDepth 100000 in
theorem tX10_needs_b17 {K : Int32 → cS → Prop} (C : CallFix p m c cX10_needs 4 s args wsX10_needs RX10) (hR : Rti .int p l e rmX10_needs s m args below meth c cX10_needs D A (cT cI cL cF cM) (cWu h cI cL cF cM) K Q) {F : Nat → Nat → Int32} {L : Nat → Nat → Int64} {r : Nat → Nat → Nat} (hh : wpX10_needs_b17 F L r K) {H : Heap} {locs : List Loc} {ls : Array Slot} (hw : Wd D A s (cT cI cL cF cM) (cW h cI cL cF cM F L r) H locs) (hl : lv_has ls 4 [(0, .ref (h 0))]) : W p l e rmX10_needs s m args below meth c H locs 0 0 Q (F0 m 17 ls []) := by
  unfold wpX10_needs_b17 at hh
  refine lv_iconst (v := (-1 : Int32)) C.1 C.2.1 dX10_needs_17 (by decide) ?_
  exact hR _ _ _ (F, L, r) _ _ dX10_needs_18 rfl hh hw
set_option maxHeartbeats 4000000 in
set_option maxRecDepth 100000 in
theorem tX10_needs_b41 {K : Int32 → cS → Prop} (C : CallFix p m c cX10_needs 4 s args wsX10_needs RX10) (hR : Rti .int p l e rmX10_needs s m args below meth c cX10_needs D A (cT cI cL cF cM) (cWu h cI cL cF cM) K Q) {F : Nat → Nat → Int32} {L : Nat → Nat → Int64} {r : Nat → Nat → Nat} {k0 : Int32} (hh : wpX10_needs_b41 F L r k0 K) {H : Heap} {locs : List Loc} {ls : Array Slot} (hw : Wd D A s (cT cI cL cF cM) (cW h cI cL cF cM F L r) H locs) (hl : lv_has ls 4 [(0, .ref (h 0))]) : W p l e rmX10_needs s m args below meth c H locs 0 0 Q (F0 m 41 ls [.int k0]) := by
  unfold wpX10_needs_b41 at hh
  exact hR _ _ _ (F, L, r) _ _ dX10_needs_41 rfl hh hw
set_option maxHeartbeats 4000000 in
set_option maxRecDepth 100000 in
theorem tX10_needs_b0 {K : Int32 → cS → Prop} (C : CallFix p m c cX10_needs 4 s args wsX10_needs RX10) (hR : Rti .int p l e rmX10_needs s m args below meth c cX10_needs D A (cT cI cL cF cM) (cWu h cI cL cF cM) K Q) {F : Nat → Nat → Int32} {L : Nat → Nat → Int64} {r : Nat → Nat → Nat} {x1 : Int32} {x2 : Int32} {x3 : Int32} (hh : wpX10_needs_b0 F L r x1 x2 x3 K) {H : Heap} {locs : List Loc} {ls : Array Slot} (hw : Wd D A s (cT cI cL cF cM) (cW h cI cL cF cM F L r) H locs) (hl : lv_has ls 4 [(0, .ref (h 0)), (1, .int x1), (2, .int x2), (3, .int x3)]) : W p l e rmX10_needs s m args below meth c H locs 0 0 Q (F0 m 0 ls []) := by
  unfold wpX10_needs_b0 at hh
  refine lv_iload_n C.1 C.2.1 dX10_needs_0 rfl (lv_at hl 2 rfl) ?_
  refine lv_iload_n C.1 C.2.1 dX10_needs_1 rfl (lv_at hl 3 rfl) ?_
  refine wd_Si C hw (ctX8_isSmall l D x2 x3 hh) (va_cwS 2 C.2.2.2.2 (gd_S w_1073 w_1074 (ini_cls rfl w_123) w_1075) rfl rfl rfl cdX8_isSmall ⟨Nat.le_of_ble_eq_true rfl, Nat.le_of_ble_eq_true rfl⟩) rfl hl.1 (Nat.le_of_ble_eq_true rfl) dX10_needs_2 ⟨Nat.zero_le _, Nat.zero_le _⟩ (fun r2 H locs hh hw => ?_) rfl
  refine lv_if_eq (tgt := 17) C.1 C.2.1 dX10_needs_5 (by decide) (fun c5 => ?_) (fun c5 => ?_)
  · replace hh := hh.1 c5
    exact tX10_needs_b17 C hR hh hw (lv_sub hl [0] rfl)
  · replace hh := hh.2 c5
    refine lv_iload_n C.1 C.2.1 dX10_needs_8 rfl (lv_at hl 1 rfl) ?_
    refine lv_if_lt (tgt := 17) C.1 C.2.1 dX10_needs_9 (by decide) (fun c9 => ?_) (fun c9 => ?_)
    · replace hh := hh.1 c9
      exact tX10_needs_b17 C hR hh hw (lv_sub hl [0] rfl)
    · replace hh := hh.2 c9
      refine lv_iload_n C.1 C.2.1 dX10_needs_12 rfl (lv_at hl 1 rfl) ?_
      refine lv_iconst (v := (3 : Int32)) C.1 C.2.1 dX10_needs_13 (by decide) ?_
      refine lv_icmp_lt (tgt := 19) C.1 C.2.1 dX10_needs_14 (by decide) (fun c14 => ?_) (fun c14 => ?_)
      · replace hh := hh.1 c14
        refine lv_aload_n C.1 C.2.1 dX10_needs_19 rfl (lv_at hl 0 rfl) ?_
        refine c_get C hw (inC inW10) (kd_lt kp0 (by decide)) (ce10 kp0) rfl 13 (by decide) (wc w_583) (v := .ref (h 96)) rfl dX10_needs_20 ?_
        refine lv_aload_n C.1 C.2.1 dX10_needs_23 rfl (lv_at hl 0 rfl) ?_
        refine c_get C hw (inC inW10) (kd_lt kp0 (by decide)) (ce10 kp0) rfl 3 (by decide) (wc w_573) (v := .ref (h (r 0 3))) rfl dX10_needs_24 ?_
        refine lv_iload_n C.1 C.2.1 dX10_needs_27 rfl (lv_at hl 1 rfl) ?_
        refine lv_iload_n C.1 C.2.1 dX10_needs_28 rfl (lv_at hl 2 rfl) ?_
        refine lv_iload_n C.1 C.2.1 dX10_needs_29 rfl (lv_at hl 3 rfl) ?_
        obtain ⟨hk0, hh⟩ := hh
        refine c_Vi C hw (ctX8_isNeeded l D h cI cL cF cM (r 0 3) hk0 F L r x1 x2 x3 hh) (cwV 4 C.2.2.2.2 (gd_V w_1135 w_1136 w_1137 w_123 w_1138) rfl rfl rfl cdX8_isNeeded ⟨Nat.le_of_ble_eq_true rfl, Nat.le_of_ble_eq_true rfl⟩) rfl (kd_lt kp96 (by decide)) (ce8 kp96) rfl hl.1 (Nat.le_of_ble_eq_true rfl) dX10_needs_30 ⟨Nat.zero_le _, Nat.zero_le _⟩ (fun r30 u30 H locs hh hw => ?_) rfl
        refine lv_if_eq (tgt := 40) C.1 C.2.1 dX10_needs_33 (by decide) (fun c33 => ?_) (fun c33 => ?_)
        · replace hh := hh.1 c33
          refine lv_iconst (v := (0 : Int32)) C.1 C.2.1 dX10_needs_40 (by decide) ?_
          exact tX10_needs_b41 C hR hh hw (lv_sub hl [0] rfl)
        · replace hh := hh.2 c33
          refine lv_iconst (v := (1 : Int32)) C.1 C.2.1 dX10_needs_36 (by decide) ?_
          refine lv_goto (tgt := 41) C.1 C.2.1 dX10_needs_37 (by decide) ?_
          exact tX10_needs_b41 C hR hh hw (lv_sub hl [0] rfl)
      · replace hh := hh.2 c14
        exact tX10_needs_b17 C hR hh hw (lv_sub hl [0] rfl)
theorem ctX10_needs (l : Launch) (D : va_G) (h : Nat → Nat) (cI cL cF cM : ClassId) (F : Nat → Nat → Int32) (L : Nat → Nat → Int64) (r : Nat → Nat → Nat) (x1 : Int32) (x2 : Int32) (x3 : Int32) {K : Int32 → cS → Prop} (hh : wpX10_needs F L r x1 x2 x3 K) : Ci l yX10_needs wsX10_needs rmX10_needs [.ref (h 0), .int x1, .int x2, .int x3] D (cT cI cL cF cM) (cWu h cI cL cF cM) (F, L, r) K := by
  refine Ci_of (cc := cX10_needs) (maxL := 4) (by decide) rfl (Nat.le_of_ble_eq_true rfl) ?_
  intro p e s m below meth c A Q C hw hR ls hl
  exact tX10_needs_b0 C hR hh hw hl
theorem cdX10_needs : yX10_needs.cls = RX10 ∧ yX10_needs.cls ≠ "java/lang/invoke/MethodHandle" ∧ yX10_needs.cls ≠ "java/lang/invoke/VarHandle" ∧ (parseMethodDescriptor yX10_needs.desc).map (fun d => d.parameters.length) = some 3 := by decide +kernel
abbrev rmX10_knows : Room := { frames := 1, cells := 0, slots := 0, locals := 22 }
set_option maxHeartbeats 4000000 in
set_option maxRecDepth 100000 in
theorem tX10_knows_b17_body {B17 : (Nat → Nat → Int32) → (Nat → Nat → Int64) → (Nat → Nat → Nat) → Int32 → Int32 → Prop} {K : Int32 → cS → Prop} (C : CallFix p m c cX10_knows 5 s args wsX10_knows RX10) (hR : Rti .int p l e rmX10_knows s m args below meth c cX10_knows D A (cT cI cL cF cM) (cWu h cI cL cF cM) K Q) (hB17 : ∀ (F : Nat → Nat → Int32) (L : Nat → Nat → Int64) (r : Nat → Nat → Nat) (x2 : Int32) (x3 : Int32) (H : Heap) (locs : List Loc) (ls : Array Slot), B17 F L r x2 x3 → Wd D A s (cT cI cL cF cM) (cW h cI cL cF cM F L r) H locs → lv_has ls 5 [(0, .ref (h 0)), (2, .int x2), (3, .int x3)] → W p l e rmX10_knows s m args below meth c H locs 0 0 Q (F0 m 17 ls [])) {F : Nat → Nat → Int32} {L : Nat → Nat → Int64} {r : Nat → Nat → Nat} {x2 : Int32} {x3 : Int32} (hh : wpX10_knows_b17_body B17 F L r x2 x3 K) {H : Heap} {locs : List Loc} {ls : Array Slot} (hw : Wd D A s (cT cI cL cF cM) (cW h cI cL cF cM F L r) H locs) (hl : lv_has ls 5 [(0, .ref (h 0)), (2, .int x2), (3, .int x3)]) : W p l e rmX10_knows s m args below meth c H locs 0 0 Q (F0 m 17 ls []) := by
  unfold wpX10_knows_b17_body at hh
  refine lv_iload_n C.1 C.2.1 dX10_knows_17 rfl (lv_at hl 2 rfl) ?_
  refine lv_aload_n C.1 C.2.1 dX10_knows_18 rfl (lv_at hl 0 rfl) ?_
  refine c_get C hw (inC inW10) (kd_lt kp0 (by decide)) (ce10 kp0) rfl 5 (by decide) (wc w_575) (v := .ref (h 46)) rfl dX10_knows_19 ?_
  refine c_get C hw (inC inW1) (kd_lt kp46 (by decide)) (ce1 kp46) rfl 2 (by decide) (wc w_360) (v := .int (F 46 2)) rfl dX10_knows_22 ?_
  refine lv_icmp_ge (tgt := 83) C.1 C.2.1 dX10_knows_25 (by decide) (fun c25 => ?_) (fun c25 => ?_)
  · replace hh := hh.1 c25
    refine lv_iconst (v := (-1 : Int32)) C.1 C.2.1 dX10_knows_83 (by decide) ?_
    exact hR _ _ _ (F, L, r) _ _ dX10_knows_84 rfl hh hw
  · replace hh := hh.2 c25
    refine lv_iload_n C.1 C.2.1 dX10_knows_28 rfl (lv_at hl 1 rfl) ?_
    refine lv_aload_n C.1 C.2.1 dX10_knows_29 rfl (lv_at hl 0 rfl) ?_
    refine c_get C hw (inC inW10) (kd_lt kp0 (by decide)) (ce10 kp0) rfl 5 (by decide) (wc w_575) (v := .ref (h 46)) rfl dX10_knows_30 ?_
    refine c_get C hw (inC inW1) (kd_lt kp46 (by decide)) (ce1 kp46) rfl 3 (by decide) (wc w_362) (v := .int (F 46 3)) rfl dX10_knows_33 ?_
    refine lv_icmp_ne (tgt := 41) C.1 C.2.1 dX10_knows_36 (by decide) (fun c36 => ?_) (fun c36 => ?_)
    · replace hh := hh.1 c36
      refine lv_aload_n C.1 C.2.1 dX10_knows_41 rfl (lv_at hl 0 rfl) ?_
      refine c_get C hw (inC inW10) (kd_lt kp0 (by decide)) (ce10 kp0) rfl 6 (by decide) (wc w_576) (v := .ref (h 74)) rfl dX10_knows_42 ?_
      refine lv_iload_n C.1 C.2.1 dX10_knows_45 rfl (lv_at hl 1 rfl) ?_
      refine c_Vi C hw (ctX3_wayOf l D h cI cL cF cM 74 kp74 F L r x2 hh) (cwV 1 C.2.2.2.2 (gd_V w_1157 w_1006 w_1007 w_121 w_1008) rfl rfl rfl cdX3_wayOf ⟨Nat.le_of_ble_eq_true rfl, Nat.le_of_ble_eq_true rfl⟩) rfl (kd_lt kp74 (by decide)) (ce3 kp74) rfl hl.1 (Nat.le_of_ble_eq_true rfl) dX10_knows_46 ⟨Nat.zero_le _, Nat.zero_le _⟩ (fun r46 u46 H locs hh hw => ?_) rfl
      refine lv_istore (lv' := [(4, .int r46), (0, .ref (h 0)), (2, .int x2), (3, .int x3)]) C.1 C.2.1 dX10_knows_49 hl (by decide) rfl (fun ls hl => ?_)
      refine lv_aload_n C.1 C.2.1 dX10_knows_51 rfl (lv_at hl 1 rfl) ?_
      refine c_get C hw (inC inW10) (kd_lt kp0 (by decide)) (ce10 kp0) rfl 5 (by decide) (wc w_575) (v := .ref (h 46)) rfl dX10_knows_52 ?_
      refine lv_iload_n C.1 C.2.1 dX10_knows_55 rfl (lv_at hl 2 rfl) ?_
      refine lv_iload C.1 C.2.1 dX10_knows_56 (lv_at hl 0 rfl) ?_
      refine c_Vi C hw (ctX1_isWalled l D h cI cL cF cM 46 kp46 u46.1 u46.2.1 u46.2.2 x2 r46 hh) (cwV 2 C.2.2.2.2 (gd_V w_948 w_949 w_950 w_120 w_951) rfl rfl rfl cdX1_isWalled ⟨Nat.le_of_ble_eq_true rfl, Nat.le_of_ble_eq_true rfl⟩) rfl (kd_lt kp46 (by decide)) (ce1 kp46) rfl hl.1 (Nat.le_of_ble_eq_true rfl) dX10_knows_58 ⟨Nat.zero_le _, Nat.zero_le _⟩ (fun r58 u58 H locs hh hw => ?_) rfl
      refine lv_if_eq (tgt := 66) C.1 C.2.1 dX10_knows_61 (by decide) (fun c61 => ?_) (fun c61 => ?_)
      · replace hh := hh.1 c61
        refine lv_aload_n C.1 C.2.1 dX10_knows_66 rfl (lv_at hl 1 rfl) ?_
        refine c_get C hw (inC inW10) (kd_lt kp0 (by decide)) (ce10 kp0) rfl 5 (by decide) (wc w_575) (v := .ref (h 46)) rfl dX10_knows_67 ?_
        refine lv_iload_n C.1 C.2.1 dX10_knows_70 rfl (lv_at hl 2 rfl) ?_
        refine lv_iload C.1 C.2.1 dX10_knows_71 (lv_at hl 0 rfl) ?_
        refine c_Vi C hw (ctX1_ahead l D h cI cL cF cM 46 kp46 u58.1 u58.2.1 u58.2.2 x2 r46 hh) (cwV 2 C.2.2.2.2 (gd_V w_1158 w_962 w_963 w_120 w_964) rfl rfl rfl cdX1_ahead ⟨Nat.le_of_ble_eq_true rfl, Nat.le_of_ble_eq_true rfl⟩) rfl (kd_lt kp46 (by decide)) (ce1 kp46) rfl hl.1 (Nat.le_of_ble_eq_true rfl) dX10_knows_73 ⟨Nat.zero_le _, Nat.zero_le _⟩ (fun r73 u73 H locs hh hw => ?_) rfl
        refine lv_istore_n (lv' := [(2, .int r73), (4, .int r46), (0, .ref (h 0)), (3, .int x3)]) C.1 C.2.1 dX10_knows_76 rfl hl (by decide) rfl (fun ls hl => ?_)
        refine lv_iinc (v := x3 + (1 : Int32)) (lv' := [(3, .int (x3 + (1 : Int32))), (2, .int r73), (4, .int r46), (0, .ref (h 0))]) C.1 C.2.1 dX10_knows_77 hl (k := 3) rfl rfl (by decide) rfl (fun ls hl => ?_)
        refine lv_goto (tgt := 17) C.1 C.2.1 dX10_knows_80 (by decide) ?_
        exact hB17 _ _ _ _ _ _ _ _ hh hw (lv_sub hl [3, 1, 0] rfl)
      · replace hh := hh.2 c61
        refine lv_iconst (v := (-1 : Int32)) C.1 C.2.1 dX10_knows_64 (by decide) ?_
        exact hR _ _ _ (u58.1, u58.2.1, u58.2.2) _ _ dX10_knows_65 rfl hh hw
    · replace hh := hh.2 c36
      refine lv_iload_n C.1 C.2.1 dX10_knows_39 rfl (lv_at hl 2 rfl) ?_
      exact hR _ _ _ (F, L, r) _ _ dX10_knows_40 rfl hh hw
theorem tX10_knows_b17 {K : Int32 → cS → Prop} (C : CallFix p m c cX10_knows 5 s args wsX10_knows RX10) (hR : Rti .int p l e rmX10_knows s m args below meth c cX10_knows D A (cT cI cL cF cM) (cWu h cI cL cF cM) K Q) (n : Nat) : ∀ (F : Nat → Nat → Int32) (L : Nat → Nat → Int64) (r : Nat → Nat → Nat) (x2 : Int32) (x3 : Int32) (H : Heap) (locs : List Loc) (ls : Array Slot), wpX10_knows_b17 n F L r x2 x3 K → Wd D A s (cT cI cL cF cM) (cW h cI cL cF cM F L r) H locs → lv_has ls 5 [(0, .ref (h 0)), (2, .int x2), (3, .int x3)] → W p l e rmX10_knows s m args below meth c H locs 0 0 Q (F0 m 17 ls []) := by
  induction n with
  | zero => intro F L r x2 x3 H locs ls hh; exact hh.elim
  | succ n ih => intro F L r x2 x3 H locs ls hh hw hl; exact tX10_knows_b17_body C hR ih hh hw hl
set_option maxHeartbeats 4000000 in
set_option maxRecDepth 100000 in
theorem tX10_knows_b0 {K : Int32 → cS → Prop} (C : CallFix p m c cX10_knows 5 s args wsX10_knows RX10) (hR : Rti .int p l e rmX10_knows s m args below meth c cX10_knows D A (cT cI cL cF cM) (cWu h cI cL cF cM) K Q) {F : Nat → Nat → Int32} {L : Nat → Nat → Int64} {r : Nat → Nat → Nat} {x1 : Int32} (hh : wpX10_knows_b0 F L r x1 K) {H : Heap} {locs : List Loc} {ls : Array Slot} (hw : Wd D A s (cT cI cL cF cM) (cW h cI cL cF cM F L r) H locs) (hl : lv_has ls 5 [(0, .ref (h 0)), (1, .int x1)]) : W p l e rmX10_knows s m args below meth c H locs 0 0 Q (F0 m 0 ls []) := by
  unfold wpX10_knows_b0 at hh
  refine lv_aload_n C.1 C.2.1 dX10_knows_0 rfl (lv_at hl 0 rfl) ?_
  refine c_get C hw (inC inW10) (kd_lt kp0 (by decide)) (ce10 kp0) rfl 5 (by decide) (wc w_575) (v := .ref (h 46)) rfl dX10_knows_1 ?_
  refine lv_iload_n C.1 C.2.1 dX10_knows_4 rfl (lv_at hl 1 rfl) ?_
  refine c_Vi C hw (ctX1_has l D h cI cL cF cM 46 kp46 F L r x1 hh) (cwV 1 C.2.2.2.2 (gd_V w_937 w_938 w_939 w_120 w_940) rfl rfl rfl cdX1_has ⟨Nat.le_of_ble_eq_true rfl, Nat.le_of_ble_eq_true rfl⟩) rfl (kd_lt kp46 (by decide)) (ce1 kp46) rfl hl.1 (Nat.le_of_ble_eq_true rfl) dX10_knows_5 ⟨Nat.zero_le _, Nat.zero_le _⟩ (fun r5 u5 H locs hh hw => ?_) rfl
  refine lv_if_ne (tgt := 13) C.1 C.2.1 dX10_knows_8 (by decide) (fun c8 => ?_) (fun c8 => ?_)
  · replace hh := hh.1 c8
    refine lv_iload_n C.1 C.2.1 dX10_knows_13 rfl (lv_at hl 1 rfl) ?_
    refine lv_istore_n (lv' := [(2, .int x1), (0, .ref (h 0)), (1, .int x1)]) C.1 C.2.1 dX10_knows_14 rfl hl (by decide) rfl (fun ls hl => ?_)
    refine lv_iconst (v := (0 : Int32)) C.1 C.2.1 dX10_knows_15 (by decide) ?_
    refine lv_istore_n (lv' := [(3, .int (0 : Int32)), (2, .int x1), (0, .ref (h 0)), (1, .int x1)]) C.1 C.2.1 dX10_knows_16 rfl hl (by decide) rfl (fun ls hl => ?_)
    obtain ⟨n, hh⟩ := hh
    exact tX10_knows_b17 C hR n _ _ _ _ _ _ _ _ hh hw (lv_sub hl [2, 1, 0] rfl)
  · replace hh := hh.2 c8
    refine lv_iconst (v := (-1 : Int32)) C.1 C.2.1 dX10_knows_11 (by decide) ?_
    exact hR _ _ _ (u5.1, u5.2.1, u5.2.2) _ _ dX10_knows_12 rfl hh hw
theorem ctX10_knows (l : Launch) (D : va_G) (h : Nat → Nat) (cI cL cF cM : ClassId) (F : Nat → Nat → Int32) (L : Nat → Nat → Int64) (r : Nat → Nat → Nat) (x1 : Int32) {K : Int32 → cS → Prop} (hh : wpX10_knows F L r x1 K) : Ci l yX10_knows wsX10_knows rmX10_knows [.ref (h 0), .int x1] D (cT cI cL cF cM) (cWu h cI cL cF cM) (F, L, r) K := by
  refine Ci_of (cc := cX10_knows) (maxL := 5) (by decide) rfl (Nat.le_of_ble_eq_true rfl) ?_
  intro p e s m below meth c A Q C hw hR ls hl
  exact tX10_knows_b0 C hR hh hw hl
theorem cdX10_knows : yX10_knows.cls = RX10 ∧ yX10_knows.cls ≠ "java/lang/invoke/MethodHandle" ∧ yX10_knows.cls ≠ "java/lang/invoke/VarHandle" ∧ (parseMethodDescriptor yX10_knows.desc).map (fun d => d.parameters.length) = some 1 := by decide +kernel
abbrev rmX3_inputs : Room := { frames := 1, cells := 0, slots := 0, locals := 22 }
set_option maxHeartbeats 4000000 in
set_option maxRecDepth 100000 in
theorem tX3_inputs_b48 {a0 : Nat} {a1 : Nat} {K : Int32 → cS → Prop} (C : CallFix p m c cX3_inputs 3 s args wsX3_inputs RX3) (hR : Rti .int p l e rmX3_inputs s m args below meth c cX3_inputs D A (cT cI cL cF cM) (cWu h cI cL cF cM) K Q) (ha0 : kd a0 = 3) (ha1 : kd a1 = 1) {F : Nat → Nat → Int32} {L : Nat → Nat → Int64} {r : Nat → Nat → Nat} {x2 : Int32} (hh : wpX3_inputs_b48 a0 a1 F L r x2 K) {H : Heap} {locs : List Loc} {ls : Array Slot} (hw : Wd D A s (cT cI cL cF cM) (cW h cI cL cF cM F L r) H locs) (hl : lv_has ls 3 [(0, .ref (h a0)), (2, .int x2)]) : W p l e rmX3_inputs s m args below meth c H locs 0 0 Q (F0 m 48 ls []) := by
  unfold wpX3_inputs_b48 at hh
  refine lv_iload_n C.1 C.2.1 dX3_inputs_48 rfl (lv_at hl 1 rfl) ?_
  exact hR _ _ _ (F, L, r) _ _ dX3_inputs_49 rfl hh hw
set_option maxHeartbeats 4000000 in
set_option maxRecDepth 100000 in
theorem tX3_inputs_b32 {a0 : Nat} {a1 : Nat} {K : Int32 → cS → Prop} (C : CallFix p m c cX3_inputs 3 s args wsX3_inputs RX3) (hR : Rti .int p l e rmX3_inputs s m args below meth c cX3_inputs D A (cT cI cL cF cM) (cWu h cI cL cF cM) K Q) (ha0 : kd a0 = 3) (ha1 : kd a1 = 1) {F : Nat → Nat → Int32} {L : Nat → Nat → Int64} {r : Nat → Nat → Nat} {x2 : Int32} (hh : wpX3_inputs_b32 a0 a1 F L r x2 K) {H : Heap} {locs : List Loc} {ls : Array Slot} (hw : Wd D A s (cT cI cL cF cM) (cW h cI cL cF cM F L r) H locs) (hl : lv_has ls 3 [(0, .ref (h a0)), (1, .ref (h a1)), (2, .int x2)]) : W p l e rmX3_inputs s m args below meth c H locs 0 0 Q (F0 m 32 ls []) := by
  unfold wpX3_inputs_b32 at hh
  refine lv_aload_n C.1 C.2.1 dX3_inputs_32 rfl (lv_at hl 0 rfl) ?_
  refine c_get C hw (inC inW3) (kd_lt ha0 (by decide)) (ce3 ha0) rfl 0 (by decide) (wc w_392) (v := .int (F a0 0)) rfl dX3_inputs_33 ?_
  refine lv_aload_n C.1 C.2.1 dX3_inputs_36 rfl (lv_at hl 1 rfl) ?_
  refine c_get C hw (inC inW1) (kd_lt ha1 (by decide)) (ce1 ha1) rfl 3 (by decide) (wc w_364) (v := .int (F a1 3)) rfl dX3_inputs_37 ?_
  refine lv_icmp_ne (tgt := 48) C.1 C.2.1 dX3_inputs_40 (by decide) (fun c40 => ?_) (fun c40 => ?_)
  · replace hh := hh.1 c40
    exact tX3_inputs_b48 C hR ha0 ha1 hh hw (lv_sub hl [0, 2] rfl)
  · replace hh := hh.2 c40
    refine lv_iload_n C.1 C.2.1 dX3_inputs_43 rfl (lv_at hl 2 rfl) ?_
    refine lv_ldc C.1 C.2.1 C.2.2.2.1 (C.2.2.2.2 _ (wc w_1172)) dX3_inputs_44 ?_
    refine lv_ior C.1 C.2.1 dX3_inputs_46 ?_
    refine lv_istore_n (lv' := [(2, .int (x2 ||| (2097152 : Int32))), (0, .ref (h a0)), (1, .ref (h a1))]) C.1 C.2.1 dX3_inputs_47 rfl hl (by decide) rfl (fun ls hl => ?_)
    exact tX3_inputs_b48 C hR ha0 ha1 hh hw (lv_sub hl [1, 0] rfl)
set_option maxHeartbeats 4000000 in
set_option maxRecDepth 100000 in
theorem tX3_inputs_b0 {a0 : Nat} {a1 : Nat} {K : Int32 → cS → Prop} (C : CallFix p m c cX3_inputs 3 s args wsX3_inputs RX3) (hR : Rti .int p l e rmX3_inputs s m args below meth c cX3_inputs D A (cT cI cL cF cM) (cWu h cI cL cF cM) K Q) (ha0 : kd a0 = 3) (ha1 : kd a1 = 1) {F : Nat → Nat → Int32} {L : Nat → Nat → Int64} {r : Nat → Nat → Nat} (hh : wpX3_inputs_b0 a0 a1 F L r K) {H : Heap} {locs : List Loc} {ls : Array Slot} (hw : Wd D A s (cT cI cL cF cM) (cW h cI cL cF cM F L r) H locs) (hl : lv_has ls 3 [(0, .ref (h a0)), (1, .ref (h a1))]) : W p l e rmX3_inputs s m args below meth c H locs 0 0 Q (F0 m 0 ls []) := by
  unfold wpX3_inputs_b0 at hh
  refine lv_aload_n C.1 C.2.1 dX3_inputs_0 rfl (lv_at hl 0 rfl) ?_
  refine lv_aload_n C.1 C.2.1 dX3_inputs_1 rfl (lv_at hl 0 rfl) ?_
  refine c_get C hw (inC inW3) (kd_lt ha0 (by decide)) (ce3 ha0) rfl 0 (by decide) (wc w_392) (v := .int (F a0 0)) rfl dX3_inputs_2 ?_
  refine c_Vi C hw (ctX3_wayOf l D h cI cL cF cM a0 ha0 F L r (F a0 0) hh) (cwV 1 C.2.2.2.2 (gd_V w_1005 w_1006 w_1007 w_121 w_1008) rfl rfl rfl cdX3_wayOf ⟨Nat.le_of_ble_eq_true rfl, Nat.le_of_ble_eq_true rfl⟩) rfl (kd_lt ha0 (by decide)) (ce3 ha0) rfl hl.1 (Nat.le_of_ble_eq_true rfl) dX3_inputs_5 ⟨Nat.zero_le _, Nat.zero_le _⟩ (fun r5 u5 H locs hh hw => ?_) rfl
  refine lv_bipush (v := (22 : Int32)) C.1 C.2.1 dX3_inputs_8 (by decide) ?_
  refine g_ishl C dX3_inputs_10 ?_
  refine lv_istore_n (lv' := [(2, .int (jshl r5 (22 : Int32))), (0, .ref (h a0)), (1, .ref (h a1))]) C.1 C.2.1 dX3_inputs_11 rfl hl (by decide) rfl (fun ls hl => ?_)
  refine lv_aload_n C.1 C.2.1 dX3_inputs_12 rfl (lv_at hl 2 rfl) ?_
  refine lv_aload_n C.1 C.2.1 dX3_inputs_13 rfl (lv_at hl 1 rfl) ?_
  refine c_get C hw (inC inW3) (kd_lt ha0 (by decide)) (ce3 ha0) rfl 0 (by decide) (wc w_392) (v := .int (u5.1 a0 0)) rfl dX3_inputs_14 ?_
  refine lv_aload_n C.1 C.2.1 dX3_inputs_17 rfl (lv_at hl 1 rfl) ?_
  refine c_get C hw (inC inW3) (kd_lt ha0 (by decide)) (ce3 ha0) rfl 1 (by decide) (wc w_396) (v := .int (u5.1 a0 1)) rfl dX3_inputs_18 ?_
  refine c_Vi C hw (ctX1_isWalled l D h cI cL cF cM a1 ha1 u5.1 u5.2.1 u5.2.2 (u5.1 a0 0) (u5.1 a0 1) hh) (cwV 2 C.2.2.2.2 (gd_V w_1004 w_949 w_950 w_120 w_951) rfl rfl rfl cdX1_isWalled ⟨Nat.le_of_ble_eq_true rfl, Nat.le_of_ble_eq_true rfl⟩) rfl (kd_lt ha1 (by decide)) (ce1 ha1) rfl hl.1 (Nat.le_of_ble_eq_true rfl) dX3_inputs_21 ⟨Nat.zero_le _, Nat.zero_le _⟩ (fun r21 u21 H locs hh hw => ?_) rfl
  refine lv_if_eq (tgt := 32) C.1 C.2.1 dX3_inputs_24 (by decide) (fun c24 => ?_) (fun c24 => ?_)
  · replace hh := hh.1 c24
    exact tX3_inputs_b32 C hR ha0 ha1 hh hw (lv_sub hl [1, 2, 0] rfl)
  · replace hh := hh.2 c24
    refine lv_iload_n C.1 C.2.1 dX3_inputs_27 rfl (lv_at hl 0 rfl) ?_
    refine lv_ldc C.1 C.2.1 C.2.2.2.1 (C.2.2.2.2 _ (wc w_1171)) dX3_inputs_28 ?_
    refine lv_ior C.1 C.2.1 dX3_inputs_30 ?_
    refine lv_istore_n (lv' := [(2, .int ((jshl r5 (22 : Int32)) ||| (1048576 : Int32))), (0, .ref (h a0)), (1, .ref (h a1))]) C.1 C.2.1 dX3_inputs_31 rfl hl (by decide) rfl (fun ls hl => ?_)
    exact tX3_inputs_b32 C hR ha0 ha1 hh hw (lv_sub hl [1, 2, 0] rfl)
theorem ctX3_inputs (l : Launch) (D : va_G) (h : Nat → Nat) (cI cL cF cM : ClassId) (a0 : Nat) (a1 : Nat) (ha0 : kd a0 = 3) (ha1 : kd a1 = 1) (F : Nat → Nat → Int32) (L : Nat → Nat → Int64) (r : Nat → Nat → Nat) {K : Int32 → cS → Prop} (hh : wpX3_inputs a0 a1 F L r K) : Ci l yX3_inputs wsX3_inputs rmX3_inputs [.ref (h a0), .ref (h a1)] D (cT cI cL cF cM) (cWu h cI cL cF cM) (F, L, r) K := by
  refine Ci_of (cc := cX3_inputs) (maxL := 3) (by decide) rfl (Nat.le_of_ble_eq_true rfl) ?_
  intro p e s m below meth c A Q C hw hR ls hl
  exact tX3_inputs_b0 C hR ha0 ha1 hh hw hl
theorem cdX3_inputs : yX3_inputs.cls = RX3 ∧ yX3_inputs.cls ≠ "java/lang/invoke/MethodHandle" ∧ yX3_inputs.cls ≠ "java/lang/invoke/VarHandle" ∧ (parseMethodDescriptor yX3_inputs.desc).map (fun d => d.parameters.length) = some 1 := by decide +kernel
abbrev rmX4_valueOf : Room := { frames := 0, cells := 0, slots := 0, locals := 0 }
set_option maxHeartbeats 4000000 in
set_option maxRecDepth 100000 in
theorem tX4_valueOf_b10 {a0 : Nat} {K : Int32 → cS → Prop} (C : CallFix p m c cX4_valueOf 7 s args wsX4_valueOf RX4) (hR : Rti .int p l e rmX4_valueOf s m args below meth c cX4_valueOf D A (cT cI cL cF cM) (cWu h cI cL cF cM) K Q) (ha0 : kd a0 = 4) {F : Nat → Nat → Int32} {L : Nat → Nat → Int64} {r : Nat → Nat → Nat} (hh : wpX4_valueOf_b10 a0 F L r K) {H : Heap} {locs : List Loc} {ls : Array Slot} (hw : Wd D A s (cT cI cL cF cM) (cW h cI cL cF cM F L r) H locs) (hl : lv_has ls 7 [(0, .ref (h a0))]) : W p l e rmX4_valueOf s m args below meth c H locs 0 0 Q (F0 m 10 ls []) := by
  unfold wpX4_valueOf_b10 at hh
  refine lv_iconst (v := (0 : Int32)) C.1 C.2.1 dX4_valueOf_10 (by decide) ?_
  exact hR _ _ _ (F, L, r) _ _ dX4_valueOf_11 rfl hh hw
set_option maxHeartbeats 4000000 in
set_option maxRecDepth 100000 in
theorem tX4_valueOf_b108 {a0 : Nat} {B22 : (Nat → Nat → Int32) → (Nat → Nat → Int64) → (Nat → Nat → Nat) → Int32 → Int32 → Int32 → Int32 → Prop} {K : Int32 → cS → Prop} (C : CallFix p m c cX4_valueOf 7 s args wsX4_valueOf RX4) (hR : Rti .int p l e rmX4_valueOf s m args below meth c cX4_valueOf D A (cT cI cL cF cM) (cWu h cI cL cF cM) K Q) (ha0 : kd a0 = 4) (hB22 : ∀ (F : Nat → Nat → Int32) (L : Nat → Nat → Int64) (r : Nat → Nat → Nat) (x1 : Int32) (x2 : Int32) (x3 : Int32) (x4 : Int32) (H : Heap) (locs : List Loc) (ls : Array Slot), B22 F L r x1 x2 x3 x4 → Wd D A s (cT cI cL cF cM) (cW h cI cL cF cM F L r) H locs → lv_has ls 7 [(0, .ref (h a0)), (1, .int x1), (2, .int x2), (3, .int x3), (4, .int x4)] → W p l e rmX4_valueOf s m args below meth c H locs 0 0 Q (F0 m 22 ls [])) {F : Nat → Nat → Int32} {L : Nat → Nat → Int64} {r : Nat → Nat → Nat} {x1 : Int32} {x2 : Int32} {x3 : Int32} {x4 : Int32} (hh : wpX4_valueOf_b108 B22 a0 F L r x1 x2 x3 x4 K) {H : Heap} {locs : List Loc} {ls : Array Slot} (hw : Wd D A s (cT cI cL cF cM) (cW h cI cL cF cM F L r) H locs) (hl : lv_has ls 7 [(0, .ref (h a0)), (1, .int x1), (2, .int x2), (3, .int x3), (4, .int x4)]) : W p l e rmX4_valueOf s m args below meth c H locs 0 0 Q (F0 m 108 ls []) := by
  unfold wpX4_valueOf_b108 at hh
  refine lv_iinc (v := x4 + (1 : Int32)) (lv' := [(4, .int (x4 + (1 : Int32))), (0, .ref (h a0)), (1, .int x1), (2, .int x2), (3, .int x3)]) C.1 C.2.1 dX4_valueOf_108 hl (k := 4) rfl rfl (by decide) rfl (fun ls hl => ?_)
  refine lv_goto (tgt := 22) C.1 C.2.1 dX4_valueOf_111 (by decide) ?_
  exact hB22 _ _ _ _ _ _ _ _ _ _ hh hw (lv_sub hl [1, 2, 3, 4, 0] rfl)
set_option maxHeartbeats 4000000 in
set_option maxRecDepth 100000 in
theorem tX4_valueOf_b107 {a0 : Nat} {B22 : (Nat → Nat → Int32) → (Nat → Nat → Int64) → (Nat → Nat → Nat) → Int32 → Int32 → Int32 → Int32 → Prop} {K : Int32 → cS → Prop} (C : CallFix p m c cX4_valueOf 7 s args wsX4_valueOf RX4) (hR : Rti .int p l e rmX4_valueOf s m args below meth c cX4_valueOf D A (cT cI cL cF cM) (cWu h cI cL cF cM) K Q) (ha0 : kd a0 = 4) (hB22 : ∀ (F : Nat → Nat → Int32) (L : Nat → Nat → Int64) (r : Nat → Nat → Nat) (x1 : Int32) (x2 : Int32) (x3 : Int32) (x4 : Int32) (H : Heap) (locs : List Loc) (ls : Array Slot), B22 F L r x1 x2 x3 x4 → Wd D A s (cT cI cL cF cM) (cW h cI cL cF cM F L r) H locs → lv_has ls 7 [(0, .ref (h a0)), (1, .int x1), (2, .int x2), (3, .int x3), (4, .int x4)] → W p l e rmX4_valueOf s m args below meth c H locs 0 0 Q (F0 m 22 ls [])) {F : Nat → Nat → Int32} {L : Nat → Nat → Int64} {r : Nat → Nat → Nat} {k0 : Int32} {x1 : Int32} {x2 : Int32} {x4 : Int32} (hh : wpX4_valueOf_b107 B22 a0 F L r k0 x1 x2 x4 K) {H : Heap} {locs : List Loc} {ls : Array Slot} (hw : Wd D A s (cT cI cL cF cM) (cW h cI cL cF cM F L r) H locs) (hl : lv_has ls 7 [(0, .ref (h a0)), (1, .int x1), (2, .int x2), (4, .int x4)]) : W p l e rmX4_valueOf s m args below meth c H locs 0 0 Q (F0 m 107 ls [.int k0]) := by
  unfold wpX4_valueOf_b107 at hh
  refine lv_istore_n (lv' := [(3, .int k0), (0, .ref (h a0)), (1, .int x1), (2, .int x2), (4, .int x4)]) C.1 C.2.1 dX4_valueOf_107 rfl hl (by decide) rfl (fun ls hl => ?_)
  exact tX4_valueOf_b108 C hR ha0 hB22 hh hw (lv_sub hl [1, 2, 3, 0, 4] rfl)
set_option maxHeartbeats 4000000 in
set_option maxRecDepth 100000 in
theorem tX4_valueOf_b22_body {a0 : Nat} {B22 : (Nat → Nat → Int32) → (Nat → Nat → Int64) → (Nat → Nat → Nat) → Int32 → Int32 → Int32 → Int32 → Prop} {K : Int32 → cS → Prop} (C : CallFix p m c cX4_valueOf 7 s args wsX4_valueOf RX4) (hR : Rti .int p l e rmX4_valueOf s m args below meth c cX4_valueOf D A (cT cI cL cF cM) (cWu h cI cL cF cM) K Q) (ha0 : kd a0 = 4) (hB22 : ∀ (F : Nat → Nat → Int32) (L : Nat → Nat → Int64) (r : Nat → Nat → Nat) (x1 : Int32) (x2 : Int32) (x3 : Int32) (x4 : Int32) (H : Heap) (locs : List Loc) (ls : Array Slot), B22 F L r x1 x2 x3 x4 → Wd D A s (cT cI cL cF cM) (cW h cI cL cF cM F L r) H locs → lv_has ls 7 [(0, .ref (h a0)), (1, .int x1), (2, .int x2), (3, .int x3), (4, .int x4)] → W p l e rmX4_valueOf s m args below meth c H locs 0 0 Q (F0 m 22 ls [])) {F : Nat → Nat → Int32} {L : Nat → Nat → Int64} {r : Nat → Nat → Nat} {x1 : Int32} {x2 : Int32} {x3 : Int32} {x4 : Int32} (hh : wpX4_valueOf_b22_body B22 a0 F L r x1 x2 x3 x4 K) {H : Heap} {locs : List Loc} {ls : Array Slot} (hw : Wd D A s (cT cI cL cF cM) (cW h cI cL cF cM F L r) H locs) (hl : lv_has ls 7 [(0, .ref (h a0)), (1, .int x1), (2, .int x2), (3, .int x3), (4, .int x4)]) : W p l e rmX4_valueOf s m args below meth c H locs 0 0 Q (F0 m 22 ls []) := by
  unfold wpX4_valueOf_b22_body at hh
  refine lv_iload C.1 C.2.1 dX4_valueOf_22 (lv_at hl 4 rfl) ?_
  refine lv_aload_n C.1 C.2.1 dX4_valueOf_24 rfl (lv_at hl 0 rfl) ?_
  refine c_get C hw (inC inW4) (kd_lt ha0 (by decide)) (ce4 ha0) rfl 5 (by decide) (wc w_292) (v := .ref (h (a0 + 3))) rfl dX4_valueOf_25 ?_
  refine lv_iload_n C.1 C.2.1 dX4_valueOf_28 rfl (lv_at hl 1 rfl) ?_
  obtain ⟨hi29, hh⟩ := hh
  refine c_ial C hw (kd_lt (kd4_3 ha0) (by decide)) (ce21 (kd4_3 ha0)) hi29 dX4_valueOf_29 ?_
  refine lv_icmp_ge (tgt := 114) C.1 C.2.1 dX4_valueOf_30 (by decide) (fun c30 => ?_) (fun c30 => ?_)
  · replace hh := hh.1 c30
    refine lv_iload_n C.1 C.2.1 dX4_valueOf_114 rfl (lv_at hl 3 rfl) ?_
    refine lv_iconst (v := (1 : Int32)) C.1 C.2.1 dX4_valueOf_115 (by decide) ?_
    refine lv_iand C.1 C.2.1 dX4_valueOf_116 ?_
    exact hR _ _ _ (F, L, r) _ _ dX4_valueOf_117 rfl hh hw
  · replace hh := hh.2 c30
    refine lv_aload_n C.1 C.2.1 dX4_valueOf_33 rfl (lv_at hl 0 rfl) ?_
    refine c_get C hw (inC inW4) (kd_lt ha0 (by decide)) (ce4 ha0) rfl 3 (by decide) (wc w_288) (v := .ref (h (a0 + 1))) rfl dX4_valueOf_34 ?_
    refine lv_iload C.1 C.2.1 dX4_valueOf_37 (lv_at hl 4 rfl) ?_
    obtain ⟨hi39, hh⟩ := hh
    refine c_ial C hw (kd_lt (kd4_1 ha0) (by decide)) (ce17 (kd4_1 ha0)) hi39 dX4_valueOf_39 ?_
    refine lv_istore (lv' := [(5, .int (F (a0 + 1) (ix x4))), (0, .ref (h a0)), (1, .int x1), (2, .int x2), (3, .int x3), (4, .int x4)]) C.1 C.2.1 dX4_valueOf_40 hl (by decide) rfl (fun ls hl => ?_)
    refine lv_iload C.1 C.2.1 dX4_valueOf_42 (lv_at hl 0 rfl) ?_
    refine lv_bipush (v := (24 : Int32)) C.1 C.2.1 dX4_valueOf_44 (by decide) ?_
    refine lv_icmp_ge (tgt := 63) C.1 C.2.1 dX4_valueOf_46 (by decide) (fun c46 => ?_) (fun c46 => ?_)
    · replace hh := hh.1 c46
      refine lv_iload C.1 C.2.1 dX4_valueOf_63 (lv_at hl 0 rfl) ?_
      refine lv_bipush (v := (26 : Int32)) C.1 C.2.1 dX4_valueOf_65 (by decide) ?_
      refine lv_icmp_ne (tgt := 77) C.1 C.2.1 dX4_valueOf_67 (by decide) (fun c67 => ?_) (fun c67 => ?_)
      · replace hh := hh.1 c67
        refine lv_iload_n C.1 C.2.1 dX4_valueOf_77 rfl (lv_at hl 4 rfl) ?_
        refine lv_iconst (v := (1 : Int32)) C.1 C.2.1 dX4_valueOf_78 (by decide) ?_
        refine lv_iand C.1 C.2.1 dX4_valueOf_79 ?_
        refine lv_istore (lv' := [(6, .int (x3 &&& (1 : Int32))), (5, .int (F (a0 + 1) (ix x4))), (0, .ref (h a0)), (1, .int x1), (2, .int x2), (3, .int x3), (4, .int x4)]) C.1 C.2.1 dX4_valueOf_80 hl (by decide) rfl (fun ls hl => ?_)
        refine lv_iload_n C.1 C.2.1 dX4_valueOf_82 rfl (lv_at hl 5 rfl) ?_
        refine lv_iconst (v := (1 : Int32)) C.1 C.2.1 dX4_valueOf_83 (by decide) ?_
        refine g_iushr C dX4_valueOf_84 ?_
        refine lv_istore_n (lv' := [(3, .int (jushr x3 (1 : Int32))), (6, .int (x3 &&& (1 : Int32))), (5, .int (F (a0 + 1) (ix x4))), (0, .ref (h a0)), (1, .int x1), (2, .int x2), (4, .int x4)]) C.1 C.2.1 dX4_valueOf_85 rfl hl (by decide) rfl (fun ls hl => ?_)
        refine lv_iload C.1 C.2.1 dX4_valueOf_86 (lv_at hl 2 rfl) ?_
        refine lv_bipush (v := (24 : Int32)) C.1 C.2.1 dX4_valueOf_88 (by decide) ?_
        refine lv_icmp_ne (tgt := 100) C.1 C.2.1 dX4_valueOf_90 (by decide) (fun c90 => ?_) (fun c90 => ?_)
        · replace hh := hh.1 c90
          refine lv_iload_n C.1 C.2.1 dX4_valueOf_100 rfl (lv_at hl 0 rfl) ?_
          refine lv_iload C.1 C.2.1 dX4_valueOf_101 (lv_at hl 1 rfl) ?_
          refine lv_bipush (v := (-2 : Int32)) C.1 C.2.1 dX4_valueOf_103 (by decide) ?_
          refine lv_ior C.1 C.2.1 dX4_valueOf_105 ?_
          refine lv_iand C.1 C.2.1 dX4_valueOf_106 ?_
          exact tX4_valueOf_b107 C hR ha0 hB22 hh hw (lv_sub hl [3, 4, 5, 6] rfl)
        · replace hh := hh.2 c90
          refine lv_iload_n C.1 C.2.1 dX4_valueOf_93 rfl (lv_at hl 0 rfl) ?_
          refine lv_iload C.1 C.2.1 dX4_valueOf_94 (lv_at hl 1 rfl) ?_
          refine lv_ior C.1 C.2.1 dX4_valueOf_96 ?_
          refine lv_goto (tgt := 107) C.1 C.2.1 dX4_valueOf_97 (by decide) ?_
          exact tX4_valueOf_b107 C hR ha0 hB22 hh hw (lv_sub hl [3, 4, 5, 6] rfl)
      · replace hh := hh.2 c67
        refine lv_iload_n C.1 C.2.1 dX4_valueOf_70 rfl (lv_at hl 4 rfl) ?_
        refine lv_iconst (v := (1 : Int32)) C.1 C.2.1 dX4_valueOf_71 (by decide) ?_
        refine lv_ixor C.1 C.2.1 dX4_valueOf_72 ?_
        refine lv_istore_n (lv' := [(3, .int (x3 ^^^ (1 : Int32))), (5, .int (F (a0 + 1) (ix x4))), (0, .ref (h a0)), (1, .int x1), (2, .int x2), (4, .int x4)]) C.1 C.2.1 dX4_valueOf_73 rfl hl (by decide) rfl (fun ls hl => ?_)
        refine lv_goto (tgt := 108) C.1 C.2.1 dX4_valueOf_74 (by decide) ?_
        exact tX4_valueOf_b108 C hR ha0 hB22 hh hw (lv_sub hl [2, 3, 4, 0, 5] rfl)
    · replace hh := hh.2 c46
      refine lv_iload_n C.1 C.2.1 dX4_valueOf_49 rfl (lv_at hl 4 rfl) ?_
      refine lv_iconst (v := (1 : Int32)) C.1 C.2.1 dX4_valueOf_50 (by decide) ?_
      refine g_ishl C dX4_valueOf_51 ?_
      refine lv_iload_n C.1 C.2.1 dX4_valueOf_52 rfl (lv_at hl 3 rfl) ?_
      refine lv_iload C.1 C.2.1 dX4_valueOf_53 (lv_at hl 0 rfl) ?_
      refine g_iushr C dX4_valueOf_55 ?_
      refine lv_iconst (v := (1 : Int32)) C.1 C.2.1 dX4_valueOf_56 (by decide) ?_
      refine lv_iand C.1 C.2.1 dX4_valueOf_57 ?_
      refine lv_ior C.1 C.2.1 dX4_valueOf_58 ?_
      refine lv_topi (fun y59 ey59 => ?_)
      replace hh := hh y59 ey59
      refine lv_istore_n (lv' := [(3, .int y59), (5, .int (F (a0 + 1) (ix x4))), (0, .ref (h a0)), (1, .int x1), (2, .int x2), (4, .int x4)]) C.1 C.2.1 dX4_valueOf_59 rfl hl (by decide) rfl (fun ls hl => ?_)
      refine lv_goto (tgt := 108) C.1 C.2.1 dX4_valueOf_60 (by decide) ?_
      exact tX4_valueOf_b108 C hR ha0 hB22 hh hw (lv_sub hl [2, 3, 4, 0, 5] rfl)
theorem tX4_valueOf_b22 {a0 : Nat} {K : Int32 → cS → Prop} (C : CallFix p m c cX4_valueOf 7 s args wsX4_valueOf RX4) (hR : Rti .int p l e rmX4_valueOf s m args below meth c cX4_valueOf D A (cT cI cL cF cM) (cWu h cI cL cF cM) K Q) (ha0 : kd a0 = 4) (n : Nat) : ∀ (F : Nat → Nat → Int32) (L : Nat → Nat → Int64) (r : Nat → Nat → Nat) (x1 : Int32) (x2 : Int32) (x3 : Int32) (x4 : Int32) (H : Heap) (locs : List Loc) (ls : Array Slot), wpX4_valueOf_b22 a0 n F L r x1 x2 x3 x4 K → Wd D A s (cT cI cL cF cM) (cW h cI cL cF cM F L r) H locs → lv_has ls 7 [(0, .ref (h a0)), (1, .int x1), (2, .int x2), (3, .int x3), (4, .int x4)] → W p l e rmX4_valueOf s m args below meth c H locs 0 0 Q (F0 m 22 ls []) := by
  induction n with
  | zero => intro F L r x1 x2 x3 x4 H locs ls hh; exact hh.elim
  | succ n ih => intro F L r x1 x2 x3 x4 H locs ls hh hw hl; exact tX4_valueOf_b22_body C hR ha0 ih hh hw hl
set_option maxHeartbeats 4000000 in
set_option maxRecDepth 100000 in
theorem tX4_valueOf_b0 {a0 : Nat} {K : Int32 → cS → Prop} (C : CallFix p m c cX4_valueOf 7 s args wsX4_valueOf RX4) (hR : Rti .int p l e rmX4_valueOf s m args below meth c cX4_valueOf D A (cT cI cL cF cM) (cWu h cI cL cF cM) K Q) (ha0 : kd a0 = 4) {F : Nat → Nat → Int32} {L : Nat → Nat → Int64} {r : Nat → Nat → Nat} {x1 : Int32} {x2 : Int32} (hh : wpX4_valueOf_b0 a0 F L r x1 x2 K) {H : Heap} {locs : List Loc} {ls : Array Slot} (hw : Wd D A s (cT cI cL cF cM) (cW h cI cL cF cM F L r) H locs) (hl : lv_has ls 7 [(0, .ref (h a0)), (1, .int x1), (2, .int x2)]) : W p l e rmX4_valueOf s m args below meth c H locs 0 0 Q (F0 m 0 ls []) := by
  unfold wpX4_valueOf_b0 at hh
  refine lv_iload_n C.1 C.2.1 dX4_valueOf_0 rfl (lv_at hl 1 rfl) ?_
  refine lv_if_lt (tgt := 10) C.1 C.2.1 dX4_valueOf_1 (by decide) (fun c1 => ?_) (fun c1 => ?_)
  · replace hh := hh.1 c1
    exact tX4_valueOf_b10 C hR ha0 hh hw (lv_sub hl [0] rfl)
  · replace hh := hh.2 c1
    refine lv_iload_n C.1 C.2.1 dX4_valueOf_4 rfl (lv_at hl 1 rfl) ?_
    refine lv_bipush (v := (24 : Int32)) C.1 C.2.1 dX4_valueOf_5 (by decide) ?_
    refine lv_icmp_lt (tgt := 12) C.1 C.2.1 dX4_valueOf_7 (by decide) (fun c7 => ?_) (fun c7 => ?_)
    · replace hh := hh.1 c7
      refine lv_iconst (v := (0 : Int32)) C.1 C.2.1 dX4_valueOf_12 (by decide) ?_
      refine lv_istore_n (lv' := [(3, .int (0 : Int32)), (0, .ref (h a0)), (1, .int x1), (2, .int x2)]) C.1 C.2.1 dX4_valueOf_13 rfl hl (by decide) rfl (fun ls hl => ?_)
      refine lv_aload_n C.1 C.2.1 dX4_valueOf_14 rfl (lv_at hl 1 rfl) ?_
      refine c_get C hw (inC inW4) (kd_lt ha0 (by decide)) (ce4 ha0) rfl 4 (by decide) (wc w_290) (v := .ref (h (a0 + 2))) rfl dX4_valueOf_15 ?_
      refine lv_iload_n C.1 C.2.1 dX4_valueOf_18 rfl (lv_at hl 2 rfl) ?_
      obtain ⟨hi19, hh⟩ := hh
      refine c_ial C hw (kd_lt (kd4_2 ha0) (by decide)) (ce21 (kd4_2 ha0)) hi19 dX4_valueOf_19 ?_
      refine lv_istore (lv' := [(4, .int (F (a0 + 2) (ix x1))), (3, .int (0 : Int32)), (0, .ref (h a0)), (1, .int x1), (2, .int x2)]) C.1 C.2.1 dX4_valueOf_20 hl (by decide) rfl (fun ls hl => ?_)
      obtain ⟨n, hh⟩ := hh
      exact tX4_valueOf_b22 C hR ha0 n _ _ _ _ _ _ _ _ _ _ hh hw (lv_sub hl [2, 3, 4, 1, 0] rfl)
    · replace hh := hh.2 c7
      exact tX4_valueOf_b10 C hR ha0 hh hw (lv_sub hl [0] rfl)
theorem ctX4_valueOf (l : Launch) (D : va_G) (h : Nat → Nat) (cI cL cF cM : ClassId) (a0 : Nat) (ha0 : kd a0 = 4) (F : Nat → Nat → Int32) (L : Nat → Nat → Int64) (r : Nat → Nat → Nat) (x1 : Int32) (x2 : Int32) {K : Int32 → cS → Prop} (hh : wpX4_valueOf a0 F L r x1 x2 K) : Ci l yX4_valueOf wsX4_valueOf rmX4_valueOf [.ref (h a0), .int x1, .int x2] D (cT cI cL cF cM) (cWu h cI cL cF cM) (F, L, r) K := by
  refine Ci_of (cc := cX4_valueOf) (maxL := 7) (by decide) rfl (Nat.le_of_ble_eq_true rfl) ?_
  intro p e s m below meth c A Q C hw hR ls hl
  exact tX4_valueOf_b0 C hR ha0 hh hw hl
theorem cdX4_valueOf : yX4_valueOf.cls = RX4 ∧ yX4_valueOf.cls ≠ "java/lang/invoke/MethodHandle" ∧ yX4_valueOf.cls ≠ "java/lang/invoke/VarHandle" ∧ (parseMethodDescriptor yX4_valueOf.desc).map (fun d => d.parameters.length) = some 2 := by decide +kernel
end
