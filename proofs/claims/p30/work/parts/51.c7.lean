section
variable {p : Program} {l : Launch} {e : Env} {s : State} {m : MethodId} {args : Array Value} {below : List Frame} {meth : Method} {c : Code} {D : va_G} {A : Nat → Prop} {h : Nat → Nat} {cI cL cF cM : ClassId} {Q : State → Prop}
abbrev rmX2_stand : Room := { frames := 0, cells := 0, slots := 0, locals := 0 }
set_option maxHeartbeats 4000000 in
set_option maxRecDepth 100000 in
theorem tX2_stand_b0 {K : Int32 → cS → Prop} (C : CallFix p m c cX2_stand 1 s args wsX2_stand RX2) (hR : Rti .int p l e rmX2_stand s m args below meth c cX2_stand D A (cT cI cL cF cM) (cWu h cI cL cF cM) K Q) {F : Nat → Nat → Int32} {L : Nat → Nat → Int64} {r : Nat → Nat → Nat} (hh : wpX2_stand_b0 F L r K) {H : Heap} {locs : List Loc} {ls : Array Slot} (hw : Wd D A s (cT cI cL cF cM) (cW h cI cL cF cM F L r) H locs) (hl : lv_has ls 1 [(0, .ref (h 102))]) : W p l e rmX2_stand s m args below meth c H locs 0 0 Q (F0 m 0 ls []) := by
  unfold wpX2_stand_b0 at hh
  refine lv_aload_n C.1 C.2.1 dX2_stand_0 rfl (lv_at hl 0 rfl) ?_
  refine c_get C hw (inC inW2) (kd_lt kp102 (by decide)) (ce2 kp102) rfl 8 (by decide) (wc w_541) (v := .ref (h 92)) rfl dX2_stand_1 ?_
  refine c_get C hw (inC inW3) (kd_lt kp92 (by decide)) (ce3 kp92) rfl 0 (by decide) (wc w_394) (v := .int (F 92 0)) rfl dX2_stand_4 ?_
  refine lv_iconst (v := (4 : Int32)) C.1 C.2.1 dX2_stand_7 (by decide) ?_
  refine lv_imul C.1 C.2.1 dX2_stand_8 ?_
  refine lv_aload_n C.1 C.2.1 dX2_stand_9 rfl (lv_at hl 0 rfl) ?_
  refine c_get C hw (inC inW2) (kd_lt kp102 (by decide)) (ce2 kp102) rfl 8 (by decide) (wc w_541) (v := .ref (h 92)) rfl dX2_stand_10 ?_
  refine c_get C hw (inC inW3) (kd_lt kp92 (by decide)) (ce3 kp92) rfl 1 (by decide) (wc w_398) (v := .int (F 92 1)) rfl dX2_stand_13 ?_
  refine lv_iadd C.1 C.2.1 dX2_stand_16 ?_
  exact hR _ _ _ (F, L, r) _ _ dX2_stand_17 rfl hh hw
theorem ctX2_stand (l : Launch) (D : va_G) (h : Nat → Nat) (cI cL cF cM : ClassId) (F : Nat → Nat → Int32) (L : Nat → Nat → Int64) (r : Nat → Nat → Nat) {K : Int32 → cS → Prop} (hh : wpX2_stand F L r K) : Ci l yX2_stand wsX2_stand rmX2_stand [.ref (h 102)] D (cT cI cL cF cM) (cWu h cI cL cF cM) (F, L, r) K := by
  refine Ci_of (cc := cX2_stand) (maxL := 1) (by decide) rfl (Nat.le_of_ble_eq_true rfl) ?_
  intro p e s m below meth c A Q C hw hR ls hl
  exact tX2_stand_b0 C hR hh hw hl
theorem cdX2_stand : yX2_stand.cls = RX2 ∧ yX2_stand.cls ≠ "java/lang/invoke/MethodHandle" ∧ yX2_stand.cls ≠ "java/lang/invoke/VarHandle" ∧ (parseMethodDescriptor yX2_stand.desc).map (fun d => d.parameters.length) = some 0 := by decide +kernel
abbrev rmX2_recordTrack : Room := { frames := 3, cells := 0, slots := 0, locals := 72 }
set_option maxHeartbeats 4000000 in
set_option maxRecDepth 100000 in
theorem tX2_recordTrack_b71 {K : cS → Prop} (C : CallFix p m c cX2_recordTrack 3 s args wsX2_recordTrack RX2) (hR : Rtv p l e rmX2_recordTrack s m args below meth c cX2_recordTrack D A (cT cI cL cF cM) (cWu h cI cL cF cM) K Q) {F : Nat → Nat → Int32} {L : Nat → Nat → Int64} {r : Nat → Nat → Nat} (hh : wpX2_recordTrack_b71 F L r K) {H : Heap} {locs : List Loc} {ls : Array Slot} (hw : Wd D A s (cT cI cL cF cM) (cW h cI cL cF cM F L r) H locs) (hl : lv_has ls 3 [(0, .ref (h 102))]) : W p l e rmX2_recordTrack s m args below meth c H locs 0 0 Q (F0 m 71 ls []) := by
  unfold wpX2_recordTrack_b71 at hh
  exact hR _ _ (F, L, r) _ _ dX2_recordTrack_71 hh hw
set_option maxHeartbeats 4000000 in
set_option maxRecDepth 100000 in
theorem tX2_recordTrack_b24_body {B24 : (Nat → Nat → Int32) → (Nat → Nat → Int64) → (Nat → Nat → Nat) → Int32 → Int32 → Prop} {K : cS → Prop} (C : CallFix p m c cX2_recordTrack 3 s args wsX2_recordTrack RX2) (hR : Rtv p l e rmX2_recordTrack s m args below meth c cX2_recordTrack D A (cT cI cL cF cM) (cWu h cI cL cF cM) K Q) (hB24 : ∀ (F : Nat → Nat → Int32) (L : Nat → Nat → Int64) (r : Nat → Nat → Nat) (x1 : Int32) (x2 : Int32) (H : Heap) (locs : List Loc) (ls : Array Slot), B24 F L r x1 x2 → Wd D A s (cT cI cL cF cM) (cW h cI cL cF cM F L r) H locs → lv_has ls 3 [(0, .ref (h 102)), (1, .int x1), (2, .int x2)] → W p l e rmX2_recordTrack s m args below meth c H locs 0 0 Q (F0 m 24 ls [])) {F : Nat → Nat → Int32} {L : Nat → Nat → Int64} {r : Nat → Nat → Nat} {x1 : Int32} {x2 : Int32} (hh : wpX2_recordTrack_b24_body B24 F L r x1 x2 K) {H : Heap} {locs : List Loc} {ls : Array Slot} (hw : Wd D A s (cT cI cL cF cM) (cW h cI cL cF cM F L r) H locs) (hl : lv_has ls 3 [(0, .ref (h 102)), (1, .int x1), (2, .int x2)]) : W p l e rmX2_recordTrack s m args below meth c H locs 0 0 Q (F0 m 24 ls []) := by
  unfold wpX2_recordTrack_b24_body at hh
  refine lv_iload_n C.1 C.2.1 dX2_recordTrack_24 rfl (lv_at hl 2 rfl) ?_
  refine lv_iload_n C.1 C.2.1 dX2_recordTrack_25 rfl (lv_at hl 1 rfl) ?_
  refine lv_icmp_ge (tgt := 71) C.1 C.2.1 dX2_recordTrack_26 (by decide) (fun c26 => ?_) (fun c26 => ?_)
  · replace hh := hh.1 c26
    exact tX2_recordTrack_b71 C hR hh hw (lv_sub hl [0] rfl)
  · replace hh := hh.2 c26
    refine lv_iload_n C.1 C.2.1 dX2_recordTrack_29 rfl (lv_at hl 2 rfl) ?_
    refine lv_sipush (v := (500 : Int32)) C.1 C.2.1 dX2_recordTrack_30 (by decide) ?_
    refine lv_icmp_ge (tgt := 71) C.1 C.2.1 dX2_recordTrack_33 (by decide) (fun c33 => ?_) (fun c33 => ?_)
    · replace hh := hh.1 c33
      exact tX2_recordTrack_b71 C hR hh hw (lv_sub hl [0] rfl)
    · replace hh := hh.2 c33
      refine lv_aload_n C.1 C.2.1 dX2_recordTrack_36 rfl (lv_at hl 0 rfl) ?_
      refine c_get C hw (inC inW2) (kd_lt kp102 (by decide)) (ce2 kp102) rfl 10 (by decide) (wc w_543) (v := .ref (h 45)) rfl dX2_recordTrack_37 ?_
      refine lv_aload_n C.1 C.2.1 dX2_recordTrack_40 rfl (lv_at hl 0 rfl) ?_
      refine c_get C hw (inC inW2) (kd_lt kp102 (by decide)) (ce2 kp102) rfl 4 (by decide) (wc w_537) (v := .ref (h (r 102 4))) rfl dX2_recordTrack_41 ?_
      refine lv_aload_n C.1 C.2.1 dX2_recordTrack_44 rfl (lv_at hl 0 rfl) ?_
      refine c_get C hw (inC inW2) (kd_lt kp102 (by decide)) (ce2 kp102) rfl 8 (by decide) (wc w_541) (v := .ref (h 92)) rfl dX2_recordTrack_45 ?_
      refine lv_aload_n C.1 C.2.1 dX2_recordTrack_48 rfl (lv_at hl 0 rfl) ?_
      refine c_get C hw (inC inW2) (kd_lt kp102 (by decide)) (ce2 kp102) rfl 7 (by decide) (wc w_540) (v := .ref (h 70)) rfl dX2_recordTrack_49 ?_
      obtain ⟨hk0, hh⟩ := hh
      refine c_Vv C hw (ctX0_step l D h cI cL cF cM 45 (r 102 4) 92 70 kp45 hk0 kp92 kp70 F L r hh) (cwV 3 C.2.2.2.2 (gd_V w_1263 w_1164 w_1165 w_122 w_1166) rfl rfl rfl cdX0_step ⟨Nat.le_of_ble_eq_true rfl, Nat.le_of_ble_eq_true rfl⟩) rfl (kd_lt kp45 (by decide)) (ce0 kp45) rfl hl.1 (Nat.le_of_ble_eq_true rfl) dX2_recordTrack_52 ⟨Nat.zero_le _, Nat.zero_le _⟩ (fun u52 H locs hh hw => ?_) rfl
      refine lv_aload_n C.1 C.2.1 dX2_recordTrack_55 rfl (lv_at hl 0 rfl) ?_
      refine c_get C hw (inC inW2) (kd_lt kp102 (by decide)) (ce2 kp102) rfl 11 (by decide) (wc w_544) (v := .ref (h 103)) rfl dX2_recordTrack_56 ?_
      refine lv_iload_n C.1 C.2.1 dX2_recordTrack_59 rfl (lv_at hl 2 rfl) ?_
      refine lv_aload_n C.1 C.2.1 dX2_recordTrack_60 rfl (lv_at hl 0 rfl) ?_
      refine c_Vi C hw (ctX2_stand l D h cI cL cF cM u52.1 u52.2.1 u52.2.2 hh) (cwV 0 C.2.2.2.2 (gd_V w_1281 w_1283 w_48 w_124 w_1284) rfl rfl rfl cdX2_stand ⟨Nat.le_of_ble_eq_true rfl, Nat.le_of_ble_eq_true rfl⟩) rfl (kd_lt kp102 (by decide)) (ce2 kp102) rfl hl.1 (Nat.le_of_ble_eq_true rfl) dX2_recordTrack_61 ⟨Nat.zero_le _, Nat.zero_le _⟩ (fun r61 u61 H locs hh hw => ?_) rfl
      obtain ⟨hi64, hh⟩ := hh
      refine c_ias C hw (kd_lt kp103 (by decide)) (ce13 kp103) hi64 dX2_recordTrack_64 (fun H locs hw => ?_)
      refine lv_iinc (v := x2 + (1 : Int32)) (lv' := [(2, .int (x2 + (1 : Int32))), (0, .ref (h 102)), (1, .int x1)]) C.1 C.2.1 dX2_recordTrack_65 hl (k := 2) rfl rfl (by decide) rfl (fun ls hl => ?_)
      refine lv_goto (tgt := 24) C.1 C.2.1 dX2_recordTrack_68 (by decide) ?_
      exact hB24 _ _ _ _ _ _ _ _ hh hw (lv_sub hl [1, 2, 0] rfl)
theorem tX2_recordTrack_b24 {K : cS → Prop} (C : CallFix p m c cX2_recordTrack 3 s args wsX2_recordTrack RX2) (hR : Rtv p l e rmX2_recordTrack s m args below meth c cX2_recordTrack D A (cT cI cL cF cM) (cWu h cI cL cF cM) K Q) (n : Nat) : ∀ (F : Nat → Nat → Int32) (L : Nat → Nat → Int64) (r : Nat → Nat → Nat) (x1 : Int32) (x2 : Int32) (H : Heap) (locs : List Loc) (ls : Array Slot), wpX2_recordTrack_b24 n F L r x1 x2 K → Wd D A s (cT cI cL cF cM) (cW h cI cL cF cM F L r) H locs → lv_has ls 3 [(0, .ref (h 102)), (1, .int x1), (2, .int x2)] → W p l e rmX2_recordTrack s m args below meth c H locs 0 0 Q (F0 m 24 ls []) := by
  induction n with
  | zero => intro F L r x1 x2 H locs ls hh; exact hh.elim
  | succ n ih => intro F L r x1 x2 H locs ls hh hw hl; exact tX2_recordTrack_b24_body C hR ih hh hw hl
set_option maxHeartbeats 4000000 in
set_option maxRecDepth 100000 in
theorem tX2_recordTrack_b0 {K : cS → Prop} (C : CallFix p m c cX2_recordTrack 3 s args wsX2_recordTrack RX2) (hR : Rtv p l e rmX2_recordTrack s m args below meth c cX2_recordTrack D A (cT cI cL cF cM) (cWu h cI cL cF cM) K Q) {F : Nat → Nat → Int32} {L : Nat → Nat → Int64} {r : Nat → Nat → Nat} {x1 : Int32} (hh : wpX2_recordTrack_b0 F L r x1 K) {H : Heap} {locs : List Loc} {ls : Array Slot} (hw : Wd D A s (cT cI cL cF cM) (cW h cI cL cF cM F L r) H locs) (hl : lv_has ls 3 [(0, .ref (h 102)), (1, .int x1)]) : W p l e rmX2_recordTrack s m args below meth c H locs 0 0 Q (F0 m 0 ls []) := by
  unfold wpX2_recordTrack_b0 at hh
  refine lv_aload_n C.1 C.2.1 dX2_recordTrack_0 rfl (lv_at hl 0 rfl) ?_
  refine c_get C hw (inC inW2) (kd_lt kp102 (by decide)) (ce2 kp102) rfl 8 (by decide) (wc w_541) (v := .ref (h 92)) rfl dX2_recordTrack_1 ?_
  refine lv_aload_n C.1 C.2.1 dX2_recordTrack_4 rfl (lv_at hl 0 rfl) ?_
  refine c_get C hw (inC inW2) (kd_lt kp102 (by decide)) (ce2 kp102) rfl 5 (by decide) (wc w_538) (v := .ref (h 90)) rfl dX2_recordTrack_5 ?_
  refine c_Vv C hw (ctX3_copyFrom l D h cI cL cF cM 92 90 kp92 kp90 F L r hh) (cwV 1 C.2.2.2.2 (gd_V w_1242 w_1243 w_1244 w_121 w_1245) rfl rfl rfl cdX3_copyFrom ⟨Nat.le_of_ble_eq_true rfl, Nat.le_of_ble_eq_true rfl⟩) rfl (kd_lt kp92 (by decide)) (ce3 kp92) rfl hl.1 (Nat.le_of_ble_eq_true rfl) dX2_recordTrack_8 ⟨Nat.zero_le _, Nat.zero_le _⟩ (fun u8 H locs hh hw => ?_) rfl
  refine lv_aload_n C.1 C.2.1 dX2_recordTrack_11 rfl (lv_at hl 0 rfl) ?_
  refine c_get C hw (inC inW2) (kd_lt kp102 (by decide)) (ce2 kp102) rfl 10 (by decide) (wc w_543) (v := .ref (h 45)) rfl dX2_recordTrack_12 ?_
  refine lv_aload_n C.1 C.2.1 dX2_recordTrack_15 rfl (lv_at hl 0 rfl) ?_
  refine c_get C hw (inC inW2) (kd_lt kp102 (by decide)) (ce2 kp102) rfl 6 (by decide) (wc w_539) (v := .ref (h 44)) rfl dX2_recordTrack_16 ?_
  refine c_Vv C hw (ctX0_jamLike l D h cI cL cF cM 45 44 kp45 kp44 u8.1 u8.2.1 u8.2.2 hh) (cwV 1 C.2.2.2.2 (gd_V w_1250 w_1251 w_1252 w_122 w_1253) rfl rfl rfl cdX0_jamLike ⟨Nat.le_of_ble_eq_true rfl, Nat.le_of_ble_eq_true rfl⟩) rfl (kd_lt kp45 (by decide)) (ce0 kp45) rfl hl.1 (Nat.le_of_ble_eq_true rfl) dX2_recordTrack_19 ⟨Nat.zero_le _, Nat.zero_le _⟩ (fun u19 H locs hh hw => ?_) rfl
  refine lv_iconst (v := (0 : Int32)) C.1 C.2.1 dX2_recordTrack_22 (by decide) ?_
  refine lv_istore_n (lv' := [(2, .int (0 : Int32)), (0, .ref (h 102)), (1, .int x1)]) C.1 C.2.1 dX2_recordTrack_23 rfl hl (by decide) rfl (fun ls hl => ?_)
  obtain ⟨n, hh⟩ := hh
  exact tX2_recordTrack_b24 C hR n _ _ _ _ _ _ _ _ hh hw (lv_sub hl [1, 2, 0] rfl)
theorem ctX2_recordTrack (l : Launch) (D : va_G) (h : Nat → Nat) (cI cL cF cM : ClassId) (F : Nat → Nat → Int32) (L : Nat → Nat → Int64) (r : Nat → Nat → Nat) (x1 : Int32) {K : cS → Prop} (hh : wpX2_recordTrack F L r x1 K) : Cv l yX2_recordTrack wsX2_recordTrack rmX2_recordTrack [.ref (h 102), .int x1] D (cT cI cL cF cM) (cWu h cI cL cF cM) (F, L, r) K := by
  refine Cv_of (cc := cX2_recordTrack) (maxL := 3) (by decide) rfl (Nat.le_of_ble_eq_true rfl) ?_
  intro p e s m below meth c A Q C hw hR ls hl
  exact tX2_recordTrack_b0 C hR hh hw hl
theorem cdX2_recordTrack : yX2_recordTrack.cls = RX2 ∧ yX2_recordTrack.cls ≠ "java/lang/invoke/MethodHandle" ∧ yX2_recordTrack.cls ≠ "java/lang/invoke/VarHandle" ∧ (parseMethodDescriptor yX2_recordTrack.desc).map (fun d => d.parameters.length) = some 1 := by decide +kernel
abbrev rmX2_keepsTrack : Room := { frames := 3, cells := 0, slots := 0, locals := 72 }
set_option maxHeartbeats 4000000 in
set_option maxRecDepth 100000 in
theorem tX2_keepsTrack_b78 {K : Int32 → cS → Prop} (C : CallFix p m c cX2_keepsTrack 5 s args wsX2_keepsTrack RX2) (hR : Rti .boolean p l e rmX2_keepsTrack s m args below meth c cX2_keepsTrack D A (cT cI cL cF cM) (cWu h cI cL cF cM) K Q) {F : Nat → Nat → Int32} {L : Nat → Nat → Int64} {r : Nat → Nat → Nat} (hh : wpX2_keepsTrack_b78 F L r K) {H : Heap} {locs : List Loc} {ls : Array Slot} (hw : Wd D A s (cT cI cL cF cM) (cW h cI cL cF cM F L r) H locs) (hl : lv_has ls 5 [(0, .ref (h 102))]) : W p l e rmX2_keepsTrack s m args below meth c H locs 0 0 Q (F0 m 78 ls []) := by
  unfold wpX2_keepsTrack_b78 at hh
  refine lv_iconst (v := (1 : Int32)) C.1 C.2.1 dX2_keepsTrack_78 (by decide) ?_
  exact hR _ _ _ (F, L, r) _ _ dX2_keepsTrack_79 rfl hh hw
set_option maxHeartbeats 4000000 in
set_option maxRecDepth 100000 in
theorem tX2_keepsTrack_b23_body {B23 : (Nat → Nat → Int32) → (Nat → Nat → Int64) → (Nat → Nat → Nat) → Int32 → Int32 → Prop} {K : Int32 → cS → Prop} (C : CallFix p m c cX2_keepsTrack 5 s args wsX2_keepsTrack RX2) (hR : Rti .boolean p l e rmX2_keepsTrack s m args below meth c cX2_keepsTrack D A (cT cI cL cF cM) (cWu h cI cL cF cM) K Q) (hB23 : ∀ (F : Nat → Nat → Int32) (L : Nat → Nat → Int64) (r : Nat → Nat → Nat) (x3 : Int32) (x4 : Int32) (H : Heap) (locs : List Loc) (ls : Array Slot), B23 F L r x3 x4 → Wd D A s (cT cI cL cF cM) (cW h cI cL cF cM F L r) H locs → lv_has ls 5 [(0, .ref (h 102)), (3, .int x3), (4, .int x4)] → W p l e rmX2_keepsTrack s m args below meth c H locs 0 0 Q (F0 m 23 ls [])) {F : Nat → Nat → Int32} {L : Nat → Nat → Int64} {r : Nat → Nat → Nat} {x3 : Int32} {x4 : Int32} (hh : wpX2_keepsTrack_b23_body B23 F L r x3 x4 K) {H : Heap} {locs : List Loc} {ls : Array Slot} (hw : Wd D A s (cT cI cL cF cM) (cW h cI cL cF cM F L r) H locs) (hl : lv_has ls 5 [(0, .ref (h 102)), (3, .int x3), (4, .int x4)]) : W p l e rmX2_keepsTrack s m args below meth c H locs 0 0 Q (F0 m 23 ls []) := by
  unfold wpX2_keepsTrack_b23_body at hh
  refine lv_iload C.1 C.2.1 dX2_keepsTrack_23 (lv_at hl 2 rfl) ?_
  refine lv_iload_n C.1 C.2.1 dX2_keepsTrack_25 rfl (lv_at hl 1 rfl) ?_
  refine lv_icmp_ge (tgt := 78) C.1 C.2.1 dX2_keepsTrack_26 (by decide) (fun c26 => ?_) (fun c26 => ?_)
  · replace hh := hh.1 c26
    exact tX2_keepsTrack_b78 C hR hh hw (lv_sub hl [0] rfl)
  · replace hh := hh.2 c26
    refine lv_iload C.1 C.2.1 dX2_keepsTrack_29 (lv_at hl 2 rfl) ?_
    refine lv_sipush (v := (500 : Int32)) C.1 C.2.1 dX2_keepsTrack_31 (by decide) ?_
    refine lv_icmp_ge (tgt := 78) C.1 C.2.1 dX2_keepsTrack_34 (by decide) (fun c34 => ?_) (fun c34 => ?_)
    · replace hh := hh.1 c34
      exact tX2_keepsTrack_b78 C hR hh hw (lv_sub hl [0] rfl)
    · replace hh := hh.2 c34
      refine lv_aload_n C.1 C.2.1 dX2_keepsTrack_37 rfl (lv_at hl 0 rfl) ?_
      refine c_get C hw (inC inW2) (kd_lt kp102 (by decide)) (ce2 kp102) rfl 10 (by decide) (wc w_543) (v := .ref (h 45)) rfl dX2_keepsTrack_38 ?_
      refine lv_aload_n C.1 C.2.1 dX2_keepsTrack_41 rfl (lv_at hl 0 rfl) ?_
      refine c_get C hw (inC inW2) (kd_lt kp102 (by decide)) (ce2 kp102) rfl 4 (by decide) (wc w_537) (v := .ref (h (r 102 4))) rfl dX2_keepsTrack_42 ?_
      refine lv_aload_n C.1 C.2.1 dX2_keepsTrack_45 rfl (lv_at hl 0 rfl) ?_
      refine c_get C hw (inC inW2) (kd_lt kp102 (by decide)) (ce2 kp102) rfl 8 (by decide) (wc w_541) (v := .ref (h 92)) rfl dX2_keepsTrack_46 ?_
      refine lv_aload_n C.1 C.2.1 dX2_keepsTrack_49 rfl (lv_at hl 0 rfl) ?_
      refine c_get C hw (inC inW2) (kd_lt kp102 (by decide)) (ce2 kp102) rfl 7 (by decide) (wc w_540) (v := .ref (h 70)) rfl dX2_keepsTrack_50 ?_
      obtain ⟨hk0, hh⟩ := hh
      refine c_Vv C hw (ctX0_step l D h cI cL cF cM 45 (r 102 4) 92 70 kp45 hk0 kp92 kp70 F L r hh) (cwV 3 C.2.2.2.2 (gd_V w_1263 w_1164 w_1165 w_122 w_1166) rfl rfl rfl cdX0_step ⟨Nat.le_of_ble_eq_true rfl, Nat.le_of_ble_eq_true rfl⟩) rfl (kd_lt kp45 (by decide)) (ce0 kp45) rfl hl.1 (Nat.le_of_ble_eq_true rfl) dX2_keepsTrack_53 ⟨Nat.zero_le _, Nat.zero_le _⟩ (fun u53 H locs hh hw => ?_) rfl
      refine lv_aload_n C.1 C.2.1 dX2_keepsTrack_56 rfl (lv_at hl 0 rfl) ?_
      refine c_get C hw (inC inW2) (kd_lt kp102 (by decide)) (ce2 kp102) rfl 11 (by decide) (wc w_544) (v := .ref (h 103)) rfl dX2_keepsTrack_57 ?_
      refine lv_iload C.1 C.2.1 dX2_keepsTrack_60 (lv_at hl 2 rfl) ?_
      obtain ⟨hi62, hh⟩ := hh
      refine c_ial C hw (kd_lt kp103 (by decide)) (ce13 kp103) hi62 dX2_keepsTrack_62 ?_
      refine lv_aload_n C.1 C.2.1 dX2_keepsTrack_63 rfl (lv_at hl 0 rfl) ?_
      refine c_Vi C hw (ctX2_stand l D h cI cL cF cM u53.1 u53.2.1 u53.2.2 hh) (cwV 0 C.2.2.2.2 (gd_V w_1281 w_1283 w_48 w_124 w_1284) rfl rfl rfl cdX2_stand ⟨Nat.le_of_ble_eq_true rfl, Nat.le_of_ble_eq_true rfl⟩) rfl (kd_lt kp102 (by decide)) (ce2 kp102) rfl hl.1 (Nat.le_of_ble_eq_true rfl) dX2_keepsTrack_64 ⟨Nat.zero_le _, Nat.zero_le _⟩ (fun r64 u64 H locs hh hw => ?_) rfl
      refine lv_icmp_eq (tgt := 72) C.1 C.2.1 dX2_keepsTrack_67 (by decide) (fun c67 => ?_) (fun c67 => ?_)
      · replace hh := hh.1 c67
        refine lv_iinc (v := x4 + (1 : Int32)) (lv' := [(4, .int (x4 + (1 : Int32))), (0, .ref (h 102)), (3, .int x3)]) C.1 C.2.1 dX2_keepsTrack_72 hl (k := 2) rfl rfl (by decide) rfl (fun ls hl => ?_)
        refine lv_goto (tgt := 23) C.1 C.2.1 dX2_keepsTrack_75 (by decide) ?_
        exact hB23 _ _ _ _ _ _ _ _ hh hw (lv_sub hl [1, 2, 0] rfl)
      · replace hh := hh.2 c67
        refine lv_iconst (v := (0 : Int32)) C.1 C.2.1 dX2_keepsTrack_70 (by decide) ?_
        exact hR _ _ _ (u64.1, u64.2.1, u64.2.2) _ _ dX2_keepsTrack_71 rfl hh hw
theorem tX2_keepsTrack_b23 {K : Int32 → cS → Prop} (C : CallFix p m c cX2_keepsTrack 5 s args wsX2_keepsTrack RX2) (hR : Rti .boolean p l e rmX2_keepsTrack s m args below meth c cX2_keepsTrack D A (cT cI cL cF cM) (cWu h cI cL cF cM) K Q) (n : Nat) : ∀ (F : Nat → Nat → Int32) (L : Nat → Nat → Int64) (r : Nat → Nat → Nat) (x3 : Int32) (x4 : Int32) (H : Heap) (locs : List Loc) (ls : Array Slot), wpX2_keepsTrack_b23 n F L r x3 x4 K → Wd D A s (cT cI cL cF cM) (cW h cI cL cF cM F L r) H locs → lv_has ls 5 [(0, .ref (h 102)), (3, .int x3), (4, .int x4)] → W p l e rmX2_keepsTrack s m args below meth c H locs 0 0 Q (F0 m 23 ls []) := by
  induction n with
  | zero => intro F L r x3 x4 H locs ls hh; exact hh.elim
  | succ n ih => intro F L r x3 x4 H locs ls hh hw hl; exact tX2_keepsTrack_b23_body C hR ih hh hw hl
set_option maxHeartbeats 4000000 in
set_option maxRecDepth 100000 in
theorem tX2_keepsTrack_b0 {K : Int32 → cS → Prop} (C : CallFix p m c cX2_keepsTrack 5 s args wsX2_keepsTrack RX2) (hR : Rti .boolean p l e rmX2_keepsTrack s m args below meth c cX2_keepsTrack D A (cT cI cL cF cM) (cWu h cI cL cF cM) K Q) {F : Nat → Nat → Int32} {L : Nat → Nat → Int64} {r : Nat → Nat → Nat} {x1 : Int32} {x2 : Int32} {x3 : Int32} (hh : wpX2_keepsTrack_b0 F L r x1 x2 x3 K) {H : Heap} {locs : List Loc} {ls : Array Slot} (hw : Wd D A s (cT cI cL cF cM) (cW h cI cL cF cM F L r) H locs) (hl : lv_has ls 5 [(0, .ref (h 102)), (1, .int x1), (2, .int x2), (3, .int x3)]) : W p l e rmX2_keepsTrack s m args below meth c H locs 0 0 Q (F0 m 0 ls []) := by
  unfold wpX2_keepsTrack_b0 at hh
  refine lv_aload_n C.1 C.2.1 dX2_keepsTrack_0 rfl (lv_at hl 0 rfl) ?_
  refine c_get C hw (inC inW2) (kd_lt kp102 (by decide)) (ce2 kp102) rfl 8 (by decide) (wc w_541) (v := .ref (h 92)) rfl dX2_keepsTrack_1 ?_
  refine lv_aload_n C.1 C.2.1 dX2_keepsTrack_4 rfl (lv_at hl 0 rfl) ?_
  refine c_get C hw (inC inW2) (kd_lt kp102 (by decide)) (ce2 kp102) rfl 5 (by decide) (wc w_538) (v := .ref (h 90)) rfl dX2_keepsTrack_5 ?_
  refine c_Vv C hw (ctX3_copyFrom l D h cI cL cF cM 92 90 kp92 kp90 F L r hh) (cwV 1 C.2.2.2.2 (gd_V w_1242 w_1243 w_1244 w_121 w_1245) rfl rfl rfl cdX3_copyFrom ⟨Nat.le_of_ble_eq_true rfl, Nat.le_of_ble_eq_true rfl⟩) rfl (kd_lt kp92 (by decide)) (ce3 kp92) rfl hl.1 (Nat.le_of_ble_eq_true rfl) dX2_keepsTrack_8 ⟨Nat.zero_le _, Nat.zero_le _⟩ (fun u8 H locs hh hw => ?_) rfl
  refine lv_aload_n C.1 C.2.1 dX2_keepsTrack_11 rfl (lv_at hl 0 rfl) ?_
  refine c_get C hw (inC inW2) (kd_lt kp102 (by decide)) (ce2 kp102) rfl 10 (by decide) (wc w_543) (v := .ref (h 45)) rfl dX2_keepsTrack_12 ?_
  refine lv_iload_n C.1 C.2.1 dX2_keepsTrack_15 rfl (lv_at hl 1 rfl) ?_
  refine lv_iload_n C.1 C.2.1 dX2_keepsTrack_16 rfl (lv_at hl 2 rfl) ?_
  refine c_Vv C hw (ctX0_jamAll l D h cI cL cF cM 45 kp45 u8.1 u8.2.1 u8.2.2 x1 x2 hh) (cwV 2 C.2.2.2.2 (gd_V w_1289 w_1255 w_1256 w_122 w_1257) rfl rfl rfl cdX0_jamAll ⟨Nat.le_of_ble_eq_true rfl, Nat.le_of_ble_eq_true rfl⟩) rfl (kd_lt kp45 (by decide)) (ce0 kp45) rfl hl.1 (Nat.le_of_ble_eq_true rfl) dX2_keepsTrack_17 ⟨Nat.zero_le _, Nat.zero_le _⟩ (fun u17 H locs hh hw => ?_) rfl
  refine lv_iconst (v := (0 : Int32)) C.1 C.2.1 dX2_keepsTrack_20 (by decide) ?_
  refine lv_istore (lv' := [(4, .int (0 : Int32)), (0, .ref (h 102)), (1, .int x1), (2, .int x2), (3, .int x3)]) C.1 C.2.1 dX2_keepsTrack_21 hl (by decide) rfl (fun ls hl => ?_)
  obtain ⟨n, hh⟩ := hh
  exact tX2_keepsTrack_b23 C hR n _ _ _ _ _ _ _ _ hh hw (lv_sub hl [1, 4, 0] rfl)
theorem ctX2_keepsTrack (l : Launch) (D : va_G) (h : Nat → Nat) (cI cL cF cM : ClassId) (F : Nat → Nat → Int32) (L : Nat → Nat → Int64) (r : Nat → Nat → Nat) (x1 : Int32) (x2 : Int32) (x3 : Int32) {K : Int32 → cS → Prop} (hh : wpX2_keepsTrack F L r x1 x2 x3 K) : Ci l yX2_keepsTrack wsX2_keepsTrack rmX2_keepsTrack [.ref (h 102), .int x1, .int x2, .int x3] D (cT cI cL cF cM) (cWu h cI cL cF cM) (F, L, r) K := by
  refine Ci_of (cc := cX2_keepsTrack) (maxL := 5) (by decide) rfl (Nat.le_of_ble_eq_true rfl) ?_
  intro p e s m below meth c A Q C hw hR ls hl
  exact tX2_keepsTrack_b0 C hR hh hw hl
theorem cdX2_keepsTrack : yX2_keepsTrack.cls = RX2 ∧ yX2_keepsTrack.cls ≠ "java/lang/invoke/MethodHandle" ∧ yX2_keepsTrack.cls ≠ "java/lang/invoke/VarHandle" ∧ (parseMethodDescriptor yX2_keepsTrack.desc).map (fun d => d.parameters.length) = some 3 := by decide +kernel
abbrev rmX2_findSuspects : Room := { frames := 4, cells := 0, slots := 0, locals := 96 }
set_option maxHeartbeats 4000000 in
set_option maxRecDepth 100000 in
theorem tX2_findSuspects_b83 {B28 : (Nat → Nat → Int32) → (Nat → Nat → Int64) → (Nat → Nat → Nat) → Int32 → Int32 → Prop} {K : cS → Prop} (C : CallFix p m c cX2_findSuspects 4 s args wsX2_findSuspects RX2) (hR : Rtv p l e rmX2_findSuspects s m args below meth c cX2_findSuspects D A (cT cI cL cF cM) (cWu h cI cL cF cM) K Q) (hB28 : ∀ (F : Nat → Nat → Int32) (L : Nat → Nat → Int64) (r : Nat → Nat → Nat) (x1 : Int32) (x2 : Int32) (H : Heap) (locs : List Loc) (ls : Array Slot), B28 F L r x1 x2 → Wd D A s (cT cI cL cF cM) (cW h cI cL cF cM F L r) H locs → lv_has ls 4 [(0, .ref (h 102)), (1, .int x1), (2, .int x2)] → W p l e rmX2_findSuspects s m args below meth c H locs 0 0 Q (F0 m 28 ls [])) {F : Nat → Nat → Int32} {L : Nat → Nat → Int64} {r : Nat → Nat → Nat} {x1 : Int32} {x2 : Int32} (hh : wpX2_findSuspects_b83 B28 F L r x1 x2 K) {H : Heap} {locs : List Loc} {ls : Array Slot} (hw : Wd D A s (cT cI cL cF cM) (cW h cI cL cF cM F L r) H locs) (hl : lv_has ls 4 [(0, .ref (h 102)), (1, .int x1), (2, .int x2)]) : W p l e rmX2_findSuspects s m args below meth c H locs 0 0 Q (F0 m 83 ls []) := by
  unfold wpX2_findSuspects_b83 at hh
  refine lv_iinc (v := x2 + (1 : Int32)) (lv' := [(2, .int (x2 + (1 : Int32))), (0, .ref (h 102)), (1, .int x1)]) C.1 C.2.1 dX2_findSuspects_83 hl (k := 2) rfl rfl (by decide) rfl (fun ls hl => ?_)
  refine lv_goto (tgt := 28) C.1 C.2.1 dX2_findSuspects_86 (by decide) ?_
  exact hB28 _ _ _ _ _ _ _ _ hh hw (lv_sub hl [1, 2, 0] rfl)
set_option maxHeartbeats 4000000 in
set_option maxRecDepth 100000 in
theorem tX2_findSuspects_b63 {B28 : (Nat → Nat → Int32) → (Nat → Nat → Int64) → (Nat → Nat → Nat) → Int32 → Int32 → Prop} {K : cS → Prop} (C : CallFix p m c cX2_findSuspects 4 s args wsX2_findSuspects RX2) (hR : Rtv p l e rmX2_findSuspects s m args below meth c cX2_findSuspects D A (cT cI cL cF cM) (cWu h cI cL cF cM) K Q) (hB28 : ∀ (F : Nat → Nat → Int32) (L : Nat → Nat → Int64) (r : Nat → Nat → Nat) (x1 : Int32) (x2 : Int32) (H : Heap) (locs : List Loc) (ls : Array Slot), B28 F L r x1 x2 → Wd D A s (cT cI cL cF cM) (cW h cI cL cF cM F L r) H locs → lv_has ls 4 [(0, .ref (h 102)), (1, .int x1), (2, .int x2)] → W p l e rmX2_findSuspects s m args below meth c H locs 0 0 Q (F0 m 28 ls [])) {F : Nat → Nat → Int32} {L : Nat → Nat → Int64} {r : Nat → Nat → Nat} {x1 : Int32} {x2 : Int32} {x3 : Int32} (hh : wpX2_findSuspects_b63 B28 F L r x1 x2 x3 K) {H : Heap} {locs : List Loc} {ls : Array Slot} (hw : Wd D A s (cT cI cL cF cM) (cW h cI cL cF cM F L r) H locs) (hl : lv_has ls 4 [(0, .ref (h 102)), (1, .int x1), (2, .int x2), (3, .int x3)]) : W p l e rmX2_findSuspects s m args below meth c H locs 0 0 Q (F0 m 63 ls []) := by
  unfold wpX2_findSuspects_b63 at hh
  refine lv_aload_n C.1 C.2.1 dX2_findSuspects_63 rfl (lv_at hl 0 rfl) ?_
  refine lv_iload_n C.1 C.2.1 dX2_findSuspects_64 rfl (lv_at hl 3 rfl) ?_
  refine lv_iload_n C.1 C.2.1 dX2_findSuspects_65 rfl (lv_at hl 3 rfl) ?_
  refine lv_iload_n C.1 C.2.1 dX2_findSuspects_66 rfl (lv_at hl 1 rfl) ?_
  refine c_Vi C hw (ctX2_keepsTrack l D h cI cL cF cM F L r x3 x3 x1 hh) (cwV 3 C.2.2.2.2 (gd_V w_1285 w_1287 w_49 w_124 w_1288) rfl rfl rfl cdX2_keepsTrack ⟨Nat.le_of_ble_eq_true rfl, Nat.le_of_ble_eq_true rfl⟩) rfl (kd_lt kp102 (by decide)) (ce2 kp102) rfl hl.1 (Nat.le_of_ble_eq_true rfl) dX2_findSuspects_67 ⟨Nat.zero_le _, Nat.zero_le _⟩ (fun r67 u67 H locs hh hw => ?_) rfl
  refine lv_if_eq (tgt := 83) C.1 C.2.1 dX2_findSuspects_70 (by decide) (fun c70 => ?_) (fun c70 => ?_)
  · replace hh := hh.1 c70
    exact tX2_findSuspects_b83 C hR hB28 hh hw (lv_sub hl [0, 1, 2] rfl)
  · replace hh := hh.2 c70
    refine lv_aload_n C.1 C.2.1 dX2_findSuspects_73 rfl (lv_at hl 0 rfl) ?_
    refine lv_dup C.1 C.2.1 dX2_findSuspects_74 rfl ?_
    refine c_get C hw (inC inW2) (kd_lt kp102 (by decide)) (ce2 kp102) rfl 1 (by decide) (wc w_531) (v := .int (u67.1 102 1)) rfl dX2_findSuspects_75 ?_
    refine lv_iload_n C.1 C.2.1 dX2_findSuspects_78 rfl (lv_at hl 3 rfl) ?_
    refine lv_ior C.1 C.2.1 dX2_findSuspects_79 ?_
    refine c_puti C hw (inC inW2) tyX2 tyX2_ok nmX2 (kd_lt kp102 (by decide)) (ce2 kp102) rfl 1 (by decide) (wc w_531) rfl (ty := .int) (by decide +kernel) rfl rfl (Nat.le_of_ble_eq_true rfl) rfl dX2_findSuspects_80 (fun H locs hw => ?_)
    exact tX2_findSuspects_b83 C hR hB28 hh hw (lv_sub hl [0, 1, 2] rfl)
set_option maxHeartbeats 4000000 in
set_option maxRecDepth 100000 in
theorem tX2_findSuspects_b28_body {B28 : (Nat → Nat → Int32) → (Nat → Nat → Int64) → (Nat → Nat → Nat) → Int32 → Int32 → Prop} {K : cS → Prop} (C : CallFix p m c cX2_findSuspects 4 s args wsX2_findSuspects RX2) (hR : Rtv p l e rmX2_findSuspects s m args below meth c cX2_findSuspects D A (cT cI cL cF cM) (cWu h cI cL cF cM) K Q) (hB28 : ∀ (F : Nat → Nat → Int32) (L : Nat → Nat → Int64) (r : Nat → Nat → Nat) (x1 : Int32) (x2 : Int32) (H : Heap) (locs : List Loc) (ls : Array Slot), B28 F L r x1 x2 → Wd D A s (cT cI cL cF cM) (cW h cI cL cF cM F L r) H locs → lv_has ls 4 [(0, .ref (h 102)), (1, .int x1), (2, .int x2)] → W p l e rmX2_findSuspects s m args below meth c H locs 0 0 Q (F0 m 28 ls [])) {F : Nat → Nat → Int32} {L : Nat → Nat → Int64} {r : Nat → Nat → Nat} {x1 : Int32} {x2 : Int32} (hh : wpX2_findSuspects_b28_body B28 F L r x1 x2 K) {H : Heap} {locs : List Loc} {ls : Array Slot} (hw : Wd D A s (cT cI cL cF cM) (cW h cI cL cF cM F L r) H locs) (hl : lv_has ls 4 [(0, .ref (h 102)), (1, .int x1), (2, .int x2)]) : W p l e rmX2_findSuspects s m args below meth c H locs 0 0 Q (F0 m 28 ls []) := by
  unfold wpX2_findSuspects_b28_body at hh
  refine lv_iload_n C.1 C.2.1 dX2_findSuspects_28 rfl (lv_at hl 2 rfl) ?_
  refine lv_aload_n C.1 C.2.1 dX2_findSuspects_29 rfl (lv_at hl 0 rfl) ?_
  refine c_get C hw (inC inW2) (kd_lt kp102 (by decide)) (ce2 kp102) rfl 4 (by decide) (wc w_537) (v := .ref (h (r 102 4))) rfl dX2_findSuspects_30 ?_
  obtain ⟨hk0, hh⟩ := hh
  refine c_get C hw (inC inW4) (kd_lt hk0 (by decide)) (ce4 hk0) rfl 0 (by decide) (wc w_280) (v := .int (F (r 102 4) 0)) rfl dX2_findSuspects_33 ?_
  refine lv_icmp_ge (tgt := 89) C.1 C.2.1 dX2_findSuspects_36 (by decide) (fun c36 => ?_) (fun c36 => ?_)
  · replace hh := hh.1 c36
    exact hR _ _ (F, L, r) _ _ dX2_findSuspects_89 hh hw
  · replace hh := hh.2 c36
    refine lv_iconst (v := (1 : Int32)) C.1 C.2.1 dX2_findSuspects_39 (by decide) ?_
    refine lv_iload_n C.1 C.2.1 dX2_findSuspects_40 rfl (lv_at hl 2 rfl) ?_
    refine g_ishl C dX2_findSuspects_41 ?_
    refine lv_istore_n (lv' := [(3, .int (jshl (1 : Int32) x2)), (0, .ref (h 102)), (1, .int x1), (2, .int x2)]) C.1 C.2.1 dX2_findSuspects_42 rfl hl (by decide) rfl (fun ls hl => ?_)
    refine lv_aload_n C.1 C.2.1 dX2_findSuspects_43 rfl (lv_at hl 1 rfl) ?_
    refine lv_iload_n C.1 C.2.1 dX2_findSuspects_44 rfl (lv_at hl 0 rfl) ?_
    refine lv_iconst (v := (0 : Int32)) C.1 C.2.1 dX2_findSuspects_45 (by decide) ?_
    refine lv_iload_n C.1 C.2.1 dX2_findSuspects_46 rfl (lv_at hl 2 rfl) ?_
    refine c_Vi C hw (ctX2_keepsTrack l D h cI cL cF cM F L r (jshl (1 : Int32) x2) (0 : Int32) x1 hh) (cwV 3 C.2.2.2.2 (gd_V w_1285 w_1287 w_49 w_124 w_1288) rfl rfl rfl cdX2_keepsTrack ⟨Nat.le_of_ble_eq_true rfl, Nat.le_of_ble_eq_true rfl⟩) rfl (kd_lt kp102 (by decide)) (ce2 kp102) rfl hl.1 (Nat.le_of_ble_eq_true rfl) dX2_findSuspects_47 ⟨Nat.zero_le _, Nat.zero_le _⟩ (fun r47 u47 H locs hh hw => ?_) rfl
    refine lv_if_eq (tgt := 63) C.1 C.2.1 dX2_findSuspects_50 (by decide) (fun c50 => ?_) (fun c50 => ?_)
    · replace hh := hh.1 c50
      exact tX2_findSuspects_b63 C hR hB28 hh hw (lv_sub hl [1, 2, 3, 0] rfl)
    · replace hh := hh.2 c50
      refine lv_aload_n C.1 C.2.1 dX2_findSuspects_53 rfl (lv_at hl 1 rfl) ?_
      refine lv_dup C.1 C.2.1 dX2_findSuspects_54 rfl ?_
      refine c_get C hw (inC inW2) (kd_lt kp102 (by decide)) (ce2 kp102) rfl 0 (by decide) (wc w_529) (v := .int (u47.1 102 0)) rfl dX2_findSuspects_55 ?_
      refine lv_iload_n C.1 C.2.1 dX2_findSuspects_58 rfl (lv_at hl 0 rfl) ?_
      refine lv_ior C.1 C.2.1 dX2_findSuspects_59 ?_
      refine c_puti C hw (inC inW2) tyX2 tyX2_ok nmX2 (kd_lt kp102 (by decide)) (ce2 kp102) rfl 0 (by decide) (wc w_529) rfl (ty := .int) (by decide +kernel) rfl rfl (Nat.le_of_ble_eq_true rfl) rfl dX2_findSuspects_60 (fun H locs hw => ?_)
      exact tX2_findSuspects_b63 C hR hB28 hh hw (lv_sub hl [1, 2, 3, 0] rfl)
theorem tX2_findSuspects_b28 {K : cS → Prop} (C : CallFix p m c cX2_findSuspects 4 s args wsX2_findSuspects RX2) (hR : Rtv p l e rmX2_findSuspects s m args below meth c cX2_findSuspects D A (cT cI cL cF cM) (cWu h cI cL cF cM) K Q) (n : Nat) : ∀ (F : Nat → Nat → Int32) (L : Nat → Nat → Int64) (r : Nat → Nat → Nat) (x1 : Int32) (x2 : Int32) (H : Heap) (locs : List Loc) (ls : Array Slot), wpX2_findSuspects_b28 n F L r x1 x2 K → Wd D A s (cT cI cL cF cM) (cW h cI cL cF cM F L r) H locs → lv_has ls 4 [(0, .ref (h 102)), (1, .int x1), (2, .int x2)] → W p l e rmX2_findSuspects s m args below meth c H locs 0 0 Q (F0 m 28 ls []) := by
  induction n with
  | zero => intro F L r x1 x2 H locs ls hh; exact hh.elim
  | succ n ih => intro F L r x1 x2 H locs ls hh hw hl; exact tX2_findSuspects_b28_body C hR ih hh hw hl
set_option maxHeartbeats 4000000 in
set_option maxRecDepth 100000 in
theorem tX2_findSuspects_b0 {K : cS → Prop} (C : CallFix p m c cX2_findSuspects 4 s args wsX2_findSuspects RX2) (hR : Rtv p l e rmX2_findSuspects s m args below meth c cX2_findSuspects D A (cT cI cL cF cM) (cWu h cI cL cF cM) K Q) {F : Nat → Nat → Int32} {L : Nat → Nat → Int64} {r : Nat → Nat → Nat} {x1 : Int32} (hh : wpX2_findSuspects_b0 F L r x1 K) {H : Heap} {locs : List Loc} {ls : Array Slot} (hw : Wd D A s (cT cI cL cF cM) (cW h cI cL cF cM F L r) H locs) (hl : lv_has ls 4 [(0, .ref (h 102)), (1, .int x1)]) : W p l e rmX2_findSuspects s m args below meth c H locs 0 0 Q (F0 m 0 ls []) := by
  unfold wpX2_findSuspects_b0 at hh
  refine lv_aload_n C.1 C.2.1 dX2_findSuspects_0 rfl (lv_at hl 0 rfl) ?_
  refine lv_iconst (v := (0 : Int32)) C.1 C.2.1 dX2_findSuspects_1 (by decide) ?_
  refine c_puti C hw (inC inW2) tyX2 tyX2_ok nmX2 (kd_lt kp102 (by decide)) (ce2 kp102) rfl 0 (by decide) (wc w_529) rfl (ty := .int) (by decide +kernel) rfl rfl (Nat.le_of_ble_eq_true rfl) rfl dX2_findSuspects_2 (fun H locs hw => ?_)
  refine lv_aload_n C.1 C.2.1 dX2_findSuspects_5 rfl (lv_at hl 0 rfl) ?_
  refine lv_iconst (v := (0 : Int32)) C.1 C.2.1 dX2_findSuspects_6 (by decide) ?_
  refine c_puti C hw (inC inW2) tyX2 tyX2_ok nmX2 (kd_lt kp102 (by decide)) (ce2 kp102) rfl 1 (by decide) (wc w_531) rfl (ty := .int) (by decide +kernel) rfl rfl (Nat.le_of_ble_eq_true rfl) rfl dX2_findSuspects_7 (fun H locs hw => ?_)
  refine lv_aload_n C.1 C.2.1 dX2_findSuspects_10 rfl (lv_at hl 0 rfl) ?_
  refine lv_iload_n C.1 C.2.1 dX2_findSuspects_11 rfl (lv_at hl 1 rfl) ?_
  refine c_Vv C hw (ctX2_recordTrack l D h cI cL cF cM (pt (pt F 102 0 (0 : Int32)) 102 1 (0 : Int32)) L r x1 hh) (cwV 1 C.2.2.2.2 (gd_V w_1277 w_1279 w_47 w_124 w_1280) rfl rfl rfl cdX2_recordTrack ⟨Nat.le_of_ble_eq_true rfl, Nat.le_of_ble_eq_true rfl⟩) rfl (kd_lt kp102 (by decide)) (ce2 kp102) rfl hl.1 (Nat.le_of_ble_eq_true rfl) dX2_findSuspects_12 ⟨Nat.zero_le _, Nat.zero_le _⟩ (fun u12 H locs hh hw => ?_) rfl
  refine lv_aload_n C.1 C.2.1 dX2_findSuspects_15 rfl (lv_at hl 0 rfl) ?_
  refine lv_iconst (v := (0 : Int32)) C.1 C.2.1 dX2_findSuspects_16 (by decide) ?_
  refine lv_iconst (v := (0 : Int32)) C.1 C.2.1 dX2_findSuspects_17 (by decide) ?_
  refine lv_iload_n C.1 C.2.1 dX2_findSuspects_18 rfl (lv_at hl 1 rfl) ?_
  refine c_Vi C hw (ctX2_keepsTrack l D h cI cL cF cM u12.1 u12.2.1 u12.2.2 (0 : Int32) (0 : Int32) x1 hh) (cwV 3 C.2.2.2.2 (gd_V w_1285 w_1287 w_49 w_124 w_1288) rfl rfl rfl cdX2_keepsTrack ⟨Nat.le_of_ble_eq_true rfl, Nat.le_of_ble_eq_true rfl⟩) rfl (kd_lt kp102 (by decide)) (ce2 kp102) rfl hl.1 (Nat.le_of_ble_eq_true rfl) dX2_findSuspects_19 ⟨Nat.zero_le _, Nat.zero_le _⟩ (fun r19 u19 H locs hh hw => ?_) rfl
  refine lv_if_eq (tgt := 26) C.1 C.2.1 dX2_findSuspects_22 (by decide) (fun c22 => ?_) (fun c22 => ?_)
  · replace hh := hh.1 c22
    refine lv_iconst (v := (0 : Int32)) C.1 C.2.1 dX2_findSuspects_26 (by decide) ?_
    refine lv_istore_n (lv' := [(2, .int (0 : Int32)), (0, .ref (h 102)), (1, .int x1)]) C.1 C.2.1 dX2_findSuspects_27 rfl hl (by decide) rfl (fun ls hl => ?_)
    obtain ⟨n, hh⟩ := hh
    exact tX2_findSuspects_b28 C hR n _ _ _ _ _ _ _ _ hh hw (lv_sub hl [1, 2, 0] rfl)
  · replace hh := hh.2 c22
    exact hR _ _ (u19.1, u19.2.1, u19.2.2) _ _ dX2_findSuspects_25 hh hw
theorem ctX2_findSuspects (l : Launch) (D : va_G) (h : Nat → Nat) (cI cL cF cM : ClassId) (F : Nat → Nat → Int32) (L : Nat → Nat → Int64) (r : Nat → Nat → Nat) (x1 : Int32) {K : cS → Prop} (hh : wpX2_findSuspects F L r x1 K) : Cv l yX2_findSuspects wsX2_findSuspects rmX2_findSuspects [.ref (h 102), .int x1] D (cT cI cL cF cM) (cWu h cI cL cF cM) (F, L, r) K := by
  refine Cv_of (cc := cX2_findSuspects) (maxL := 4) (by decide) rfl (Nat.le_of_ble_eq_true rfl) ?_
  intro p e s m below meth c A Q C hw hR ls hl
  exact tX2_findSuspects_b0 C hR hh hw hl
theorem cdX2_findSuspects : yX2_findSuspects.cls = RX2 ∧ yX2_findSuspects.cls ≠ "java/lang/invoke/MethodHandle" ∧ yX2_findSuspects.cls ≠ "java/lang/invoke/VarHandle" ∧ (parseMethodDescriptor yX2_findSuspects.desc).map (fun d => d.parameters.length) = some 1 := by decide +kernel
abbrev rmX10_suspects : Room := { frames := 5, cells := 0, slots := 0, locals := 119 }
set_option maxHeartbeats 4000000 in
set_option maxRecDepth 100000 in
theorem tX10_suspects_b16 {K : Int32 → cS → Prop} (C : CallFix p m c cX10_suspects 3 s args wsX10_suspects RX10) (hR : Rti .int p l e rmX10_suspects s m args below meth c cX10_suspects D A (cT cI cL cF cM) (cWu h cI cL cF cM) K Q) {F : Nat → Nat → Int32} {L : Nat → Nat → Int64} {r : Nat → Nat → Nat} (hh : wpX10_suspects_b16 F L r K) {H : Heap} {locs : List Loc} {ls : Array Slot} (hw : Wd D A s (cT cI cL cF cM) (cW h cI cL cF cM F L r) H locs) (hl : lv_has ls 3 [(0, .ref (h 0))]) : W p l e rmX10_suspects s m args below meth c H locs 0 0 Q (F0 m 16 ls []) := by
  unfold wpX10_suspects_b16 at hh
  refine lv_iconst (v := (-1 : Int32)) C.1 C.2.1 dX10_suspects_16 (by decide) ?_
  exact hR _ _ _ (F, L, r) _ _ dX10_suspects_17 rfl hh hw
set_option maxHeartbeats 4000000 in
set_option maxRecDepth 100000 in
theorem tX10_suspects_b70 {K : Int32 → cS → Prop} (C : CallFix p m c cX10_suspects 3 s args wsX10_suspects RX10) (hR : Rti .int p l e rmX10_suspects s m args below meth c cX10_suspects D A (cT cI cL cF cM) (cWu h cI cL cF cM) K Q) {F : Nat → Nat → Int32} {L : Nat → Nat → Int64} {r : Nat → Nat → Nat} {k0 : Int32} (hh : wpX10_suspects_b70 F L r k0 K) {H : Heap} {locs : List Loc} {ls : Array Slot} (hw : Wd D A s (cT cI cL cF cM) (cW h cI cL cF cM F L r) H locs) (hl : lv_has ls 3 [(0, .ref (h 0))]) : W p l e rmX10_suspects s m args below meth c H locs 0 0 Q (F0 m 70 ls [.int k0]) := by
  unfold wpX10_suspects_b70 at hh
  exact hR _ _ _ (F, L, r) _ _ dX10_suspects_70 rfl hh hw
set_option maxHeartbeats 4000000 in
set_option maxRecDepth 100000 in
theorem tX10_suspects_b0 {K : Int32 → cS → Prop} (C : CallFix p m c cX10_suspects 3 s args wsX10_suspects RX10) (hR : Rti .int p l e rmX10_suspects s m args below meth c cX10_suspects D A (cT cI cL cF cM) (cWu h cI cL cF cM) K Q) {F : Nat → Nat → Int32} {L : Nat → Nat → Int64} {r : Nat → Nat → Nat} {x1 : Int32} {x2 : Int32} (hh : wpX10_suspects_b0 F L r x1 x2 K) {H : Heap} {locs : List Loc} {ls : Array Slot} (hw : Wd D A s (cT cI cL cF cM) (cW h cI cL cF cM F L r) H locs) (hl : lv_has ls 3 [(0, .ref (h 0)), (1, .int x1), (2, .int x2)]) : W p l e rmX10_suspects s m args below meth c H locs 0 0 Q (F0 m 0 ls []) := by
  unfold wpX10_suspects_b0 at hh
  refine lv_iload_n C.1 C.2.1 dX10_suspects_0 rfl (lv_at hl 1 rfl) ?_
  refine wd_Si C hw (ctX2_isLength l D x1 hh) (va_cwS 1 C.2.2.2.2 (gd_S w_1235 w_1236 (ini_cls rfl w_124) w_1237) rfl rfl rfl cdX2_isLength ⟨Nat.le_of_ble_eq_true rfl, Nat.le_of_ble_eq_true rfl⟩) rfl hl.1 (Nat.le_of_ble_eq_true rfl) dX10_suspects_1 ⟨Nat.zero_le _, Nat.zero_le _⟩ (fun r1 H locs hh hw => ?_) rfl
  refine lv_if_eq (tgt := 16) C.1 C.2.1 dX10_suspects_4 (by decide) (fun c4 => ?_) (fun c4 => ?_)
  · replace hh := hh.1 c4
    exact tX10_suspects_b16 C hR hh hw (lv_sub hl [0] rfl)
  · replace hh := hh.2 c4
    refine lv_iload_n C.1 C.2.1 dX10_suspects_7 rfl (lv_at hl 2 rfl) ?_
    refine lv_if_lt (tgt := 16) C.1 C.2.1 dX10_suspects_8 (by decide) (fun c8 => ?_) (fun c8 => ?_)
    · replace hh := hh.1 c8
      exact tX10_suspects_b16 C hR hh hw (lv_sub hl [0] rfl)
    · replace hh := hh.2 c8
      refine lv_iload_n C.1 C.2.1 dX10_suspects_11 rfl (lv_at hl 2 rfl) ?_
      refine lv_iconst (v := (1 : Int32)) C.1 C.2.1 dX10_suspects_12 (by decide) ?_
      refine lv_icmp_le (tgt := 18) C.1 C.2.1 dX10_suspects_13 (by decide) (fun c13 => ?_) (fun c13 => ?_)
      · replace hh := hh.1 c13
        refine lv_aload_n C.1 C.2.1 dX10_suspects_18 rfl (lv_at hl 0 rfl) ?_
        refine c_get C hw (inC inW10) (kd_lt kp0 (by decide)) (ce10 kp0) rfl 14 (by decide) (wc w_584) (v := .ref (h 102)) rfl dX10_suspects_19 ?_
        refine lv_aload_n C.1 C.2.1 dX10_suspects_22 rfl (lv_at hl 0 rfl) ?_
        refine c_get C hw (inC inW10) (kd_lt kp0 (by decide)) (ce10 kp0) rfl 4 (by decide) (wc w_574) (v := .ref (h (r 0 4))) rfl dX10_suspects_23 ?_
        refine lv_aload_n C.1 C.2.1 dX10_suspects_26 rfl (lv_at hl 0 rfl) ?_
        refine c_get C hw (inC inW10) (kd_lt kp0 (by decide)) (ce10 kp0) rfl 6 (by decide) (wc w_576) (v := .ref (h 74)) rfl dX10_suspects_27 ?_
        refine lv_aload_n C.1 C.2.1 dX10_suspects_30 rfl (lv_at hl 0 rfl) ?_
        refine c_get C hw (inC inW10) (kd_lt kp0 (by decide)) (ce10 kp0) rfl 5 (by decide) (wc w_575) (v := .ref (h 46)) rfl dX10_suspects_31 ?_
        refine lv_aload_n C.1 C.2.1 dX10_suspects_34 rfl (lv_at hl 0 rfl) ?_
        refine c_get C hw (inC inW10) (kd_lt kp0 (by decide)) (ce10 kp0) rfl 7 (by decide) (wc w_577) (v := .ref (h 43)) rfl dX10_suspects_35 ?_
        obtain ⟨hk0, hh⟩ := hh
        refine c_Vv C hw (ctX2_begin l D h cI cL cF cM (r 0 4) 74 46 43 hk0 kp74 kp46 kp43 F L r hh) (cwV 4 C.2.2.2.2 (gd_V w_1238 w_1239 w_1240 w_124 w_1241) rfl rfl rfl cdX2_begin ⟨Nat.le_of_ble_eq_true rfl, Nat.le_of_ble_eq_true rfl⟩) rfl (kd_lt kp102 (by decide)) (ce2 kp102) rfl hl.1 (Nat.le_of_ble_eq_true rfl) dX10_suspects_38 ⟨Nat.zero_le _, Nat.zero_le _⟩ (fun u38 H locs hh hw => ?_) rfl
        refine lv_aload_n C.1 C.2.1 dX10_suspects_41 rfl (lv_at hl 0 rfl) ?_
        refine c_get C hw (inC inW10) (kd_lt kp0 (by decide)) (ce10 kp0) rfl 14 (by decide) (wc w_584) (v := .ref (h 102)) rfl dX10_suspects_42 ?_
        refine lv_iload_n C.1 C.2.1 dX10_suspects_45 rfl (lv_at hl 1 rfl) ?_
        refine c_Vv C hw (ctX2_findSuspects l D h cI cL cF cM u38.1 u38.2.1 u38.2.2 x1 hh) (cwV 1 C.2.2.2.2 (gd_V w_1273 w_1274 w_1275 w_124 w_1276) rfl rfl rfl cdX2_findSuspects ⟨Nat.le_of_ble_eq_true rfl, Nat.le_of_ble_eq_true rfl⟩) rfl (kd_lt kp102 (by decide)) (ce2 kp102) rfl hl.1 (Nat.le_of_ble_eq_true rfl) dX10_suspects_46 ⟨Nat.zero_le _, Nat.zero_le _⟩ (fun u46 H locs hh hw => ?_) rfl
        refine lv_iload_n C.1 C.2.1 dX10_suspects_49 rfl (lv_at hl 2 rfl) ?_
        refine lv_if_ne (tgt := 63) C.1 C.2.1 dX10_suspects_50 (by decide) (fun c50 => ?_) (fun c50 => ?_)
        · replace hh := hh.1 c50
          refine lv_aload_n C.1 C.2.1 dX10_suspects_63 rfl (lv_at hl 0 rfl) ?_
          refine c_get C hw (inC inW10) (kd_lt kp0 (by decide)) (ce10 kp0) rfl 14 (by decide) (wc w_584) (v := .ref (h 102)) rfl dX10_suspects_64 ?_
          refine c_get C hw (inC inW2) (kd_lt kp102 (by decide)) (ce2 kp102) rfl 1 (by decide) (wc w_532) (v := .int (u46.1 102 1)) rfl dX10_suspects_67 ?_
          exact tX10_suspects_b70 C hR hh hw (lv_sub hl [0] rfl)
        · replace hh := hh.2 c50
          refine lv_aload_n C.1 C.2.1 dX10_suspects_53 rfl (lv_at hl 0 rfl) ?_
          refine c_get C hw (inC inW10) (kd_lt kp0 (by decide)) (ce10 kp0) rfl 14 (by decide) (wc w_584) (v := .ref (h 102)) rfl dX10_suspects_54 ?_
          refine c_get C hw (inC inW2) (kd_lt kp102 (by decide)) (ce2 kp102) rfl 0 (by decide) (wc w_530) (v := .int (u46.1 102 0)) rfl dX10_suspects_57 ?_
          refine lv_goto (tgt := 70) C.1 C.2.1 dX10_suspects_60 (by decide) ?_
          exact tX10_suspects_b70 C hR hh hw (lv_sub hl [0] rfl)
      · replace hh := hh.2 c13
        exact tX10_suspects_b16 C hR hh hw (lv_sub hl [0] rfl)
theorem ctX10_suspects (l : Launch) (D : va_G) (h : Nat → Nat) (cI cL cF cM : ClassId) (F : Nat → Nat → Int32) (L : Nat → Nat → Int64) (r : Nat → Nat → Nat) (x1 : Int32) (x2 : Int32) {K : Int32 → cS → Prop} (hh : wpX10_suspects F L r x1 x2 K) : Ci l yX10_suspects wsX10_suspects rmX10_suspects [.ref (h 0), .int x1, .int x2] D (cT cI cL cF cM) (cWu h cI cL cF cM) (F, L, r) K := by
  refine Ci_of (cc := cX10_suspects) (maxL := 3) (by decide) rfl (Nat.le_of_ble_eq_true rfl) ?_
  intro p e s m below meth c A Q C hw hR ls hl
  exact tX10_suspects_b0 C hR hh hw hl
theorem cdX10_suspects : yX10_suspects.cls = RX10 ∧ yX10_suspects.cls ≠ "java/lang/invoke/MethodHandle" ∧ yX10_suspects.cls ≠ "java/lang/invoke/VarHandle" ∧ (parseMethodDescriptor yX10_suspects.desc).map (fun d => d.parameters.length) = some 2 := by decide +kernel
abbrev rmJ6_bitCount_0f7a4 : Room := { frames := 0, cells := 0, slots := 0, locals := 0 }
set_option maxHeartbeats 4000000 in
set_option maxRecDepth 100000 in
theorem tJ6_bitCount_0f7a4_b0 {K : Int32 → Unit → Prop} (C : CallFix p m c cJ6_bitCount_0f7a4 1 s args wsJ6_bitCount_0f7a4 RJ6) (hR : Rti .int p l e rmJ6_bitCount_0f7a4 s m args below meth c cJ6_bitCount_0f7a4 D A [] (fun _ : Unit => []) K Q) {x0 : Int32} (hh : wpJ6_bitCount_0f7a4_b0 x0 K) {H : Heap} {locs : List Loc} {ls : Array Slot} (hw : Wd D A s [] [] H locs) (hl : lv_has ls 1 [(0, .int x0)]) : W p l e rmJ6_bitCount_0f7a4 s m args below meth c H locs 0 0 Q (F0 m 0 ls []) := by
  unfold wpJ6_bitCount_0f7a4_b0 at hh
  refine lv_iload_n C.1 C.2.1 dJ6_bitCount_0f7a4_0 rfl (lv_at hl 0 rfl) ?_
  refine lv_iload_n C.1 C.2.1 dJ6_bitCount_0f7a4_1 rfl (lv_at hl 0 rfl) ?_
  refine lv_iconst (v := (1 : Int32)) C.1 C.2.1 dJ6_bitCount_0f7a4_2 (by decide) ?_
  refine g_iushr C dJ6_bitCount_0f7a4_3 ?_
  refine lv_ldcw C.1 C.2.1 C.2.2.2.1 (C.2.2.2.2 _ (wc w_1301)) dJ6_bitCount_0f7a4_4 ?_
  refine lv_iand C.1 C.2.1 dJ6_bitCount_0f7a4_7 ?_
  refine lv_isub C.1 C.2.1 dJ6_bitCount_0f7a4_8 ?_
  refine lv_topi (fun y9 ey9 => ?_)
  replace hh := hh y9 ey9
  refine lv_istore_n (lv' := [(0, .int y9)]) C.1 C.2.1 dJ6_bitCount_0f7a4_9 rfl hl (by decide) rfl (fun ls hl => ?_)
  refine lv_iload_n C.1 C.2.1 dJ6_bitCount_0f7a4_10 rfl (lv_at hl 0 rfl) ?_
  refine lv_ldcw C.1 C.2.1 C.2.2.2.1 (C.2.2.2.2 _ (wc w_1302)) dJ6_bitCount_0f7a4_11 ?_
  refine lv_iand C.1 C.2.1 dJ6_bitCount_0f7a4_14 ?_
  refine lv_iload_n C.1 C.2.1 dJ6_bitCount_0f7a4_15 rfl (lv_at hl 0 rfl) ?_
  refine lv_iconst (v := (2 : Int32)) C.1 C.2.1 dJ6_bitCount_0f7a4_16 (by decide) ?_
  refine g_iushr C dJ6_bitCount_0f7a4_17 ?_
  refine lv_ldcw C.1 C.2.1 C.2.2.2.1 (C.2.2.2.2 _ (wc w_1302)) dJ6_bitCount_0f7a4_18 ?_
  refine lv_iand C.1 C.2.1 dJ6_bitCount_0f7a4_21 ?_
  refine lv_iadd C.1 C.2.1 dJ6_bitCount_0f7a4_22 ?_
  refine lv_topi (fun y23 ey23 => ?_)
  replace hh := hh y23 ey23
  refine lv_istore_n (lv' := [(0, .int y23)]) C.1 C.2.1 dJ6_bitCount_0f7a4_23 rfl hl (by decide) rfl (fun ls hl => ?_)
  refine lv_iload_n C.1 C.2.1 dJ6_bitCount_0f7a4_24 rfl (lv_at hl 0 rfl) ?_
  refine lv_iload_n C.1 C.2.1 dJ6_bitCount_0f7a4_25 rfl (lv_at hl 0 rfl) ?_
  refine lv_iconst (v := (4 : Int32)) C.1 C.2.1 dJ6_bitCount_0f7a4_26 (by decide) ?_
  refine g_iushr C dJ6_bitCount_0f7a4_27 ?_
  refine lv_iadd C.1 C.2.1 dJ6_bitCount_0f7a4_28 ?_
  refine lv_ldcw C.1 C.2.1 C.2.2.2.1 (C.2.2.2.2 _ (wc w_1303)) dJ6_bitCount_0f7a4_29 ?_
  refine lv_iand C.1 C.2.1 dJ6_bitCount_0f7a4_32 ?_
  refine lv_topi (fun y33 ey33 => ?_)
  replace hh := hh y33 ey33
  refine lv_istore_n (lv' := [(0, .int y33)]) C.1 C.2.1 dJ6_bitCount_0f7a4_33 rfl hl (by decide) rfl (fun ls hl => ?_)
  refine lv_iload_n C.1 C.2.1 dJ6_bitCount_0f7a4_34 rfl (lv_at hl 0 rfl) ?_
  refine lv_iload_n C.1 C.2.1 dJ6_bitCount_0f7a4_35 rfl (lv_at hl 0 rfl) ?_
  refine lv_bipush (v := (8 : Int32)) C.1 C.2.1 dJ6_bitCount_0f7a4_36 (by decide) ?_
  refine g_iushr C dJ6_bitCount_0f7a4_38 ?_
  refine lv_iadd C.1 C.2.1 dJ6_bitCount_0f7a4_39 ?_
  refine lv_istore_n (lv' := [(0, .int (y33 + (jushr y33 (8 : Int32))))]) C.1 C.2.1 dJ6_bitCount_0f7a4_40 rfl hl (by decide) rfl (fun ls hl => ?_)
  refine lv_iload_n C.1 C.2.1 dJ6_bitCount_0f7a4_41 rfl (lv_at hl 0 rfl) ?_
  refine lv_iload_n C.1 C.2.1 dJ6_bitCount_0f7a4_42 rfl (lv_at hl 0 rfl) ?_
  refine lv_bipush (v := (16 : Int32)) C.1 C.2.1 dJ6_bitCount_0f7a4_43 (by decide) ?_
  refine g_iushr C dJ6_bitCount_0f7a4_45 ?_
  refine lv_iadd C.1 C.2.1 dJ6_bitCount_0f7a4_46 ?_
  refine lv_topi (fun y47 ey47 => ?_)
  replace hh := hh y47 ey47
  refine lv_istore_n (lv' := [(0, .int y47)]) C.1 C.2.1 dJ6_bitCount_0f7a4_47 rfl hl (by decide) rfl (fun ls hl => ?_)
  refine lv_iload_n C.1 C.2.1 dJ6_bitCount_0f7a4_48 rfl (lv_at hl 0 rfl) ?_
  refine lv_bipush (v := (63 : Int32)) C.1 C.2.1 dJ6_bitCount_0f7a4_49 (by decide) ?_
  refine lv_iand C.1 C.2.1 dJ6_bitCount_0f7a4_51 ?_
  exact hR _ _ _ () _ _ dJ6_bitCount_0f7a4_52 rfl hh hw
theorem ctJ6_bitCount_0f7a4 (l : Launch) (D : va_G) (x0 : Int32) {K : Int32 → Unit → Prop} (hh : wpJ6_bitCount_0f7a4 x0 K) : Ci l yJ6_bitCount_0f7a4 wsJ6_bitCount_0f7a4 rmJ6_bitCount_0f7a4 [.int x0] D [] (fun _ : Unit => []) () K := by
  refine Ci_of (cc := cJ6_bitCount_0f7a4) (maxL := 1) (by decide) rfl (Nat.le_of_ble_eq_true rfl) ?_
  intro p e s m below meth c A Q C hw hR ls hl
  exact tJ6_bitCount_0f7a4_b0 C hR hh hw hl
theorem cdJ6_bitCount_0f7a4 : yJ6_bitCount_0f7a4.cls ≠ "java/lang/invoke/MethodHandle" ∧ yJ6_bitCount_0f7a4.cls ≠ "java/lang/invoke/VarHandle" ∧ (parseMethodDescriptor yJ6_bitCount_0f7a4.desc).map (fun d => d.parameters.length) = some 1 := by decide +kernel
abbrev rmX2_suspectCount : Room := { frames := 1, cells := 0, slots := 0, locals := 20 }
set_option maxHeartbeats 4000000 in
set_option maxRecDepth 100000 in
theorem tX2_suspectCount_b0 {K : Int32 → cS → Prop} (C : CallFix p m c cX2_suspectCount 1 s args wsX2_suspectCount RX2) (hR : Rti .int p l e rmX2_suspectCount s m args below meth c cX2_suspectCount D A (cT cI cL cF cM) (cWu h cI cL cF cM) K Q) {F : Nat → Nat → Int32} {L : Nat → Nat → Int64} {r : Nat → Nat → Nat} (hh : wpX2_suspectCount_b0 F L r K) {H : Heap} {locs : List Loc} {ls : Array Slot} (hw : Wd D A s (cT cI cL cF cM) (cW h cI cL cF cM F L r) H locs) (hl : lv_has ls 1 [(0, .ref (h 102))]) : W p l e rmX2_suspectCount s m args below meth c H locs 0 0 Q (F0 m 0 ls []) := by
  unfold wpX2_suspectCount_b0 at hh
  refine lv_aload_n C.1 C.2.1 dX2_suspectCount_0 rfl (lv_at hl 0 rfl) ?_
  refine c_get C hw (inC inW2) (kd_lt kp102 (by decide)) (ce2 kp102) rfl 0 (by decide) (wc w_529) (v := .int (F 102 0)) rfl dX2_suspectCount_1 ?_
  refine wd_Si C hw (ctJ6_bitCount_0f7a4 l D (F 102 0) hh) (va_cwS 1 C.2.2.2.2 (gd_S w_1298 w_1299 (ini_cls rfl w_137) w_1300) rfl rfl rfl cdJ6_bitCount_0f7a4 ⟨Nat.le_of_ble_eq_true rfl, Nat.le_of_ble_eq_true rfl⟩) rfl hl.1 (Nat.le_of_ble_eq_true rfl) dX2_suspectCount_4 ⟨Nat.zero_le _, Nat.zero_le _⟩ (fun r4 H locs hh hw => ?_) rfl
  refine lv_aload_n C.1 C.2.1 dX2_suspectCount_7 rfl (lv_at hl 0 rfl) ?_
  refine c_get C hw (inC inW2) (kd_lt kp102 (by decide)) (ce2 kp102) rfl 1 (by decide) (wc w_531) (v := .int (F 102 1)) rfl dX2_suspectCount_8 ?_
  refine wd_Si C hw (ctJ6_bitCount_0f7a4 l D (F 102 1) hh) (va_cwS 1 C.2.2.2.2 (gd_S w_1298 w_1299 (ini_cls rfl w_137) w_1300) rfl rfl rfl cdJ6_bitCount_0f7a4 ⟨Nat.le_of_ble_eq_true rfl, Nat.le_of_ble_eq_true rfl⟩) rfl hl.1 (Nat.le_of_ble_eq_true rfl) dX2_suspectCount_11 ⟨Nat.zero_le _, Nat.zero_le _⟩ (fun r11 H locs hh hw => ?_) rfl
  refine lv_iadd C.1 C.2.1 dX2_suspectCount_14 ?_
  exact hR _ _ _ (F, L, r) _ _ dX2_suspectCount_15 rfl hh hw
theorem ctX2_suspectCount (l : Launch) (D : va_G) (h : Nat → Nat) (cI cL cF cM : ClassId) (F : Nat → Nat → Int32) (L : Nat → Nat → Int64) (r : Nat → Nat → Nat) {K : Int32 → cS → Prop} (hh : wpX2_suspectCount F L r K) : Ci l yX2_suspectCount wsX2_suspectCount rmX2_suspectCount [.ref (h 102)] D (cT cI cL cF cM) (cWu h cI cL cF cM) (F, L, r) K := by
  refine Ci_of (cc := cX2_suspectCount) (maxL := 1) (by decide) rfl (Nat.le_of_ble_eq_true rfl) ?_
  intro p e s m below meth c A Q C hw hR ls hl
  exact tX2_suspectCount_b0 C hR hh hw hl
theorem cdX2_suspectCount : yX2_suspectCount.cls = RX2 ∧ yX2_suspectCount.cls ≠ "java/lang/invoke/MethodHandle" ∧ yX2_suspectCount.cls ≠ "java/lang/invoke/VarHandle" ∧ (parseMethodDescriptor yX2_suspectCount.desc).map (fun d => d.parameters.length) = some 0 := by decide +kernel
abbrev rmX1_moveWall : Room := { frames := 2, cells := 0, slots := 0, locals := 46 }
set_option maxHeartbeats 4000000 in
set_option maxRecDepth 100000 in
theorem tX1_moveWall_b29 {a0 : Nat} {K : cS → Prop} (C : CallFix p m c cX1_moveWall 4 s args wsX1_moveWall RX1) (hR : Rtv p l e rmX1_moveWall s m args below meth c cX1_moveWall D A (cT cI cL cF cM) (cWu h cI cL cF cM) K Q) (ha0 : kd a0 = 1) {F : Nat → Nat → Int32} {L : Nat → Nat → Int64} {r : Nat → Nat → Nat} {k1 : Int32} {k2 : Int32} {k3 : Int32} (hh : wpX1_moveWall_b29 a0 F L r k1 k2 k3 K) {H : Heap} {locs : List Loc} {ls : Array Slot} (hw : Wd D A s (cT cI cL cF cM) (cW h cI cL cF cM F L r) H locs) (hl : lv_has ls 4 [(0, .ref (h a0))]) : W p l e rmX1_moveWall s m args below meth c H locs 0 0 Q (F0 m 29 ls [.int k3, .int k2, .int k1, .ref (h a0)]) := by
  unfold wpX1_moveWall_b29 at hh
  refine c_Vv C hw (ctX1_putWall l D h cI cL cF cM a0 ha0 F L r k1 k2 k3 hh) (cwV 3 C.2.2.2.2 (gd_V w_1116 w_953 w_954 w_120 w_955) rfl rfl rfl cdX1_putWall ⟨Nat.le_of_ble_eq_true rfl, Nat.le_of_ble_eq_true rfl⟩) rfl (kd_lt ha0 (by decide)) (ce1 ha0) rfl hl.1 (Nat.le_of_ble_eq_true rfl) dX1_moveWall_29 ⟨Nat.zero_le _, Nat.zero_le _⟩ (fun u29 H locs hh hw => ?_) rfl
  exact hR _ _ (u29.1, u29.2.1, u29.2.2) _ _ dX1_moveWall_32 hh hw
set_option maxHeartbeats 4000000 in
set_option maxRecDepth 100000 in
theorem tX1_moveWall_b0 {a0 : Nat} {K : cS → Prop} (C : CallFix p m c cX1_moveWall 4 s args wsX1_moveWall RX1) (hR : Rtv p l e rmX1_moveWall s m args below meth c cX1_moveWall D A (cT cI cL cF cM) (cWu h cI cL cF cM) K Q) (ha0 : kd a0 = 1) {F : Nat → Nat → Int32} {L : Nat → Nat → Int64} {r : Nat → Nat → Nat} {x1 : Int32} (hh : wpX1_moveWall_b0 a0 F L r x1 K) {H : Heap} {locs : List Loc} {ls : Array Slot} (hw : Wd D A s (cT cI cL cF cM) (cW h cI cL cF cM F L r) H locs) (hl : lv_has ls 4 [(0, .ref (h a0)), (1, .int x1)]) : W p l e rmX1_moveWall s m args below meth c H locs 0 0 Q (F0 m 0 ls []) := by
  unfold wpX1_moveWall_b0 at hh
  refine lv_aload_n C.1 C.2.1 dX1_moveWall_0 rfl (lv_at hl 0 rfl) ?_
  refine lv_iload_n C.1 C.2.1 dX1_moveWall_1 rfl (lv_at hl 1 rfl) ?_
  refine c_Vi C hw (ctX1_squareOfWall l D h cI cL cF cM a0 ha0 F L r x1 hh) (cwV 1 C.2.2.2.2 (gd_V w_1108 w_1110 w_41 w_120 w_1111) rfl rfl rfl cdX1_squareOfWall ⟨Nat.le_of_ble_eq_true rfl, Nat.le_of_ble_eq_true rfl⟩) rfl (kd_lt ha0 (by decide)) (ce1 ha0) rfl hl.1 (Nat.le_of_ble_eq_true rfl) dX1_moveWall_2 ⟨Nat.zero_le _, Nat.zero_le _⟩ (fun r2 u2 H locs hh hw => ?_) rfl
  refine lv_istore_n (lv' := [(2, .int r2), (0, .ref (h a0)), (1, .int x1)]) C.1 C.2.1 dX1_moveWall_5 rfl hl (by decide) rfl (fun ls hl => ?_)
  refine lv_aload_n C.1 C.2.1 dX1_moveWall_6 rfl (lv_at hl 1 rfl) ?_
  refine lv_iload_n C.1 C.2.1 dX1_moveWall_7 rfl (lv_at hl 2 rfl) ?_
  refine c_Vi C hw (ctX1_sideOfWall l D h cI cL cF cM a0 ha0 u2.1 u2.2.1 u2.2.2 x1 hh) (cwV 1 C.2.2.2.2 (gd_V w_1112 w_1114 w_42 w_120 w_1115) rfl rfl rfl cdX1_sideOfWall ⟨Nat.le_of_ble_eq_true rfl, Nat.le_of_ble_eq_true rfl⟩) rfl (kd_lt ha0 (by decide)) (ce1 ha0) rfl hl.1 (Nat.le_of_ble_eq_true rfl) dX1_moveWall_8 ⟨Nat.zero_le _, Nat.zero_le _⟩ (fun r8 u8 H locs hh hw => ?_) rfl
  refine lv_istore_n (lv' := [(3, .int r8), (2, .int r2), (0, .ref (h a0)), (1, .int x1)]) C.1 C.2.1 dX1_moveWall_11 rfl hl (by decide) rfl (fun ls hl => ?_)
  refine lv_aload_n C.1 C.2.1 dX1_moveWall_12 rfl (lv_at hl 2 rfl) ?_
  refine lv_iload_n C.1 C.2.1 dX1_moveWall_13 rfl (lv_at hl 1 rfl) ?_
  refine lv_iload_n C.1 C.2.1 dX1_moveWall_14 rfl (lv_at hl 0 rfl) ?_
  refine lv_aload_n C.1 C.2.1 dX1_moveWall_15 rfl (lv_at hl 2 rfl) ?_
  refine lv_iload_n C.1 C.2.1 dX1_moveWall_16 rfl (lv_at hl 1 rfl) ?_
  refine lv_iload_n C.1 C.2.1 dX1_moveWall_17 rfl (lv_at hl 0 rfl) ?_
  refine c_Vi C hw (ctX1_isWalled l D h cI cL cF cM a0 ha0 u8.1 u8.2.1 u8.2.2 r2 r8 hh) (cwV 2 C.2.2.2.2 (gd_V w_1314 w_949 w_950 w_120 w_951) rfl rfl rfl cdX1_isWalled ⟨Nat.le_of_ble_eq_true rfl, Nat.le_of_ble_eq_true rfl⟩) rfl (kd_lt ha0 (by decide)) (ce1 ha0) rfl hl.1 (Nat.le_of_ble_eq_true rfl) dX1_moveWall_18 ⟨Nat.zero_le _, Nat.zero_le _⟩ (fun r18 u18 H locs hh hw => ?_) rfl
  refine lv_if_ne (tgt := 28) C.1 C.2.1 dX1_moveWall_21 (by decide) (fun c21 => ?_) (fun c21 => ?_)
  · replace hh := hh.1 c21
    refine lv_iconst (v := (0 : Int32)) C.1 C.2.1 dX1_moveWall_28 (by decide) ?_
    exact tX1_moveWall_b29 C hR ha0 hh hw (lv_sub hl [2] rfl)
  · replace hh := hh.2 c21
    refine lv_iconst (v := (1 : Int32)) C.1 C.2.1 dX1_moveWall_24 (by decide) ?_
    refine lv_goto (tgt := 29) C.1 C.2.1 dX1_moveWall_25 (by decide) ?_
    exact tX1_moveWall_b29 C hR ha0 hh hw (lv_sub hl [2] rfl)
theorem ctX1_moveWall (l : Launch) (D : va_G) (h : Nat → Nat) (cI cL cF cM : ClassId) (a0 : Nat) (ha0 : kd a0 = 1) (F : Nat → Nat → Int32) (L : Nat → Nat → Int64) (r : Nat → Nat → Nat) (x1 : Int32) {K : cS → Prop} (hh : wpX1_moveWall a0 F L r x1 K) : Cv l yX1_moveWall wsX1_moveWall rmX1_moveWall [.ref (h a0), .int x1] D (cT cI cL cF cM) (cWu h cI cL cF cM) (F, L, r) K := by
  refine Cv_of (cc := cX1_moveWall) (maxL := 4) (by decide) rfl (Nat.le_of_ble_eq_true rfl) ?_
  intro p e s m below meth c A Q C hw hR ls hl
  exact tX1_moveWall_b0 C hR ha0 hh hw hl
theorem cdX1_moveWall : yX1_moveWall.cls = RX1 ∧ yX1_moveWall.cls ≠ "java/lang/invoke/MethodHandle" ∧ yX1_moveWall.cls ≠ "java/lang/invoke/VarHandle" ∧ (parseMethodDescriptor yX1_moveWall.desc).map (fun d => d.parameters.length) = some 1 := by decide +kernel
abbrev rmX2_suspectsLeft : Room := { frames := 4, cells := 0, slots := 0, locals := 96 }
set_option maxHeartbeats 4000000 in
set_option maxRecDepth 100000 in
theorem tX2_suspectsLeft_b88 {K : Int32 → cS → Prop} (C : CallFix p m c cX2_suspectsLeft 5 s args wsX2_suspectsLeft RX2) (hR : Rti .int p l e rmX2_suspectsLeft s m args below meth c cX2_suspectsLeft D A (cT cI cL cF cM) (cWu h cI cL cF cM) K Q) {F : Nat → Nat → Int32} {L : Nat → Nat → Int64} {r : Nat → Nat → Nat} {x2 : Int32} (hh : wpX2_suspectsLeft_b88 F L r x2 K) {H : Heap} {locs : List Loc} {ls : Array Slot} (hw : Wd D A s (cT cI cL cF cM) (cW h cI cL cF cM F L r) H locs) (hl : lv_has ls 5 [(0, .ref (h 102)), (2, .int x2)]) : W p l e rmX2_suspectsLeft s m args below meth c H locs 0 0 Q (F0 m 88 ls []) := by
  unfold wpX2_suspectsLeft_b88 at hh
  refine lv_iload_n C.1 C.2.1 dX2_suspectsLeft_88 rfl (lv_at hl 1 rfl) ?_
  exact hR _ _ _ (F, L, r) _ _ dX2_suspectsLeft_89 rfl hh hw
set_option maxHeartbeats 4000000 in
set_option maxRecDepth 100000 in
theorem tX2_suspectsLeft_b82 {B9 : (Nat → Nat → Int32) → (Nat → Nat → Int64) → (Nat → Nat → Nat) → Int32 → Int32 → Int32 → Prop} {K : Int32 → cS → Prop} (C : CallFix p m c cX2_suspectsLeft 5 s args wsX2_suspectsLeft RX2) (hR : Rti .int p l e rmX2_suspectsLeft s m args below meth c cX2_suspectsLeft D A (cT cI cL cF cM) (cWu h cI cL cF cM) K Q) (hB9 : ∀ (F : Nat → Nat → Int32) (L : Nat → Nat → Int64) (r : Nat → Nat → Nat) (x1 : Int32) (x2 : Int32) (x3 : Int32) (H : Heap) (locs : List Loc) (ls : Array Slot), B9 F L r x1 x2 x3 → Wd D A s (cT cI cL cF cM) (cW h cI cL cF cM F L r) H locs → lv_has ls 5 [(0, .ref (h 102)), (1, .int x1), (2, .int x2), (3, .int x3)] → W p l e rmX2_suspectsLeft s m args below meth c H locs 0 0 Q (F0 m 9 ls [])) {F : Nat → Nat → Int32} {L : Nat → Nat → Int64} {r : Nat → Nat → Nat} {x1 : Int32} {x2 : Int32} {x3 : Int32} (hh : wpX2_suspectsLeft_b82 B9 F L r x1 x2 x3 K) {H : Heap} {locs : List Loc} {ls : Array Slot} (hw : Wd D A s (cT cI cL cF cM) (cW h cI cL cF cM F L r) H locs) (hl : lv_has ls 5 [(0, .ref (h 102)), (1, .int x1), (2, .int x2), (3, .int x3)]) : W p l e rmX2_suspectsLeft s m args below meth c H locs 0 0 Q (F0 m 82 ls []) := by
  unfold wpX2_suspectsLeft_b82 at hh
  refine lv_iinc (v := x3 + (1 : Int32)) (lv' := [(3, .int (x3 + (1 : Int32))), (0, .ref (h 102)), (1, .int x1), (2, .int x2)]) C.1 C.2.1 dX2_suspectsLeft_82 hl (k := 3) rfl rfl (by decide) rfl (fun ls hl => ?_)
  refine lv_goto (tgt := 9) C.1 C.2.1 dX2_suspectsLeft_85 (by decide) ?_
  exact hB9 _ _ _ _ _ _ _ _ _ hh hw (lv_sub hl [1, 2, 3, 0] rfl)
set_option maxHeartbeats 4000000 in
set_option maxRecDepth 100000 in
theorem tX2_suspectsLeft_b57 {B9 : (Nat → Nat → Int32) → (Nat → Nat → Int64) → (Nat → Nat → Nat) → Int32 → Int32 → Int32 → Prop} {K : Int32 → cS → Prop} (C : CallFix p m c cX2_suspectsLeft 5 s args wsX2_suspectsLeft RX2) (hR : Rti .int p l e rmX2_suspectsLeft s m args below meth c cX2_suspectsLeft D A (cT cI cL cF cM) (cWu h cI cL cF cM) K Q) (hB9 : ∀ (F : Nat → Nat → Int32) (L : Nat → Nat → Int64) (r : Nat → Nat → Nat) (x1 : Int32) (x2 : Int32) (x3 : Int32) (H : Heap) (locs : List Loc) (ls : Array Slot), B9 F L r x1 x2 x3 → Wd D A s (cT cI cL cF cM) (cW h cI cL cF cM F L r) H locs → lv_has ls 5 [(0, .ref (h 102)), (1, .int x1), (2, .int x2), (3, .int x3)] → W p l e rmX2_suspectsLeft s m args below meth c H locs 0 0 Q (F0 m 9 ls [])) {F : Nat → Nat → Int32} {L : Nat → Nat → Int64} {r : Nat → Nat → Nat} {x1 : Int32} {x2 : Int32} {x3 : Int32} {x4 : Int32} (hh : wpX2_suspectsLeft_b57 B9 F L r x1 x2 x3 x4 K) {H : Heap} {locs : List Loc} {ls : Array Slot} (hw : Wd D A s (cT cI cL cF cM) (cW h cI cL cF cM F L r) H locs) (hl : lv_has ls 5 [(0, .ref (h 102)), (1, .int x1), (2, .int x2), (3, .int x3), (4, .int x4)]) : W p l e rmX2_suspectsLeft s m args below meth c H locs 0 0 Q (F0 m 57 ls []) := by
  unfold wpX2_suspectsLeft_b57 at hh
  refine lv_aload_n C.1 C.2.1 dX2_suspectsLeft_57 rfl (lv_at hl 0 rfl) ?_
  refine c_get C hw (inC inW2) (kd_lt kp102 (by decide)) (ce2 kp102) rfl 1 (by decide) (wc w_531) (v := .int (F 102 1)) rfl dX2_suspectsLeft_58 ?_
  refine lv_iload C.1 C.2.1 dX2_suspectsLeft_61 (lv_at hl 4 rfl) ?_
  refine lv_iand C.1 C.2.1 dX2_suspectsLeft_63 ?_
  refine lv_if_eq (tgt := 82) C.1 C.2.1 dX2_suspectsLeft_64 (by decide) (fun c64 => ?_) (fun c64 => ?_)
  · replace hh := hh.1 c64
    exact tX2_suspectsLeft_b82 C hR hB9 hh hw (lv_sub hl [0, 1, 2, 3] rfl)
  · replace hh := hh.2 c64
    refine lv_aload_n C.1 C.2.1 dX2_suspectsLeft_67 rfl (lv_at hl 0 rfl) ?_
    refine lv_iload C.1 C.2.1 dX2_suspectsLeft_68 (lv_at hl 4 rfl) ?_
    refine lv_iload C.1 C.2.1 dX2_suspectsLeft_70 (lv_at hl 4 rfl) ?_
    refine lv_iload_n C.1 C.2.1 dX2_suspectsLeft_72 rfl (lv_at hl 1 rfl) ?_
    refine c_Vi C hw (ctX2_keepsTrack l D h cI cL cF cM F L r x4 x4 x1 hh) (cwV 3 C.2.2.2.2 (gd_V w_1285 w_1287 w_49 w_124 w_1288) rfl rfl rfl cdX2_keepsTrack ⟨Nat.le_of_ble_eq_true rfl, Nat.le_of_ble_eq_true rfl⟩) rfl (kd_lt kp102 (by decide)) (ce2 kp102) rfl hl.1 (Nat.le_of_ble_eq_true rfl) dX2_suspectsLeft_73 ⟨Nat.zero_le _, Nat.zero_le _⟩ (fun r73 u73 H locs hh hw => ?_) rfl
    refine lv_if_eq (tgt := 82) C.1 C.2.1 dX2_suspectsLeft_76 (by decide) (fun c76 => ?_) (fun c76 => ?_)
    · replace hh := hh.1 c76
      exact tX2_suspectsLeft_b82 C hR hB9 hh hw (lv_sub hl [0, 1, 2, 3] rfl)
    · replace hh := hh.2 c76
      refine lv_iinc (v := x2 + (1 : Int32)) (lv' := [(2, .int (x2 + (1 : Int32))), (0, .ref (h 102)), (1, .int x1), (3, .int x3), (4, .int x4)]) C.1 C.2.1 dX2_suspectsLeft_79 hl (k := 2) rfl rfl (by decide) rfl (fun ls hl => ?_)
      exact tX2_suspectsLeft_b82 C hR hB9 hh hw (lv_sub hl [1, 2, 0, 3] rfl)
set_option maxHeartbeats 4000000 in
set_option maxRecDepth 100000 in
theorem tX2_suspectsLeft_b9_body {B9 : (Nat → Nat → Int32) → (Nat → Nat → Int64) → (Nat → Nat → Nat) → Int32 → Int32 → Int32 → Prop} {K : Int32 → cS → Prop} (C : CallFix p m c cX2_suspectsLeft 5 s args wsX2_suspectsLeft RX2) (hR : Rti .int p l e rmX2_suspectsLeft s m args below meth c cX2_suspectsLeft D A (cT cI cL cF cM) (cWu h cI cL cF cM) K Q) (hB9 : ∀ (F : Nat → Nat → Int32) (L : Nat → Nat → Int64) (r : Nat → Nat → Nat) (x1 : Int32) (x2 : Int32) (x3 : Int32) (H : Heap) (locs : List Loc) (ls : Array Slot), B9 F L r x1 x2 x3 → Wd D A s (cT cI cL cF cM) (cW h cI cL cF cM F L r) H locs → lv_has ls 5 [(0, .ref (h 102)), (1, .int x1), (2, .int x2), (3, .int x3)] → W p l e rmX2_suspectsLeft s m args below meth c H locs 0 0 Q (F0 m 9 ls [])) {F : Nat → Nat → Int32} {L : Nat → Nat → Int64} {r : Nat → Nat → Nat} {x1 : Int32} {x2 : Int32} {x3 : Int32} (hh : wpX2_suspectsLeft_b9_body B9 F L r x1 x2 x3 K) {H : Heap} {locs : List Loc} {ls : Array Slot} (hw : Wd D A s (cT cI cL cF cM) (cW h cI cL cF cM F L r) H locs) (hl : lv_has ls 5 [(0, .ref (h 102)), (1, .int x1), (2, .int x2), (3, .int x3)]) : W p l e rmX2_suspectsLeft s m args below meth c H locs 0 0 Q (F0 m 9 ls []) := by
  unfold wpX2_suspectsLeft_b9_body at hh
  refine lv_iload_n C.1 C.2.1 dX2_suspectsLeft_9 rfl (lv_at hl 3 rfl) ?_
  refine lv_aload_n C.1 C.2.1 dX2_suspectsLeft_10 rfl (lv_at hl 0 rfl) ?_
  refine c_get C hw (inC inW2) (kd_lt kp102 (by decide)) (ce2 kp102) rfl 4 (by decide) (wc w_537) (v := .ref (h (r 102 4))) rfl dX2_suspectsLeft_11 ?_
  obtain ⟨hk0, hh⟩ := hh
  refine c_get C hw (inC inW4) (kd_lt hk0 (by decide)) (ce4 hk0) rfl 0 (by decide) (wc w_280) (v := .int (F (r 102 4) 0)) rfl dX2_suspectsLeft_14 ?_
  refine lv_icmp_ge (tgt := 88) C.1 C.2.1 dX2_suspectsLeft_17 (by decide) (fun c17 => ?_) (fun c17 => ?_)
  · replace hh := hh.1 c17
    exact tX2_suspectsLeft_b88 C hR hh hw (lv_sub hl [0, 2] rfl)
  · replace hh := hh.2 c17
    refine lv_iload_n C.1 C.2.1 dX2_suspectsLeft_20 rfl (lv_at hl 2 rfl) ?_
    refine lv_aload_n C.1 C.2.1 dX2_suspectsLeft_21 rfl (lv_at hl 0 rfl) ?_
    refine c_get C hw (inC inW2) (kd_lt kp102 (by decide)) (ce2 kp102) rfl 3 (by decide) (wc w_535) (v := .int (F 102 3)) rfl dX2_suspectsLeft_22 ?_
    refine lv_icmp_ge (tgt := 88) C.1 C.2.1 dX2_suspectsLeft_25 (by decide) (fun c25 => ?_) (fun c25 => ?_)
    · replace hh := hh.1 c25
      exact tX2_suspectsLeft_b88 C hR hh hw (lv_sub hl [0, 2] rfl)
    · replace hh := hh.2 c25
      refine lv_iconst (v := (1 : Int32)) C.1 C.2.1 dX2_suspectsLeft_28 (by decide) ?_
      refine lv_iload_n C.1 C.2.1 dX2_suspectsLeft_29 rfl (lv_at hl 3 rfl) ?_
      refine g_ishl C dX2_suspectsLeft_30 ?_
      refine lv_istore (lv' := [(4, .int (jshl (1 : Int32) x3)), (0, .ref (h 102)), (1, .int x1), (2, .int x2), (3, .int x3)]) C.1 C.2.1 dX2_suspectsLeft_31 hl (by decide) rfl (fun ls hl => ?_)
      refine lv_aload_n C.1 C.2.1 dX2_suspectsLeft_33 rfl (lv_at hl 1 rfl) ?_
      refine c_get C hw (inC inW2) (kd_lt kp102 (by decide)) (ce2 kp102) rfl 0 (by decide) (wc w_529) (v := .int (F 102 0)) rfl dX2_suspectsLeft_34 ?_
      refine lv_iload C.1 C.2.1 dX2_suspectsLeft_37 (lv_at hl 0 rfl) ?_
      refine lv_iand C.1 C.2.1 dX2_suspectsLeft_39 ?_
      refine lv_if_eq (tgt := 57) C.1 C.2.1 dX2_suspectsLeft_40 (by decide) (fun c40 => ?_) (fun c40 => ?_)
      · replace hh := hh.1 c40
        exact tX2_suspectsLeft_b57 C hR hB9 hh hw (lv_sub hl [1, 2, 3, 4, 0] rfl)
      · replace hh := hh.2 c40
        refine lv_aload_n C.1 C.2.1 dX2_suspectsLeft_43 rfl (lv_at hl 1 rfl) ?_
        refine lv_iload C.1 C.2.1 dX2_suspectsLeft_44 (lv_at hl 0 rfl) ?_
        refine lv_iconst (v := (0 : Int32)) C.1 C.2.1 dX2_suspectsLeft_46 (by decide) ?_
        refine lv_iload_n C.1 C.2.1 dX2_suspectsLeft_47 rfl (lv_at hl 2 rfl) ?_
        refine c_Vi C hw (ctX2_keepsTrack l D h cI cL cF cM F L r (jshl (1 : Int32) x3) (0 : Int32) x1 hh) (cwV 3 C.2.2.2.2 (gd_V w_1285 w_1287 w_49 w_124 w_1288) rfl rfl rfl cdX2_keepsTrack ⟨Nat.le_of_ble_eq_true rfl, Nat.le_of_ble_eq_true rfl⟩) rfl (kd_lt kp102 (by decide)) (ce2 kp102) rfl hl.1 (Nat.le_of_ble_eq_true rfl) dX2_suspectsLeft_48 ⟨Nat.zero_le _, Nat.zero_le _⟩ (fun r48 u48 H locs hh hw => ?_) rfl
        refine lv_if_eq (tgt := 57) C.1 C.2.1 dX2_suspectsLeft_51 (by decide) (fun c51 => ?_) (fun c51 => ?_)
        · replace hh := hh.1 c51
          exact tX2_suspectsLeft_b57 C hR hB9 hh hw (lv_sub hl [1, 2, 3, 4, 0] rfl)
        · replace hh := hh.2 c51
          refine lv_iinc (v := x2 + (1 : Int32)) (lv' := [(2, .int (x2 + (1 : Int32))), (4, .int (jshl (1 : Int32) x3)), (0, .ref (h 102)), (1, .int x1), (3, .int x3)]) C.1 C.2.1 dX2_suspectsLeft_54 hl (k := 3) rfl rfl (by decide) rfl (fun ls hl => ?_)
          exact tX2_suspectsLeft_b57 C hR hB9 hh hw (lv_sub hl [2, 3, 0, 4, 1] rfl)
theorem tX2_suspectsLeft_b9 {K : Int32 → cS → Prop} (C : CallFix p m c cX2_suspectsLeft 5 s args wsX2_suspectsLeft RX2) (hR : Rti .int p l e rmX2_suspectsLeft s m args below meth c cX2_suspectsLeft D A (cT cI cL cF cM) (cWu h cI cL cF cM) K Q) (n : Nat) : ∀ (F : Nat → Nat → Int32) (L : Nat → Nat → Int64) (r : Nat → Nat → Nat) (x1 : Int32) (x2 : Int32) (x3 : Int32) (H : Heap) (locs : List Loc) (ls : Array Slot), wpX2_suspectsLeft_b9 n F L r x1 x2 x3 K → Wd D A s (cT cI cL cF cM) (cW h cI cL cF cM F L r) H locs → lv_has ls 5 [(0, .ref (h 102)), (1, .int x1), (2, .int x2), (3, .int x3)] → W p l e rmX2_suspectsLeft s m args below meth c H locs 0 0 Q (F0 m 9 ls []) := by
  induction n with
  | zero => intro F L r x1 x2 x3 H locs ls hh; exact hh.elim
  | succ n ih => intro F L r x1 x2 x3 H locs ls hh hw hl; exact tX2_suspectsLeft_b9_body C hR ih hh hw hl
set_option maxHeartbeats 4000000 in
set_option maxRecDepth 100000 in
theorem tX2_suspectsLeft_b0 {K : Int32 → cS → Prop} (C : CallFix p m c cX2_suspectsLeft 5 s args wsX2_suspectsLeft RX2) (hR : Rti .int p l e rmX2_suspectsLeft s m args below meth c cX2_suspectsLeft D A (cT cI cL cF cM) (cWu h cI cL cF cM) K Q) {F : Nat → Nat → Int32} {L : Nat → Nat → Int64} {r : Nat → Nat → Nat} {x1 : Int32} (hh : wpX2_suspectsLeft_b0 F L r x1 K) {H : Heap} {locs : List Loc} {ls : Array Slot} (hw : Wd D A s (cT cI cL cF cM) (cW h cI cL cF cM F L r) H locs) (hl : lv_has ls 5 [(0, .ref (h 102)), (1, .int x1)]) : W p l e rmX2_suspectsLeft s m args below meth c H locs 0 0 Q (F0 m 0 ls []) := by
  unfold wpX2_suspectsLeft_b0 at hh
  refine lv_aload_n C.1 C.2.1 dX2_suspectsLeft_0 rfl (lv_at hl 0 rfl) ?_
  refine lv_iload_n C.1 C.2.1 dX2_suspectsLeft_1 rfl (lv_at hl 1 rfl) ?_
  refine c_Vv C hw (ctX2_recordTrack l D h cI cL cF cM F L r x1 hh) (cwV 1 C.2.2.2.2 (gd_V w_1277 w_1279 w_47 w_124 w_1280) rfl rfl rfl cdX2_recordTrack ⟨Nat.le_of_ble_eq_true rfl, Nat.le_of_ble_eq_true rfl⟩) rfl (kd_lt kp102 (by decide)) (ce2 kp102) rfl hl.1 (Nat.le_of_ble_eq_true rfl) dX2_suspectsLeft_2 ⟨Nat.zero_le _, Nat.zero_le _⟩ (fun u2 H locs hh hw => ?_) rfl
  refine lv_iconst (v := (0 : Int32)) C.1 C.2.1 dX2_suspectsLeft_5 (by decide) ?_
  refine lv_istore_n (lv' := [(2, .int (0 : Int32)), (0, .ref (h 102)), (1, .int x1)]) C.1 C.2.1 dX2_suspectsLeft_6 rfl hl (by decide) rfl (fun ls hl => ?_)
  refine lv_iconst (v := (0 : Int32)) C.1 C.2.1 dX2_suspectsLeft_7 (by decide) ?_
  refine lv_istore_n (lv' := [(3, .int (0 : Int32)), (2, .int (0 : Int32)), (0, .ref (h 102)), (1, .int x1)]) C.1 C.2.1 dX2_suspectsLeft_8 rfl hl (by decide) rfl (fun ls hl => ?_)
  obtain ⟨n, hh⟩ := hh
  exact tX2_suspectsLeft_b9 C hR n _ _ _ _ _ _ _ _ _ hh hw (lv_sub hl [2, 3, 1, 0] rfl)
theorem ctX2_suspectsLeft (l : Launch) (D : va_G) (h : Nat → Nat) (cI cL cF cM : ClassId) (F : Nat → Nat → Int32) (L : Nat → Nat → Int64) (r : Nat → Nat → Nat) (x1 : Int32) {K : Int32 → cS → Prop} (hh : wpX2_suspectsLeft F L r x1 K) : Ci l yX2_suspectsLeft wsX2_suspectsLeft rmX2_suspectsLeft [.ref (h 102), .int x1] D (cT cI cL cF cM) (cWu h cI cL cF cM) (F, L, r) K := by
  refine Ci_of (cc := cX2_suspectsLeft) (maxL := 5) (by decide) rfl (Nat.le_of_ble_eq_true rfl) ?_
  intro p e s m below meth c A Q C hw hR ls hl
  exact tX2_suspectsLeft_b0 C hR hh hw hl
theorem cdX2_suspectsLeft : yX2_suspectsLeft.cls = RX2 ∧ yX2_suspectsLeft.cls ≠ "java/lang/invoke/MethodHandle" ∧ yX2_suspectsLeft.cls ≠ "java/lang/invoke/VarHandle" ∧ (parseMethodDescriptor yX2_suspectsLeft.desc).map (fun d => d.parameters.length) = some 1 := by decide +kernel
abbrev rmX2_findBestWall : Room := { frames := 5, cells := 0, slots := 0, locals := 120 }
set_option maxHeartbeats 4000000 in
set_option maxRecDepth 100000 in
theorem tX2_findBestWall_b68 {B17 : (Nat → Nat → Int32) → (Nat → Nat → Int64) → (Nat → Nat → Nat) → Int32 → Int32 → Prop} {K : cS → Prop} (C : CallFix p m c cX2_findBestWall 4 s args wsX2_findBestWall RX2) (hR : Rtv p l e rmX2_findBestWall s m args below meth c cX2_findBestWall D A (cT cI cL cF cM) (cWu h cI cL cF cM) K Q) (hB17 : ∀ (F : Nat → Nat → Int32) (L : Nat → Nat → Int64) (r : Nat → Nat → Nat) (x1 : Int32) (x2 : Int32) (H : Heap) (locs : List Loc) (ls : Array Slot), B17 F L r x1 x2 → Wd D A s (cT cI cL cF cM) (cW h cI cL cF cM F L r) H locs → lv_has ls 4 [(0, .ref (h 102)), (1, .int x1), (2, .int x2)] → W p l e rmX2_findBestWall s m args below meth c H locs 0 0 Q (F0 m 17 ls [])) {F : Nat → Nat → Int32} {L : Nat → Nat → Int64} {r : Nat → Nat → Nat} {x1 : Int32} {x2 : Int32} (hh : wpX2_findBestWall_b68 B17 F L r x1 x2 K) {H : Heap} {locs : List Loc} {ls : Array Slot} (hw : Wd D A s (cT cI cL cF cM) (cW h cI cL cF cM F L r) H locs) (hl : lv_has ls 4 [(0, .ref (h 102)), (1, .int x1), (2, .int x2)]) : W p l e rmX2_findBestWall s m args below meth c H locs 0 0 Q (F0 m 68 ls []) := by
  unfold wpX2_findBestWall_b68 at hh
  refine lv_iinc (v := x2 + (1 : Int32)) (lv' := [(2, .int (x2 + (1 : Int32))), (0, .ref (h 102)), (1, .int x1)]) C.1 C.2.1 dX2_findBestWall_68 hl (k := 2) rfl rfl (by decide) rfl (fun ls hl => ?_)
  refine lv_goto (tgt := 17) C.1 C.2.1 dX2_findBestWall_71 (by decide) ?_
  exact hB17 _ _ _ _ _ _ _ _ hh hw (lv_sub hl [1, 2, 0] rfl)
set_option maxHeartbeats 4000000 in
set_option maxRecDepth 100000 in
theorem tX2_findBestWall_b17_body {B17 : (Nat → Nat → Int32) → (Nat → Nat → Int64) → (Nat → Nat → Nat) → Int32 → Int32 → Prop} {K : cS → Prop} (C : CallFix p m c cX2_findBestWall 4 s args wsX2_findBestWall RX2) (hR : Rtv p l e rmX2_findBestWall s m args below meth c cX2_findBestWall D A (cT cI cL cF cM) (cWu h cI cL cF cM) K Q) (hB17 : ∀ (F : Nat → Nat → Int32) (L : Nat → Nat → Int64) (r : Nat → Nat → Nat) (x1 : Int32) (x2 : Int32) (H : Heap) (locs : List Loc) (ls : Array Slot), B17 F L r x1 x2 → Wd D A s (cT cI cL cF cM) (cW h cI cL cF cM F L r) H locs → lv_has ls 4 [(0, .ref (h 102)), (1, .int x1), (2, .int x2)] → W p l e rmX2_findBestWall s m args below meth c H locs 0 0 Q (F0 m 17 ls [])) {F : Nat → Nat → Int32} {L : Nat → Nat → Int64} {r : Nat → Nat → Nat} {x1 : Int32} {x2 : Int32} (hh : wpX2_findBestWall_b17_body B17 F L r x1 x2 K) {H : Heap} {locs : List Loc} {ls : Array Slot} (hw : Wd D A s (cT cI cL cF cM) (cW h cI cL cF cM F L r) H locs) (hl : lv_has ls 4 [(0, .ref (h 102)), (1, .int x1), (2, .int x2)]) : W p l e rmX2_findBestWall s m args below meth c H locs 0 0 Q (F0 m 17 ls []) := by
  unfold wpX2_findBestWall_b17_body at hh
  refine lv_iload_n C.1 C.2.1 dX2_findBestWall_17 rfl (lv_at hl 2 rfl) ?_
  refine lv_aload_n C.1 C.2.1 dX2_findBestWall_18 rfl (lv_at hl 0 rfl) ?_
  refine c_get C hw (inC inW2) (kd_lt kp102 (by decide)) (ce2 kp102) rfl 7 (by decide) (wc w_540) (v := .ref (h 70)) rfl dX2_findBestWall_19 ?_
  refine c_Vi C hw (ctX1_wallNumbers l D h cI cL cF cM 70 kp70 F L r hh) (cwV 0 C.2.2.2.2 (gd_V w_1309 w_1100 w_1101 w_120 w_1102) rfl rfl rfl cdX1_wallNumbers ⟨Nat.le_of_ble_eq_true rfl, Nat.le_of_ble_eq_true rfl⟩) rfl (kd_lt kp70 (by decide)) (ce1 kp70) rfl hl.1 (Nat.le_of_ble_eq_true rfl) dX2_findBestWall_22 ⟨Nat.zero_le _, Nat.zero_le _⟩ (fun r22 u22 H locs hh hw => ?_) rfl
  refine lv_icmp_ge (tgt := 74) C.1 C.2.1 dX2_findBestWall_25 (by decide) (fun c25 => ?_) (fun c25 => ?_)
  · replace hh := hh.1 c25
    exact hR _ _ (u22.1, u22.2.1, u22.2.2) _ _ dX2_findBestWall_74 hh hw
  · replace hh := hh.2 c25
    refine lv_aload_n C.1 C.2.1 dX2_findBestWall_28 rfl (lv_at hl 0 rfl) ?_
    refine c_get C hw (inC inW2) (kd_lt kp102 (by decide)) (ce2 kp102) rfl 7 (by decide) (wc w_540) (v := .ref (h 70)) rfl dX2_findBestWall_29 ?_
    refine lv_iload_n C.1 C.2.1 dX2_findBestWall_32 rfl (lv_at hl 2 rfl) ?_
    refine c_Vv C hw (ctX1_moveWall l D h cI cL cF cM 70 kp70 u22.1 u22.2.1 u22.2.2 x2 hh) (cwV 1 C.2.2.2.2 (gd_V w_1310 w_1311 w_1312 w_120 w_1313) rfl rfl rfl cdX1_moveWall ⟨Nat.le_of_ble_eq_true rfl, Nat.le_of_ble_eq_true rfl⟩) rfl (kd_lt kp70 (by decide)) (ce1 kp70) rfl hl.1 (Nat.le_of_ble_eq_true rfl) dX2_findBestWall_33 ⟨Nat.zero_le _, Nat.zero_le _⟩ (fun u33 H locs hh hw => ?_) rfl
    refine lv_aload_n C.1 C.2.1 dX2_findBestWall_36 rfl (lv_at hl 0 rfl) ?_
    refine lv_iload_n C.1 C.2.1 dX2_findBestWall_37 rfl (lv_at hl 1 rfl) ?_
    refine c_Vi C hw (ctX2_suspectsLeft l D h cI cL cF cM u33.1 u33.2.1 u33.2.2 x1 hh) (cwV 1 C.2.2.2.2 (gd_V w_1315 w_1317 w_50 w_124 w_1318) rfl rfl rfl cdX2_suspectsLeft ⟨Nat.le_of_ble_eq_true rfl, Nat.le_of_ble_eq_true rfl⟩) rfl (kd_lt kp102 (by decide)) (ce2 kp102) rfl hl.1 (Nat.le_of_ble_eq_true rfl) dX2_findBestWall_38 ⟨Nat.zero_le _, Nat.zero_le _⟩ (fun r38 u38 H locs hh hw => ?_) rfl
    refine lv_istore_n (lv' := [(3, .int r38), (0, .ref (h 102)), (1, .int x1), (2, .int x2)]) C.1 C.2.1 dX2_findBestWall_41 rfl hl (by decide) rfl (fun ls hl => ?_)
    refine lv_aload_n C.1 C.2.1 dX2_findBestWall_42 rfl (lv_at hl 1 rfl) ?_
    refine c_get C hw (inC inW2) (kd_lt kp102 (by decide)) (ce2 kp102) rfl 7 (by decide) (wc w_540) (v := .ref (h 70)) rfl dX2_findBestWall_43 ?_
    refine lv_iload_n C.1 C.2.1 dX2_findBestWall_46 rfl (lv_at hl 3 rfl) ?_
    refine c_Vv C hw (ctX1_moveWall l D h cI cL cF cM 70 kp70 u38.1 u38.2.1 u38.2.2 x2 hh) (cwV 1 C.2.2.2.2 (gd_V w_1310 w_1311 w_1312 w_120 w_1313) rfl rfl rfl cdX1_moveWall ⟨Nat.le_of_ble_eq_true rfl, Nat.le_of_ble_eq_true rfl⟩) rfl (kd_lt kp70 (by decide)) (ce1 kp70) rfl hl.1 (Nat.le_of_ble_eq_true rfl) dX2_findBestWall_47 ⟨Nat.zero_le _, Nat.zero_le _⟩ (fun u47 H locs hh hw => ?_) rfl
    refine lv_iload_n C.1 C.2.1 dX2_findBestWall_50 rfl (lv_at hl 0 rfl) ?_
    refine lv_aload_n C.1 C.2.1 dX2_findBestWall_51 rfl (lv_at hl 1 rfl) ?_
    refine c_get C hw (inC inW2) (kd_lt kp102 (by decide)) (ce2 kp102) rfl 3 (by decide) (wc w_535) (v := .int (u47.1 102 3)) rfl dX2_findBestWall_52 ?_
    refine lv_icmp_ge (tgt := 68) C.1 C.2.1 dX2_findBestWall_55 (by decide) (fun c55 => ?_) (fun c55 => ?_)
    · replace hh := hh.1 c55
      exact tX2_findBestWall_b68 C hR hB17 hh hw (lv_sub hl [1, 2, 3] rfl)
    · replace hh := hh.2 c55
      refine lv_aload_n C.1 C.2.1 dX2_findBestWall_58 rfl (lv_at hl 1 rfl) ?_
      refine lv_iload_n C.1 C.2.1 dX2_findBestWall_59 rfl (lv_at hl 0 rfl) ?_
      refine c_puti C hw (inC inW2) tyX2 tyX2_ok nmX2 (kd_lt kp102 (by decide)) (ce2 kp102) rfl 3 (by decide) (wc w_535) rfl (ty := .int) (by decide +kernel) rfl rfl (Nat.le_of_ble_eq_true rfl) rfl dX2_findBestWall_60 (fun H locs hw => ?_)
      refine lv_aload_n C.1 C.2.1 dX2_findBestWall_63 rfl (lv_at hl 1 rfl) ?_
      refine lv_iload_n C.1 C.2.1 dX2_findBestWall_64 rfl (lv_at hl 3 rfl) ?_
      refine c_puti C hw (inC inW2) tyX2 tyX2_ok nmX2 (kd_lt kp102 (by decide)) (ce2 kp102) rfl 2 (by decide) (wc w_533) rfl (ty := .int) (by decide +kernel) rfl rfl (Nat.le_of_ble_eq_true rfl) rfl dX2_findBestWall_65 (fun H locs hw => ?_)
      exact tX2_findBestWall_b68 C hR hB17 hh hw (lv_sub hl [1, 2, 3] rfl)
theorem tX2_findBestWall_b17 {K : cS → Prop} (C : CallFix p m c cX2_findBestWall 4 s args wsX2_findBestWall RX2) (hR : Rtv p l e rmX2_findBestWall s m args below meth c cX2_findBestWall D A (cT cI cL cF cM) (cWu h cI cL cF cM) K Q) (n : Nat) : ∀ (F : Nat → Nat → Int32) (L : Nat → Nat → Int64) (r : Nat → Nat → Nat) (x1 : Int32) (x2 : Int32) (H : Heap) (locs : List Loc) (ls : Array Slot), wpX2_findBestWall_b17 n F L r x1 x2 K → Wd D A s (cT cI cL cF cM) (cW h cI cL cF cM F L r) H locs → lv_has ls 4 [(0, .ref (h 102)), (1, .int x1), (2, .int x2)] → W p l e rmX2_findBestWall s m args below meth c H locs 0 0 Q (F0 m 17 ls []) := by
  induction n with
  | zero => intro F L r x1 x2 H locs ls hh; exact hh.elim
  | succ n ih => intro F L r x1 x2 H locs ls hh hw hl; exact tX2_findBestWall_b17_body C hR ih hh hw hl
set_option maxHeartbeats 4000000 in
set_option maxRecDepth 100000 in
theorem tX2_findBestWall_b0 {K : cS → Prop} (C : CallFix p m c cX2_findBestWall 4 s args wsX2_findBestWall RX2) (hR : Rtv p l e rmX2_findBestWall s m args below meth c cX2_findBestWall D A (cT cI cL cF cM) (cWu h cI cL cF cM) K Q) {F : Nat → Nat → Int32} {L : Nat → Nat → Int64} {r : Nat → Nat → Nat} {x1 : Int32} (hh : wpX2_findBestWall_b0 F L r x1 K) {H : Heap} {locs : List Loc} {ls : Array Slot} (hw : Wd D A s (cT cI cL cF cM) (cW h cI cL cF cM F L r) H locs) (hl : lv_has ls 4 [(0, .ref (h 102)), (1, .int x1)]) : W p l e rmX2_findBestWall s m args below meth c H locs 0 0 Q (F0 m 0 ls []) := by
  unfold wpX2_findBestWall_b0 at hh
  refine lv_aload_n C.1 C.2.1 dX2_findBestWall_0 rfl (lv_at hl 0 rfl) ?_
  refine lv_iconst (v := (-1 : Int32)) C.1 C.2.1 dX2_findBestWall_1 (by decide) ?_
  refine c_puti C hw (inC inW2) tyX2 tyX2_ok nmX2 (kd_lt kp102 (by decide)) (ce2 kp102) rfl 2 (by decide) (wc w_533) rfl (ty := .int) (by decide +kernel) rfl rfl (Nat.le_of_ble_eq_true rfl) rfl dX2_findBestWall_2 (fun H locs hw => ?_)
  refine lv_aload_n C.1 C.2.1 dX2_findBestWall_5 rfl (lv_at hl 0 rfl) ?_
  refine lv_aload_n C.1 C.2.1 dX2_findBestWall_6 rfl (lv_at hl 0 rfl) ?_
  refine c_Vi C hw (ctX2_suspectCount l D h cI cL cF cM (pt F 102 2 (-1 : Int32)) L r hh) (cwV 0 C.2.2.2.2 (gd_V w_1308 w_1295 w_1296 w_124 w_1297) rfl rfl rfl cdX2_suspectCount ⟨Nat.le_of_ble_eq_true rfl, Nat.le_of_ble_eq_true rfl⟩) rfl (kd_lt kp102 (by decide)) (ce2 kp102) rfl hl.1 (Nat.le_of_ble_eq_true rfl) dX2_findBestWall_7 ⟨Nat.zero_le _, Nat.zero_le _⟩ (fun r7 u7 H locs hh hw => ?_) rfl
  refine lv_iconst (v := (1 : Int32)) C.1 C.2.1 dX2_findBestWall_10 (by decide) ?_
  refine lv_iadd C.1 C.2.1 dX2_findBestWall_11 ?_
  refine c_puti C hw (inC inW2) tyX2 tyX2_ok nmX2 (kd_lt kp102 (by decide)) (ce2 kp102) rfl 3 (by decide) (wc w_535) rfl (ty := .int) (by decide +kernel) rfl rfl (Nat.le_of_ble_eq_true rfl) rfl dX2_findBestWall_12 (fun H locs hw => ?_)
  refine lv_iconst (v := (0 : Int32)) C.1 C.2.1 dX2_findBestWall_15 (by decide) ?_
  refine lv_istore_n (lv' := [(2, .int (0 : Int32)), (0, .ref (h 102)), (1, .int x1)]) C.1 C.2.1 dX2_findBestWall_16 rfl hl (by decide) rfl (fun ls hl => ?_)
  obtain ⟨n, hh⟩ := hh
  exact tX2_findBestWall_b17 C hR n _ _ _ _ _ _ _ _ hh hw (lv_sub hl [1, 2, 0] rfl)
theorem ctX2_findBestWall (l : Launch) (D : va_G) (h : Nat → Nat) (cI cL cF cM : ClassId) (F : Nat → Nat → Int32) (L : Nat → Nat → Int64) (r : Nat → Nat → Nat) (x1 : Int32) {K : cS → Prop} (hh : wpX2_findBestWall F L r x1 K) : Cv l yX2_findBestWall wsX2_findBestWall rmX2_findBestWall [.ref (h 102), .int x1] D (cT cI cL cF cM) (cWu h cI cL cF cM) (F, L, r) K := by
  refine Cv_of (cc := cX2_findBestWall) (maxL := 4) (by decide) rfl (Nat.le_of_ble_eq_true rfl) ?_
  intro p e s m below meth c A Q C hw hR ls hl
  exact tX2_findBestWall_b0 C hR hh hw hl
theorem cdX2_findBestWall : yX2_findBestWall.cls = RX2 ∧ yX2_findBestWall.cls ≠ "java/lang/invoke/MethodHandle" ∧ yX2_findBestWall.cls ≠ "java/lang/invoke/VarHandle" ∧ (parseMethodDescriptor yX2_findBestWall.desc).map (fun d => d.parameters.length) = some 1 := by decide +kernel
abbrev rmX10_trial : Room := { frames := 6, cells := 0, slots := 0, locals := 143 }
set_option maxHeartbeats 4000000 in
set_option maxRecDepth 100000 in
theorem tX10_trial_b16 {K : Int32 → cS → Prop} (C : CallFix p m c cX10_trial 3 s args wsX10_trial RX10) (hR : Rti .int p l e rmX10_trial s m args below meth c cX10_trial D A (cT cI cL cF cM) (cWu h cI cL cF cM) K Q) {F : Nat → Nat → Int32} {L : Nat → Nat → Int64} {r : Nat → Nat → Nat} (hh : wpX10_trial_b16 F L r K) {H : Heap} {locs : List Loc} {ls : Array Slot} (hw : Wd D A s (cT cI cL cF cM) (cW h cI cL cF cM F L r) H locs) (hl : lv_has ls 3 [(0, .ref (h 0))]) : W p l e rmX10_trial s m args below meth c H locs 0 0 Q (F0 m 16 ls []) := by
  unfold wpX10_trial_b16 at hh
  refine lv_iconst (v := (-1 : Int32)) C.1 C.2.1 dX10_trial_16 (by decide) ?_
  exact hR _ _ _ (F, L, r) _ _ dX10_trial_17 rfl hh hw
set_option maxHeartbeats 4000000 in
set_option maxRecDepth 100000 in
theorem tX10_trial_b91 {K : Int32 → cS → Prop} (C : CallFix p m c cX10_trial 3 s args wsX10_trial RX10) (hR : Rti .int p l e rmX10_trial s m args below meth c cX10_trial D A (cT cI cL cF cM) (cWu h cI cL cF cM) K Q) {F : Nat → Nat → Int32} {L : Nat → Nat → Int64} {r : Nat → Nat → Nat} {k0 : Int32} (hh : wpX10_trial_b91 F L r k0 K) {H : Heap} {locs : List Loc} {ls : Array Slot} (hw : Wd D A s (cT cI cL cF cM) (cW h cI cL cF cM F L r) H locs) (hl : lv_has ls 3 [(0, .ref (h 0))]) : W p l e rmX10_trial s m args below meth c H locs 0 0 Q (F0 m 91 ls [.int k0]) := by
  unfold wpX10_trial_b91 at hh
  exact hR _ _ _ (F, L, r) _ _ dX10_trial_91 rfl hh hw
set_option maxHeartbeats 4000000 in
set_option maxRecDepth 100000 in
theorem tX10_trial_b0 {K : Int32 → cS → Prop} (C : CallFix p m c cX10_trial 3 s args wsX10_trial RX10) (hR : Rti .int p l e rmX10_trial s m args below meth c cX10_trial D A (cT cI cL cF cM) (cWu h cI cL cF cM) K Q) {F : Nat → Nat → Int32} {L : Nat → Nat → Int64} {r : Nat → Nat → Nat} {x1 : Int32} {x2 : Int32} (hh : wpX10_trial_b0 F L r x1 x2 K) {H : Heap} {locs : List Loc} {ls : Array Slot} (hw : Wd D A s (cT cI cL cF cM) (cW h cI cL cF cM F L r) H locs) (hl : lv_has ls 3 [(0, .ref (h 0)), (1, .int x1), (2, .int x2)]) : W p l e rmX10_trial s m args below meth c H locs 0 0 Q (F0 m 0 ls []) := by
  unfold wpX10_trial_b0 at hh
  refine lv_iload_n C.1 C.2.1 dX10_trial_0 rfl (lv_at hl 1 rfl) ?_
  refine wd_Si C hw (ctX2_isLength l D x1 hh) (va_cwS 1 C.2.2.2.2 (gd_S w_1235 w_1236 (ini_cls rfl w_124) w_1237) rfl rfl rfl cdX2_isLength ⟨Nat.le_of_ble_eq_true rfl, Nat.le_of_ble_eq_true rfl⟩) rfl hl.1 (Nat.le_of_ble_eq_true rfl) dX10_trial_1 ⟨Nat.zero_le _, Nat.zero_le _⟩ (fun r1 H locs hh hw => ?_) rfl
  refine lv_if_eq (tgt := 16) C.1 C.2.1 dX10_trial_4 (by decide) (fun c4 => ?_) (fun c4 => ?_)
  · replace hh := hh.1 c4
    exact tX10_trial_b16 C hR hh hw (lv_sub hl [0] rfl)
  · replace hh := hh.2 c4
    refine lv_iload_n C.1 C.2.1 dX10_trial_7 rfl (lv_at hl 2 rfl) ?_
    refine lv_if_lt (tgt := 16) C.1 C.2.1 dX10_trial_8 (by decide) (fun c8 => ?_) (fun c8 => ?_)
    · replace hh := hh.1 c8
      exact tX10_trial_b16 C hR hh hw (lv_sub hl [0] rfl)
    · replace hh := hh.2 c8
      refine lv_iload_n C.1 C.2.1 dX10_trial_11 rfl (lv_at hl 2 rfl) ?_
      refine lv_iconst (v := (1 : Int32)) C.1 C.2.1 dX10_trial_12 (by decide) ?_
      refine lv_icmp_le (tgt := 18) C.1 C.2.1 dX10_trial_13 (by decide) (fun c13 => ?_) (fun c13 => ?_)
      · replace hh := hh.1 c13
        refine lv_aload_n C.1 C.2.1 dX10_trial_18 rfl (lv_at hl 0 rfl) ?_
        refine c_get C hw (inC inW10) (kd_lt kp0 (by decide)) (ce10 kp0) rfl 14 (by decide) (wc w_584) (v := .ref (h 102)) rfl dX10_trial_19 ?_
        refine lv_aload_n C.1 C.2.1 dX10_trial_22 rfl (lv_at hl 0 rfl) ?_
        refine c_get C hw (inC inW10) (kd_lt kp0 (by decide)) (ce10 kp0) rfl 4 (by decide) (wc w_574) (v := .ref (h (r 0 4))) rfl dX10_trial_23 ?_
        refine lv_aload_n C.1 C.2.1 dX10_trial_26 rfl (lv_at hl 0 rfl) ?_
        refine c_get C hw (inC inW10) (kd_lt kp0 (by decide)) (ce10 kp0) rfl 6 (by decide) (wc w_576) (v := .ref (h 74)) rfl dX10_trial_27 ?_
        refine lv_aload_n C.1 C.2.1 dX10_trial_30 rfl (lv_at hl 0 rfl) ?_
        refine c_get C hw (inC inW10) (kd_lt kp0 (by decide)) (ce10 kp0) rfl 5 (by decide) (wc w_575) (v := .ref (h 46)) rfl dX10_trial_31 ?_
        refine lv_aload_n C.1 C.2.1 dX10_trial_34 rfl (lv_at hl 0 rfl) ?_
        refine c_get C hw (inC inW10) (kd_lt kp0 (by decide)) (ce10 kp0) rfl 7 (by decide) (wc w_577) (v := .ref (h 43)) rfl dX10_trial_35 ?_
        obtain ⟨hk0, hh⟩ := hh
        refine c_Vv C hw (ctX2_begin l D h cI cL cF cM (r 0 4) 74 46 43 hk0 kp74 kp46 kp43 F L r hh) (cwV 4 C.2.2.2.2 (gd_V w_1238 w_1239 w_1240 w_124 w_1241) rfl rfl rfl cdX2_begin ⟨Nat.le_of_ble_eq_true rfl, Nat.le_of_ble_eq_true rfl⟩) rfl (kd_lt kp102 (by decide)) (ce2 kp102) rfl hl.1 (Nat.le_of_ble_eq_true rfl) dX10_trial_38 ⟨Nat.zero_le _, Nat.zero_le _⟩ (fun u38 H locs hh hw => ?_) rfl
        refine lv_aload_n C.1 C.2.1 dX10_trial_41 rfl (lv_at hl 0 rfl) ?_
        refine c_get C hw (inC inW10) (kd_lt kp0 (by decide)) (ce10 kp0) rfl 14 (by decide) (wc w_584) (v := .ref (h 102)) rfl dX10_trial_42 ?_
        refine lv_iload_n C.1 C.2.1 dX10_trial_45 rfl (lv_at hl 1 rfl) ?_
        refine c_Vv C hw (ctX2_findSuspects l D h cI cL cF cM u38.1 u38.2.1 u38.2.2 x1 hh) (cwV 1 C.2.2.2.2 (gd_V w_1273 w_1274 w_1275 w_124 w_1276) rfl rfl rfl cdX2_findSuspects ⟨Nat.le_of_ble_eq_true rfl, Nat.le_of_ble_eq_true rfl⟩) rfl (kd_lt kp102 (by decide)) (ce2 kp102) rfl hl.1 (Nat.le_of_ble_eq_true rfl) dX10_trial_46 ⟨Nat.zero_le _, Nat.zero_le _⟩ (fun u46 H locs hh hw => ?_) rfl
        refine lv_aload_n C.1 C.2.1 dX10_trial_49 rfl (lv_at hl 0 rfl) ?_
        refine c_get C hw (inC inW10) (kd_lt kp0 (by decide)) (ce10 kp0) rfl 14 (by decide) (wc w_584) (v := .ref (h 102)) rfl dX10_trial_50 ?_
        refine c_Vi C hw (ctX2_suspectCount l D h cI cL cF cM u46.1 u46.2.1 u46.2.2 hh) (cwV 0 C.2.2.2.2 (gd_V w_1294 w_1295 w_1296 w_124 w_1297) rfl rfl rfl cdX2_suspectCount ⟨Nat.le_of_ble_eq_true rfl, Nat.le_of_ble_eq_true rfl⟩) rfl (kd_lt kp102 (by decide)) (ce2 kp102) rfl hl.1 (Nat.le_of_ble_eq_true rfl) dX10_trial_53 ⟨Nat.zero_le _, Nat.zero_le _⟩ (fun r53 u53 H locs hh hw => ?_) rfl
        refine lv_iconst (v := (2 : Int32)) C.1 C.2.1 dX10_trial_56 (by decide) ?_
        refine lv_icmp_ge (tgt := 62) C.1 C.2.1 dX10_trial_57 (by decide) (fun c57 => ?_) (fun c57 => ?_)
        · replace hh := hh.1 c57
          refine lv_aload_n C.1 C.2.1 dX10_trial_62 rfl (lv_at hl 0 rfl) ?_
          refine c_get C hw (inC inW10) (kd_lt kp0 (by decide)) (ce10 kp0) rfl 14 (by decide) (wc w_584) (v := .ref (h 102)) rfl dX10_trial_63 ?_
          refine lv_iload_n C.1 C.2.1 dX10_trial_66 rfl (lv_at hl 1 rfl) ?_
          refine c_Vv C hw (ctX2_findBestWall l D h cI cL cF cM u53.1 u53.2.1 u53.2.2 x1 hh) (cwV 1 C.2.2.2.2 (gd_V w_1304 w_1305 w_1306 w_124 w_1307) rfl rfl rfl cdX2_findBestWall ⟨Nat.le_of_ble_eq_true rfl, Nat.le_of_ble_eq_true rfl⟩) rfl (kd_lt kp102 (by decide)) (ce2 kp102) rfl hl.1 (Nat.le_of_ble_eq_true rfl) dX10_trial_67 ⟨Nat.zero_le _, Nat.zero_le _⟩ (fun u67 H locs hh hw => ?_) rfl
          refine lv_iload_n C.1 C.2.1 dX10_trial_70 rfl (lv_at hl 2 rfl) ?_
          refine lv_if_ne (tgt := 84) C.1 C.2.1 dX10_trial_71 (by decide) (fun c71 => ?_) (fun c71 => ?_)
          · replace hh := hh.1 c71
            refine lv_aload_n C.1 C.2.1 dX10_trial_84 rfl (lv_at hl 0 rfl) ?_
            refine c_get C hw (inC inW10) (kd_lt kp0 (by decide)) (ce10 kp0) rfl 14 (by decide) (wc w_584) (v := .ref (h 102)) rfl dX10_trial_85 ?_
            refine c_get C hw (inC inW2) (kd_lt kp102 (by decide)) (ce2 kp102) rfl 3 (by decide) (wc w_536) (v := .int (u67.1 102 3)) rfl dX10_trial_88 ?_
            exact tX10_trial_b91 C hR hh hw (lv_sub hl [0] rfl)
          · replace hh := hh.2 c71
            refine lv_aload_n C.1 C.2.1 dX10_trial_74 rfl (lv_at hl 0 rfl) ?_
            refine c_get C hw (inC inW10) (kd_lt kp0 (by decide)) (ce10 kp0) rfl 14 (by decide) (wc w_584) (v := .ref (h 102)) rfl dX10_trial_75 ?_
            refine c_get C hw (inC inW2) (kd_lt kp102 (by decide)) (ce2 kp102) rfl 2 (by decide) (wc w_534) (v := .int (u67.1 102 2)) rfl dX10_trial_78 ?_
            refine lv_goto (tgt := 91) C.1 C.2.1 dX10_trial_81 (by decide) ?_
            exact tX10_trial_b91 C hR hh hw (lv_sub hl [0] rfl)
        · replace hh := hh.2 c57
          refine lv_iconst (v := (-1 : Int32)) C.1 C.2.1 dX10_trial_60 (by decide) ?_
          exact hR _ _ _ (u53.1, u53.2.1, u53.2.2) _ _ dX10_trial_61 rfl hh hw
      · replace hh := hh.2 c13
        exact tX10_trial_b16 C hR hh hw (lv_sub hl [0] rfl)
theorem ctX10_trial (l : Launch) (D : va_G) (h : Nat → Nat) (cI cL cF cM : ClassId) (F : Nat → Nat → Int32) (L : Nat → Nat → Int64) (r : Nat → Nat → Nat) (x1 : Int32) (x2 : Int32) {K : Int32 → cS → Prop} (hh : wpX10_trial F L r x1 x2 K) : Ci l yX10_trial wsX10_trial rmX10_trial [.ref (h 0), .int x1, .int x2] D (cT cI cL cF cM) (cWu h cI cL cF cM) (F, L, r) K := by
  refine Ci_of (cc := cX10_trial) (maxL := 3) (by decide) rfl (Nat.le_of_ble_eq_true rfl) ?_
  intro p e s m below meth c A Q C hw hR ls hl
  exact tX10_trial_b0 C hR hh hw hl
theorem cdX10_trial : yX10_trial.cls = RX10 ∧ yX10_trial.cls ≠ "java/lang/invoke/MethodHandle" ∧ yX10_trial.cls ≠ "java/lang/invoke/VarHandle" ∧ (parseMethodDescriptor yX10_trial.desc).map (fun d => d.parameters.length) = some 2 := by decide +kernel
abbrev rmX10_keep : Room := { frames := 1, cells := 0, slots := 0, locals := 22 }
set_option maxHeartbeats 4000000 in
set_option maxRecDepth 100000 in
theorem tX10_keep_b9 {K : Int32 → cS → Prop} (C : CallFix p m c cX10_keep 2 s args wsX10_keep RX10) (hR : Rti .boolean p l e rmX10_keep s m args below meth c cX10_keep D A (cT cI cL cF cM) (cWu h cI cL cF cM) K Q) {F : Nat → Nat → Int32} {L : Nat → Nat → Int64} {r : Nat → Nat → Nat} (hh : wpX10_keep_b9 F L r K) {H : Heap} {locs : List Loc} {ls : Array Slot} (hw : Wd D A s (cT cI cL cF cM) (cW h cI cL cF cM F L r) H locs) (hl : lv_has ls 2 [(0, .ref (h 0))]) : W p l e rmX10_keep s m args below meth c H locs 0 0 Q (F0 m 9 ls []) := by
  unfold wpX10_keep_b9 at hh
  refine lv_iconst (v := (0 : Int32)) C.1 C.2.1 dX10_keep_9 (by decide) ?_
  exact hR _ _ _ (F, L, r) _ _ dX10_keep_10 rfl hh hw
set_option maxHeartbeats 4000000 in
set_option maxRecDepth 100000 in
theorem tX10_keep_b0 {K : Int32 → cS → Prop} (C : CallFix p m c cX10_keep 2 s args wsX10_keep RX10) (hR : Rti .boolean p l e rmX10_keep s m args below meth c cX10_keep D A (cT cI cL cF cM) (cWu h cI cL cF cM) K Q) {F : Nat → Nat → Int32} {L : Nat → Nat → Int64} {r : Nat → Nat → Nat} {x1 : Int32} (hh : wpX10_keep_b0 F L r x1 K) {H : Heap} {locs : List Loc} {ls : Array Slot} (hw : Wd D A s (cT cI cL cF cM) (cW h cI cL cF cM F L r) H locs) (hl : lv_has ls 2 [(0, .ref (h 0)), (1, .int x1)]) : W p l e rmX10_keep s m args below meth c H locs 0 0 Q (F0 m 0 ls []) := by
  unfold wpX10_keep_b0 at hh
  refine lv_iload_n C.1 C.2.1 dX10_keep_0 rfl (lv_at hl 1 rfl) ?_
  refine lv_if_lt (tgt := 9) C.1 C.2.1 dX10_keep_1 (by decide) (fun c1 => ?_) (fun c1 => ?_)
  · replace hh := hh.1 c1
    exact tX10_keep_b9 C hR hh hw (lv_sub hl [0] rfl)
  · replace hh := hh.2 c1
    refine lv_iload_n C.1 C.2.1 dX10_keep_4 rfl (lv_at hl 1 rfl) ?_
    refine lv_iconst (v := (4 : Int32)) C.1 C.2.1 dX10_keep_5 (by decide) ?_
    refine lv_icmp_lt (tgt := 11) C.1 C.2.1 dX10_keep_6 (by decide) (fun c6 => ?_) (fun c6 => ?_)
    · replace hh := hh.1 c6
      refine lv_aload_n C.1 C.2.1 dX10_keep_11 rfl (lv_at hl 0 rfl) ?_
      refine c_get C hw (inC inW10) (kd_lt kp0 (by decide)) (ce10 kp0) rfl 8 (by decide) (wc w_578) (v := .ref (h 1)) rfl dX10_keep_12 ?_
      refine lv_iload_n C.1 C.2.1 dX10_keep_15 rfl (lv_at hl 1 rfl) ?_
      obtain ⟨hi16, hh⟩ := hh
      refine c_aal (t0 := 2) C hw (kd_lt kp1 (by decide)) (ce24 kp1) rfl hi16 dX10_keep_16 ?_
      refine lv_aload_n C.1 C.2.1 dX10_keep_17 rfl (lv_at hl 0 rfl) ?_
      refine c_get C hw (inC inW10) (kd_lt kp0 (by decide)) (ce10 kp0) rfl 5 (by decide) (wc w_575) (v := .ref (h 46)) rfl dX10_keep_18 ?_
      refine c_Vv C hw (ctX1_copyFrom l D h cI cL cF cM (50 + 4 * ix x1) 46 (kdF hi16) kp46 F L r hh) (cwV 1 C.2.2.2.2 (gd_V w_1323 w_1247 w_1248 w_120 w_1249) rfl rfl rfl cdX1_copyFrom ⟨Nat.le_of_ble_eq_true rfl, Nat.le_of_ble_eq_true rfl⟩) rfl (kd_lt (kdF hi16) (by decide)) (ce1 (kdF hi16)) rfl hl.1 (Nat.le_of_ble_eq_true rfl) dX10_keep_21 ⟨Nat.zero_le _, Nat.zero_le _⟩ (fun u21 H locs hh hw => ?_) rfl
      refine lv_aload_n C.1 C.2.1 dX10_keep_24 rfl (lv_at hl 0 rfl) ?_
      refine c_get C hw (inC inW10) (kd_lt kp0 (by decide)) (ce10 kp0) rfl 9 (by decide) (wc w_579) (v := .ref (h 2)) rfl dX10_keep_25 ?_
      refine lv_iload_n C.1 C.2.1 dX10_keep_28 rfl (lv_at hl 1 rfl) ?_
      obtain ⟨hi29, hh⟩ := hh
      refine c_aal (t0 := 3) C hw (kd_lt kp2 (by decide)) (ce25 kp2) rfl hi29 dX10_keep_29 ?_
      refine lv_aload_n C.1 C.2.1 dX10_keep_30 rfl (lv_at hl 0 rfl) ?_
      refine c_get C hw (inC inW10) (kd_lt kp0 (by decide)) (ce10 kp0) rfl 6 (by decide) (wc w_576) (v := .ref (h 74)) rfl dX10_keep_31 ?_
      refine c_Vv C hw (ctX3_copyFrom l D h cI cL cF cM (76 + 2 * ix x1) 74 (kdM hi29) kp74 u21.1 u21.2.1 u21.2.2 hh) (cwV 1 C.2.2.2.2 (gd_V w_1324 w_1243 w_1244 w_121 w_1245) rfl rfl rfl cdX3_copyFrom ⟨Nat.le_of_ble_eq_true rfl, Nat.le_of_ble_eq_true rfl⟩) rfl (kd_lt (kdM hi29) (by decide)) (ce3 (kdM hi29)) rfl hl.1 (Nat.le_of_ble_eq_true rfl) dX10_keep_34 ⟨Nat.zero_le _, Nat.zero_le _⟩ (fun u34 H locs hh hw => ?_) rfl
      refine lv_aload_n C.1 C.2.1 dX10_keep_37 rfl (lv_at hl 0 rfl) ?_
      refine c_get C hw (inC inW10) (kd_lt kp0 (by decide)) (ce10 kp0) rfl 10 (by decide) (wc w_580) (v := .ref (h 3)) rfl dX10_keep_38 ?_
      refine lv_iload_n C.1 C.2.1 dX10_keep_41 rfl (lv_at hl 1 rfl) ?_
      refine lv_aload_n C.1 C.2.1 dX10_keep_42 rfl (lv_at hl 0 rfl) ?_
      refine c_get C hw (inC inW10) (kd_lt kp0 (by decide)) (ce10 kp0) rfl 7 (by decide) (wc w_577) (v := .ref (h 43)) rfl dX10_keep_43 ?_
      refine c_get C hw (inC inW0) (kd_lt kp43 (by decide)) (ce0 kp43) rfl 0 (by decide) (wc w_440) (v := .int (u34.1 43 0)) rfl dX10_keep_46 ?_
      obtain ⟨hi49, hh⟩ := hh
      refine c_ias C hw (kd_lt kp3 (by decide)) (ce12 kp3) hi49 dX10_keep_49 (fun H locs hw => ?_)
      refine lv_aload_n C.1 C.2.1 dX10_keep_50 rfl (lv_at hl 0 rfl) ?_
      refine lv_dup C.1 C.2.1 dX10_keep_51 rfl ?_
      refine c_get C hw (inC inW10) (kd_lt kp0 (by decide)) (ce10 kp0) rfl 11 (by decide) (wc w_581) (v := .int ((pt u34.1 3 (ix x1) (u34.1 43 0)) 0 11)) rfl dX10_keep_52 ?_
      refine lv_iconst (v := (1 : Int32)) C.1 C.2.1 dX10_keep_55 (by decide) ?_
      refine lv_iload_n C.1 C.2.1 dX10_keep_56 rfl (lv_at hl 1 rfl) ?_
      refine g_ishl C dX10_keep_57 ?_
      refine lv_ior C.1 C.2.1 dX10_keep_58 ?_
      refine c_puti C hw (inC inW10) tyX10 tyX10_ok nmX10 (kd_lt kp0 (by decide)) (ce10 kp0) rfl 11 (by decide) (wc w_581) rfl (ty := .int) (by decide +kernel) rfl rfl (Nat.le_of_ble_eq_true rfl) rfl dX10_keep_59 (fun H locs hw => ?_)
      refine lv_iconst (v := (1 : Int32)) C.1 C.2.1 dX10_keep_62 (by decide) ?_
      exact hR _ _ _ (pt (pt u34.1 3 (ix x1) (u34.1 43 0)) 0 11 (((pt u34.1 3 (ix x1) (u34.1 43 0)) 0 11) ||| (jshl (1 : Int32) x1)), u34.2.1, u34.2.2) _ _ dX10_keep_63 rfl hh hw
    · replace hh := hh.2 c6
      exact tX10_keep_b9 C hR hh hw (lv_sub hl [0] rfl)
theorem ctX10_keep (l : Launch) (D : va_G) (h : Nat → Nat) (cI cL cF cM : ClassId) (F : Nat → Nat → Int32) (L : Nat → Nat → Int64) (r : Nat → Nat → Nat) (x1 : Int32) {K : Int32 → cS → Prop} (hh : wpX10_keep F L r x1 K) : Ci l yX10_keep wsX10_keep rmX10_keep [.ref (h 0), .int x1] D (cT cI cL cF cM) (cWu h cI cL cF cM) (F, L, r) K := by
  refine Ci_of (cc := cX10_keep) (maxL := 2) (by decide) rfl (Nat.le_of_ble_eq_true rfl) ?_
  intro p e s m below meth c A Q C hw hR ls hl
  exact tX10_keep_b0 C hR hh hw hl
theorem cdX10_keep : yX10_keep.cls = RX10 ∧ yX10_keep.cls ≠ "java/lang/invoke/MethodHandle" ∧ yX10_keep.cls ≠ "java/lang/invoke/VarHandle" ∧ (parseMethodDescriptor yX10_keep.desc).map (fun d => d.parameters.length) = some 1 := by decide +kernel
abbrev rmX10_restore : Room := { frames := 1, cells := 0, slots := 0, locals := 22 }
set_option maxHeartbeats 4000000 in
set_option maxRecDepth 100000 in
theorem tX10_restore_b20 {K : Int32 → cS → Prop} (C : CallFix p m c cX10_restore 2 s args wsX10_restore RX10) (hR : Rti .boolean p l e rmX10_restore s m args below meth c cX10_restore D A (cT cI cL cF cM) (cWu h cI cL cF cM) K Q) {F : Nat → Nat → Int32} {L : Nat → Nat → Int64} {r : Nat → Nat → Nat} (hh : wpX10_restore_b20 F L r K) {H : Heap} {locs : List Loc} {ls : Array Slot} (hw : Wd D A s (cT cI cL cF cM) (cW h cI cL cF cM F L r) H locs) (hl : lv_has ls 2 [(0, .ref (h 0))]) : W p l e rmX10_restore s m args below meth c H locs 0 0 Q (F0 m 20 ls []) := by
  unfold wpX10_restore_b20 at hh
  refine lv_iconst (v := (0 : Int32)) C.1 C.2.1 dX10_restore_20 (by decide) ?_
  exact hR _ _ _ (F, L, r) _ _ dX10_restore_21 rfl hh hw
set_option maxHeartbeats 4000000 in
set_option maxRecDepth 100000 in
theorem tX10_restore_b0 {K : Int32 → cS → Prop} (C : CallFix p m c cX10_restore 2 s args wsX10_restore RX10) (hR : Rti .boolean p l e rmX10_restore s m args below meth c cX10_restore D A (cT cI cL cF cM) (cWu h cI cL cF cM) K Q) {F : Nat → Nat → Int32} {L : Nat → Nat → Int64} {r : Nat → Nat → Nat} {x1 : Int32} (hh : wpX10_restore_b0 F L r x1 K) {H : Heap} {locs : List Loc} {ls : Array Slot} (hw : Wd D A s (cT cI cL cF cM) (cW h cI cL cF cM F L r) H locs) (hl : lv_has ls 2 [(0, .ref (h 0)), (1, .int x1)]) : W p l e rmX10_restore s m args below meth c H locs 0 0 Q (F0 m 0 ls []) := by
  unfold wpX10_restore_b0 at hh
  refine lv_iload_n C.1 C.2.1 dX10_restore_0 rfl (lv_at hl 1 rfl) ?_
  refine lv_if_lt (tgt := 20) C.1 C.2.1 dX10_restore_1 (by decide) (fun c1 => ?_) (fun c1 => ?_)
  · replace hh := hh.1 c1
    exact tX10_restore_b20 C hR hh hw (lv_sub hl [0] rfl)
  · replace hh := hh.2 c1
    refine lv_iload_n C.1 C.2.1 dX10_restore_4 rfl (lv_at hl 1 rfl) ?_
    refine lv_iconst (v := (4 : Int32)) C.1 C.2.1 dX10_restore_5 (by decide) ?_
    refine lv_icmp_ge (tgt := 20) C.1 C.2.1 dX10_restore_6 (by decide) (fun c6 => ?_) (fun c6 => ?_)
    · replace hh := hh.1 c6
      exact tX10_restore_b20 C hR hh hw (lv_sub hl [0] rfl)
    · replace hh := hh.2 c6
      refine lv_aload_n C.1 C.2.1 dX10_restore_9 rfl (lv_at hl 0 rfl) ?_
      refine c_get C hw (inC inW10) (kd_lt kp0 (by decide)) (ce10 kp0) rfl 11 (by decide) (wc w_581) (v := .int (F 0 11)) rfl dX10_restore_10 ?_
      refine lv_iload_n C.1 C.2.1 dX10_restore_13 rfl (lv_at hl 1 rfl) ?_
      refine g_ishr C dX10_restore_14 ?_
      refine lv_iconst (v := (1 : Int32)) C.1 C.2.1 dX10_restore_15 (by decide) ?_
      refine lv_iand C.1 C.2.1 dX10_restore_16 ?_
      refine lv_if_ne (tgt := 22) C.1 C.2.1 dX10_restore_17 (by decide) (fun c17 => ?_) (fun c17 => ?_)
      · replace hh := hh.1 c17
        refine lv_aload_n C.1 C.2.1 dX10_restore_22 rfl (lv_at hl 0 rfl) ?_
        refine c_get C hw (inC inW10) (kd_lt kp0 (by decide)) (ce10 kp0) rfl 5 (by decide) (wc w_575) (v := .ref (h 46)) rfl dX10_restore_23 ?_
        refine lv_aload_n C.1 C.2.1 dX10_restore_26 rfl (lv_at hl 0 rfl) ?_
        refine c_get C hw (inC inW10) (kd_lt kp0 (by decide)) (ce10 kp0) rfl 8 (by decide) (wc w_578) (v := .ref (h 1)) rfl dX10_restore_27 ?_
        refine lv_iload_n C.1 C.2.1 dX10_restore_30 rfl (lv_at hl 1 rfl) ?_
        obtain ⟨hi31, hh⟩ := hh
        refine c_aal (t0 := 2) C hw (kd_lt kp1 (by decide)) (ce24 kp1) rfl hi31 dX10_restore_31 ?_
        refine c_Vv C hw (ctX1_copyFrom l D h cI cL cF cM 46 (50 + 4 * ix x1) kp46 (kdF hi31) F L r hh) (cwV 1 C.2.2.2.2 (gd_V w_1323 w_1247 w_1248 w_120 w_1249) rfl rfl rfl cdX1_copyFrom ⟨Nat.le_of_ble_eq_true rfl, Nat.le_of_ble_eq_true rfl⟩) rfl (kd_lt kp46 (by decide)) (ce1 kp46) rfl hl.1 (Nat.le_of_ble_eq_true rfl) dX10_restore_32 ⟨Nat.zero_le _, Nat.zero_le _⟩ (fun u32 H locs hh hw => ?_) rfl
        refine lv_aload_n C.1 C.2.1 dX10_restore_35 rfl (lv_at hl 0 rfl) ?_
        refine c_get C hw (inC inW10) (kd_lt kp0 (by decide)) (ce10 kp0) rfl 6 (by decide) (wc w_576) (v := .ref (h 74)) rfl dX10_restore_36 ?_
        refine lv_aload_n C.1 C.2.1 dX10_restore_39 rfl (lv_at hl 0 rfl) ?_
        refine c_get C hw (inC inW10) (kd_lt kp0 (by decide)) (ce10 kp0) rfl 9 (by decide) (wc w_579) (v := .ref (h 2)) rfl dX10_restore_40 ?_
        refine lv_iload_n C.1 C.2.1 dX10_restore_43 rfl (lv_at hl 1 rfl) ?_
        obtain ⟨hi44, hh⟩ := hh
        refine c_aal (t0 := 3) C hw (kd_lt kp2 (by decide)) (ce25 kp2) rfl hi44 dX10_restore_44 ?_
        refine c_Vv C hw (ctX3_copyFrom l D h cI cL cF cM 74 (76 + 2 * ix x1) kp74 (kdM hi44) u32.1 u32.2.1 u32.2.2 hh) (cwV 1 C.2.2.2.2 (gd_V w_1324 w_1243 w_1244 w_121 w_1245) rfl rfl rfl cdX3_copyFrom ⟨Nat.le_of_ble_eq_true rfl, Nat.le_of_ble_eq_true rfl⟩) rfl (kd_lt kp74 (by decide)) (ce3 kp74) rfl hl.1 (Nat.le_of_ble_eq_true rfl) dX10_restore_45 ⟨Nat.zero_le _, Nat.zero_le _⟩ (fun u45 H locs hh hw => ?_) rfl
        refine lv_aload_n C.1 C.2.1 dX10_restore_48 rfl (lv_at hl 0 rfl) ?_
        refine c_get C hw (inC inW10) (kd_lt kp0 (by decide)) (ce10 kp0) rfl 7 (by decide) (wc w_577) (v := .ref (h 43)) rfl dX10_restore_49 ?_
        refine lv_aload_n C.1 C.2.1 dX10_restore_52 rfl (lv_at hl 0 rfl) ?_
        refine c_get C hw (inC inW10) (kd_lt kp0 (by decide)) (ce10 kp0) rfl 10 (by decide) (wc w_580) (v := .ref (h 3)) rfl dX10_restore_53 ?_
        refine lv_iload_n C.1 C.2.1 dX10_restore_56 rfl (lv_at hl 1 rfl) ?_
        obtain ⟨hi57, hh⟩ := hh
        refine c_ial C hw (kd_lt kp3 (by decide)) (ce12 kp3) hi57 dX10_restore_57 ?_
        refine c_Vv C hw (ctX0_settle l D h cI cL cF cM 43 kp43 u45.1 u45.2.1 u45.2.2 (u45.1 3 (ix x1)) hh) (cwV 1 C.2.2.2.2 (gd_V w_1329 w_930 w_931 w_122 w_932) rfl rfl rfl cdX0_settle ⟨Nat.le_of_ble_eq_true rfl, Nat.le_of_ble_eq_true rfl⟩) rfl (kd_lt kp43 (by decide)) (ce0 kp43) rfl hl.1 (Nat.le_of_ble_eq_true rfl) dX10_restore_58 ⟨Nat.zero_le _, Nat.zero_le _⟩ (fun u58 H locs hh hw => ?_) rfl
        refine lv_iconst (v := (1 : Int32)) C.1 C.2.1 dX10_restore_61 (by decide) ?_
        exact hR _ _ _ (u58.1, u58.2.1, u58.2.2) _ _ dX10_restore_62 rfl hh hw
      · replace hh := hh.2 c17
        exact tX10_restore_b20 C hR hh hw (lv_sub hl [0] rfl)
theorem ctX10_restore (l : Launch) (D : va_G) (h : Nat → Nat) (cI cL cF cM : ClassId) (F : Nat → Nat → Int32) (L : Nat → Nat → Int64) (r : Nat → Nat → Nat) (x1 : Int32) {K : Int32 → cS → Prop} (hh : wpX10_restore F L r x1 K) : Ci l yX10_restore wsX10_restore rmX10_restore [.ref (h 0), .int x1] D (cT cI cL cF cM) (cWu h cI cL cF cM) (F, L, r) K := by
  refine Ci_of (cc := cX10_restore) (maxL := 2) (by decide) rfl (Nat.le_of_ble_eq_true rfl) ?_
  intro p e s m below meth c A Q C hw hR ls hl
  exact tX10_restore_b0 C hR hh hw hl
theorem cdX10_restore : yX10_restore.cls = RX10 ∧ yX10_restore.cls ≠ "java/lang/invoke/MethodHandle" ∧ yX10_restore.cls ≠ "java/lang/invoke/VarHandle" ∧ (parseMethodDescriptor yX10_restore.desc).map (fun d => d.parameters.length) = some 1 := by decide +kernel
abbrev rmX1_standingWalls : Room := { frames := 1, cells := 0, slots := 0, locals := 21 }
set_option maxHeartbeats 4000000 in
set_option maxRecDepth 100000 in
theorem tX1_standingWalls_b0 {a0 : Nat} {K : Int32 → cS → Prop} (C : CallFix p m c cX1_standingWalls 1 s args wsX1_standingWalls RX1) (hR : Rti .int p l e rmX1_standingWalls s m args below meth c cX1_standingWalls D A (cT cI cL cF cM) (cWu h cI cL cF cM) K Q) (ha0 : kd a0 = 1) {F : Nat → Nat → Int32} {L : Nat → Nat → Int64} {r : Nat → Nat → Nat} (hh : wpX1_standingWalls_b0 a0 F L r K) {H : Heap} {locs : List Loc} {ls : Array Slot} (hw : Wd D A s (cT cI cL cF cM) (cW h cI cL cF cM F L r) H locs) (hl : lv_has ls 1 [(0, .ref (h a0))]) : W p l e rmX1_standingWalls s m args below meth c H locs 0 0 Q (F0 m 0 ls []) := by
  unfold wpX1_standingWalls_b0 at hh
  refine lv_aload_n C.1 C.2.1 dX1_standingWalls_0 rfl (lv_at hl 0 rfl) ?_
  refine c_get C hw (inC inW1) (kd_lt ha0 (by decide)) (ce1 ha0) rfl 4 (by decide) (wc w_365) (v := .ref (h (a0 + 1))) rfl dX1_standingWalls_1 ?_
  refine lv_iconst (v := (1 : Int32)) C.1 C.2.1 dX1_standingWalls_4 (by decide) ?_
  obtain ⟨hi5, hh⟩ := hh
  refine c_lal C hw (kd_lt (kd1_1 ha0) (by decide)) (ce22 (kd1_1 ha0)) hi5 dX1_standingWalls_5 ?_
  refine lv_aload_n C.1 C.2.1 dX1_standingWalls_6 rfl (lv_at hl 0 rfl) ?_
  refine c_get C hw (inC inW1) (kd_lt ha0 (by decide)) (ce1 ha0) rfl 6 (by decide) (wc w_369) (v := .ref (h (a0 + 3))) rfl dX1_standingWalls_7 ?_
  refine lv_iconst (v := (1 : Int32)) C.1 C.2.1 dX1_standingWalls_10 (by decide) ?_
  obtain ⟨hi11, hh⟩ := hh
  refine c_lal C hw (kd_lt (kd1_3 ha0) (by decide)) (ce22 (kd1_3 ha0)) hi11 dX1_standingWalls_11 ?_
  refine lv_ldc2 C.1 C.2.1 C.2.2.2.1 (C.2.2.2.2 _ (wc w_960)) dX1_standingWalls_12 ?_
  refine lv_lxor C.1 C.2.1 dX1_standingWalls_15 ?_
  refine lv_land C.1 C.2.1 dX1_standingWalls_16 ?_
  refine wd_Si C hw (ctJ13_bitCount_95d88 l D ((L (a0 + 1) (ix (1 : Int32))) &&& ((L (a0 + 3) (ix (1 : Int32))) ^^^ (-1 : Int64))) hh) (va_cwS 1 C.2.2.2.2 (gd_S w_1338 w_982 (ini_cls rfl w_131) w_983) rfl rfl rfl cdJ13_bitCount_95d88 ⟨Nat.le_of_ble_eq_true rfl, Nat.le_of_ble_eq_true rfl⟩) rfl hl.1 (Nat.le_of_ble_eq_true rfl) dX1_standingWalls_17 ⟨Nat.zero_le _, Nat.zero_le _⟩ (fun r17 H locs hh hw => ?_) rfl
  refine lv_aload_n C.1 C.2.1 dX1_standingWalls_20 rfl (lv_at hl 0 rfl) ?_
  refine c_get C hw (inC inW1) (kd_lt ha0 (by decide)) (ce1 ha0) rfl 4 (by decide) (wc w_365) (v := .ref (h (a0 + 1))) rfl dX1_standingWalls_21 ?_
  refine lv_iconst (v := (2 : Int32)) C.1 C.2.1 dX1_standingWalls_24 (by decide) ?_
  obtain ⟨hi25, hh⟩ := hh
  refine c_lal C hw (kd_lt (kd1_1 ha0) (by decide)) (ce22 (kd1_1 ha0)) hi25 dX1_standingWalls_25 ?_
  refine lv_aload_n C.1 C.2.1 dX1_standingWalls_26 rfl (lv_at hl 0 rfl) ?_
  refine c_get C hw (inC inW1) (kd_lt ha0 (by decide)) (ce1 ha0) rfl 6 (by decide) (wc w_369) (v := .ref (h (a0 + 3))) rfl dX1_standingWalls_27 ?_
  refine lv_iconst (v := (2 : Int32)) C.1 C.2.1 dX1_standingWalls_30 (by decide) ?_
  obtain ⟨hi31, hh⟩ := hh
  refine c_lal C hw (kd_lt (kd1_3 ha0) (by decide)) (ce22 (kd1_3 ha0)) hi31 dX1_standingWalls_31 ?_
  refine lv_ldc2 C.1 C.2.1 C.2.2.2.1 (C.2.2.2.2 _ (wc w_960)) dX1_standingWalls_32 ?_
  refine lv_lxor C.1 C.2.1 dX1_standingWalls_35 ?_
  refine lv_land C.1 C.2.1 dX1_standingWalls_36 ?_
  refine wd_Si C hw (ctJ13_bitCount_95d88 l D ((L (a0 + 1) (ix (2 : Int32))) &&& ((L (a0 + 3) (ix (2 : Int32))) ^^^ (-1 : Int64))) hh) (va_cwS 1 C.2.2.2.2 (gd_S w_1338 w_982 (ini_cls rfl w_131) w_983) rfl rfl rfl cdJ13_bitCount_95d88 ⟨Nat.le_of_ble_eq_true rfl, Nat.le_of_ble_eq_true rfl⟩) rfl hl.1 (Nat.le_of_ble_eq_true rfl) dX1_standingWalls_37 ⟨Nat.zero_le _, Nat.zero_le _⟩ (fun r37 H locs hh hw => ?_) rfl
  refine lv_iadd C.1 C.2.1 dX1_standingWalls_40 ?_
  exact hR _ _ _ (F, L, r) _ _ dX1_standingWalls_41 rfl hh hw
theorem ctX1_standingWalls (l : Launch) (D : va_G) (h : Nat → Nat) (cI cL cF cM : ClassId) (a0 : Nat) (ha0 : kd a0 = 1) (F : Nat → Nat → Int32) (L : Nat → Nat → Int64) (r : Nat → Nat → Nat) {K : Int32 → cS → Prop} (hh : wpX1_standingWalls a0 F L r K) : Ci l yX1_standingWalls wsX1_standingWalls rmX1_standingWalls [.ref (h a0)] D (cT cI cL cF cM) (cWu h cI cL cF cM) (F, L, r) K := by
  refine Ci_of (cc := cX1_standingWalls) (maxL := 1) (by decide) rfl (Nat.le_of_ble_eq_true rfl) ?_
  intro p e s m below meth c A Q C hw hR ls hl
  exact tX1_standingWalls_b0 C hR ha0 hh hw hl
theorem cdX1_standingWalls : yX1_standingWalls.cls = RX1 ∧ yX1_standingWalls.cls ≠ "java/lang/invoke/MethodHandle" ∧ yX1_standingWalls.cls ≠ "java/lang/invoke/VarHandle" ∧ (parseMethodDescriptor yX1_standingWalls.desc).map (fun d => d.parameters.length) = some 0 := by decide +kernel
abbrev rmX10_count : Room := { frames := 2, cells := 0, slots := 0, locals := 41 }
set_option maxHeartbeats 4000000 in
set_option maxRecDepth 100000 in
theorem tX10_count_b0 {K : Int32 → cS → Prop} (C : CallFix p m c cX10_count 2 s args wsX10_count RX10) (hR : Rti .int p l e rmX10_count s m args below meth c cX10_count D A (cT cI cL cF cM) (cWu h cI cL cF cM) K Q) {F : Nat → Nat → Int32} {L : Nat → Nat → Int64} {r : Nat → Nat → Nat} {x1 : Int32} (hh : wpX10_count_b0 F L r x1 K) {H : Heap} {locs : List Loc} {ls : Array Slot} (hw : Wd D A s (cT cI cL cF cM) (cW h cI cL cF cM F L r) H locs) (hl : lv_has ls 2 [(0, .ref (h 0)), (1, .int x1)]) : W p l e rmX10_count s m args below meth c H locs 0 0 Q (F0 m 0 ls []) := by
  unfold wpX10_count_b0 at hh
  refine lv_iload_n C.1 C.2.1 dX10_count_0 rfl (lv_at hl 1 rfl) ?_
  refine sw_in (x := x1) (lo := 0) (hi := 6) (fun hlo hhi => ?_) (fun ho => ?_)
  · have hv : (x1).toInt = 0 ∨ (x1).toInt = 1 ∨ (x1).toInt = 2 ∨ (x1).toInt = 3 ∨ (x1).toInt = 4 ∨ (x1).toInt = 5 ∨ (x1).toInt = 6 := by omega
    rcases hv with hv | hv | hv | hv | hv | hv | hv
    · replace hh := hh.1 (sw_eq hv (by decide))
      refine lv_tableIn (off := 43) (tgt := 44) C.1 C.2.1 dX10_count_1 hlo hhi (by rw [hv]; rfl) (by decide) ?_
      refine lv_aload_n C.1 C.2.1 dX10_count_44 rfl (lv_at hl 0 rfl) ?_
      refine c_get C hw (inC inW10) (kd_lt kp0 (by decide)) (ce10 kp0) rfl 5 (by decide) (wc w_575) (v := .ref (h 46)) rfl dX10_count_45 ?_
      refine c_get C hw (inC inW1) (kd_lt kp46 (by decide)) (ce1 kp46) rfl 2 (by decide) (wc w_360) (v := .int (F 46 2)) rfl dX10_count_48 ?_
      exact hR _ _ _ (F, L, r) _ _ dX10_count_51 rfl hh hw
    · replace hh := hh.2.1 (sw_eq hv (by decide))
      refine lv_tableIn (off := 51) (tgt := 52) C.1 C.2.1 dX10_count_1 hlo hhi (by rw [hv]; rfl) (by decide) ?_
      refine lv_aload_n C.1 C.2.1 dX10_count_52 rfl (lv_at hl 0 rfl) ?_
      refine c_get C hw (inC inW10) (kd_lt kp0 (by decide)) (ce10 kp0) rfl 3 (by decide) (wc w_573) (v := .ref (h (r 0 3))) rfl dX10_count_53 ?_
      obtain ⟨hk0, hh⟩ := hh
      refine c_get C hw (inC inW6) (kd_lt hk0 (by decide)) (ce6 hk0) rfl 0 (by decide) (wc w_229) (v := .int (F (r 0 3) 0)) rfl dX10_count_56 ?_
      exact hR _ _ _ (F, L, r) _ _ dX10_count_59 rfl hh hw
    · replace hh := hh.2.2.1 (sw_eq hv (by decide))
      refine lv_tableIn (off := 59) (tgt := 60) C.1 C.2.1 dX10_count_1 hlo hhi (by rw [hv]; rfl) (by decide) ?_
      refine lv_aload_n C.1 C.2.1 dX10_count_60 rfl (lv_at hl 0 rfl) ?_
      refine c_get C hw (inC inW10) (kd_lt kp0 (by decide)) (ce10 kp0) rfl 4 (by decide) (wc w_574) (v := .ref (h (r 0 4))) rfl dX10_count_61 ?_
      obtain ⟨hk1, hh⟩ := hh
      refine c_get C hw (inC inW4) (kd_lt hk1 (by decide)) (ce4 hk1) rfl 0 (by decide) (wc w_279) (v := .int (F (r 0 4) 0)) rfl dX10_count_64 ?_
      exact hR _ _ _ (F, L, r) _ _ dX10_count_67 rfl hh hw
    · replace hh := hh.2.2.2.1 (sw_eq hv (by decide))
      refine lv_tableIn (off := 67) (tgt := 68) C.1 C.2.1 dX10_count_1 hlo hhi (by rw [hv]; rfl) (by decide) ?_
      refine lv_aload_n C.1 C.2.1 dX10_count_68 rfl (lv_at hl 0 rfl) ?_
      refine c_get C hw (inC inW10) (kd_lt kp0 (by decide)) (ce10 kp0) rfl 4 (by decide) (wc w_574) (v := .ref (h (r 0 4))) rfl dX10_count_69 ?_
      obtain ⟨hk2, hh⟩ := hh
      refine c_get C hw (inC inW4) (kd_lt hk2 (by decide)) (ce4 hk2) rfl 1 (by decide) (wc w_285) (v := .int (F (r 0 4) 1)) rfl dX10_count_72 ?_
      exact hR _ _ _ (F, L, r) _ _ dX10_count_75 rfl hh hw
    · replace hh := hh.2.2.2.2.1 (sw_eq hv (by decide))
      refine lv_tableIn (off := 75) (tgt := 76) C.1 C.2.1 dX10_count_1 hlo hhi (by rw [hv]; rfl) (by decide) ?_
      refine lv_aload_n C.1 C.2.1 dX10_count_76 rfl (lv_at hl 0 rfl) ?_
      refine c_get C hw (inC inW10) (kd_lt kp0 (by decide)) (ce10 kp0) rfl 5 (by decide) (wc w_575) (v := .ref (h 46)) rfl dX10_count_77 ?_
      refine c_Vi C hw (ctX1_standingWalls l D h cI cL cF cM 46 kp46 F L r hh) (cwV 0 C.2.2.2.2 (gd_V w_1334 w_1335 w_1336 w_120 w_1337) rfl rfl rfl cdX1_standingWalls ⟨Nat.le_of_ble_eq_true rfl, Nat.le_of_ble_eq_true rfl⟩) rfl (kd_lt kp46 (by decide)) (ce1 kp46) rfl hl.1 (Nat.le_of_ble_eq_true rfl) dX10_count_80 ⟨Nat.zero_le _, Nat.zero_le _⟩ (fun r80 u80 H locs hh hw => ?_) rfl
      exact hR _ _ _ (u80.1, u80.2.1, u80.2.2) _ _ dX10_count_83 rfl hh hw
    · replace hh := hh.2.2.2.2.2.1 (sw_eq hv (by decide))
      refine lv_tableIn (off := 83) (tgt := 84) C.1 C.2.1 dX10_count_1 hlo hhi (by rw [hv]; rfl) (by decide) ?_
      refine lv_aload_n C.1 C.2.1 dX10_count_84 rfl (lv_at hl 0 rfl) ?_
      refine c_get C hw (inC inW10) (kd_lt kp0 (by decide)) (ce10 kp0) rfl 5 (by decide) (wc w_575) (v := .ref (h 46)) rfl dX10_count_85 ?_
      refine c_get C hw (inC inW1) (kd_lt kp46 (by decide)) (ce1 kp46) rfl 3 (by decide) (wc w_362) (v := .int (F 46 3)) rfl dX10_count_88 ?_
      exact hR _ _ _ (F, L, r) _ _ dX10_count_91 rfl hh hw
    · replace hh := hh.2.2.2.2.2.2.1 (sw_eq hv (by decide))
      refine lv_tableIn (off := 91) (tgt := 92) C.1 C.2.1 dX10_count_1 hlo hhi (by rw [hv]; rfl) (by decide) ?_
      refine lv_aload_n C.1 C.2.1 dX10_count_92 rfl (lv_at hl 0 rfl) ?_
      refine c_get C hw (inC inW10) (kd_lt kp0 (by decide)) (ce10 kp0) rfl 11 (by decide) (wc w_581) (v := .int (F 0 11)) rfl dX10_count_93 ?_
      refine wd_Si C hw (ctJ6_bitCount_0f7a4 l D (F 0 11) hh) (va_cwS 1 C.2.2.2.2 (gd_S w_1339 w_1299 (ini_cls rfl w_137) w_1300) rfl rfl rfl cdJ6_bitCount_0f7a4 ⟨Nat.le_of_ble_eq_true rfl, Nat.le_of_ble_eq_true rfl⟩) rfl hl.1 (Nat.le_of_ble_eq_true rfl) dX10_count_96 ⟨Nat.zero_le _, Nat.zero_le _⟩ (fun r96 H locs hh hw => ?_) rfl
      exact hR _ _ _ (F, L, r) _ _ dX10_count_99 rfl hh hw
  · replace hh := hh.2.2.2.2.2.2.2 ho
    refine lv_tableOut (tgt := 100) C.1 C.2.1 dX10_count_1 ho (by decide) ?_
    refine lv_iconst (v := (-1 : Int32)) C.1 C.2.1 dX10_count_100 (by decide) ?_
    exact hR _ _ _ (F, L, r) _ _ dX10_count_101 rfl hh hw
theorem ctX10_count (l : Launch) (D : va_G) (h : Nat → Nat) (cI cL cF cM : ClassId) (F : Nat → Nat → Int32) (L : Nat → Nat → Int64) (r : Nat → Nat → Nat) (x1 : Int32) {K : Int32 → cS → Prop} (hh : wpX10_count F L r x1 K) : Ci l yX10_count wsX10_count rmX10_count [.ref (h 0), .int x1] D (cT cI cL cF cM) (cWu h cI cL cF cM) (F, L, r) K := by
  refine Ci_of (cc := cX10_count) (maxL := 2) (by decide) rfl (Nat.le_of_ble_eq_true rfl) ?_
  intro p e s m below meth c A Q C hw hR ls hl
  exact tX10_count_b0 C hR hh hw hl
theorem cdX10_count : yX10_count.cls = RX10 ∧ yX10_count.cls ≠ "java/lang/invoke/MethodHandle" ∧ yX10_count.cls ≠ "java/lang/invoke/VarHandle" ∧ (parseMethodDescriptor yX10_count.desc).map (fun d => d.parameters.length) = some 1 := by decide +kernel
end
