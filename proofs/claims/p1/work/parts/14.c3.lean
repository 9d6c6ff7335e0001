section
variable {p : Program} {l : Launch} {e : Env} {s : State} {m : MethodId} {args : Array Value} {below : List Frame} {meth : Method} {c : Code} {D : va_G} {A : Nat → Prop} {h : Nat → Nat} {cI cL cF cM : ClassId} {Q : State → Prop}
abbrev rmX10_longest : Room := { frames := 6, cells := 0, slots := 0, locals := 142 }
def wpX10_longest_b17 (F : Nat → Nat → Int32) (L : Nat → Nat → Int64) (r : Nat → Nat → Nat) (K : Int32 → cS → Prop) : Prop :=
  K (-1 : Int32) (F, L, r)
set_option maxHeartbeats 4000000 in
set_option maxRecDepth 100000 in
theorem tX10_longest_b17 {K : Int32 → cS → Prop} (C : CallFix p m c cX10_longest 4 s args wsX10_longest RX10) (hR : Rti .int p l e rmX10_longest s m args below meth c cX10_longest D A (cT cI cL cF cM) (cWu h cI cL cF cM) K Q) {F : Nat → Nat → Int32} {L : Nat → Nat → Int64} {r : Nat → Nat → Nat} (hh : wpX10_longest_b17 F L r K) {H : Heap} {locs : List Loc} {ls : Array Slot} (hw : Wd D A s (cT cI cL cF cM) (cW h cI cL cF cM F L r) H locs) (hl : lv_has ls 4 [(0, .ref (h 0))]) : W p l e rmX10_longest s m args below meth c H locs 0 0 Q (F0 m 17 ls []) := by
  unfold wpX10_longest_b17 at hh
  refine lv_iconst (v := (-1 : Int32)) C.1 C.2.1 dX10_longest_17 (by decide) ?_
  exact hR _ _ _ (F, L, r) _ _ dX10_longest_18 rfl hh hw
def wpX10_longest_b0 (F : Nat → Nat → Int32) (L : Nat → Nat → Int64) (r : Nat → Nat → Nat) (x1 : Int32) (x2 : Int32) (x3 : Int32) (K : Int32 → cS → Prop) : Prop :=
  wpX8_isSmall x1 x2 (fun r2 u2 =>
    ((r2 = 0) →
    wpX10_longest_b17 F L r K) ∧
  (¬ (r2 = 0) →
    ((x3 < 0) →
      wpX10_longest_b17 F L r K) ∧
    (¬ (x3 < 0) →
      ((x3 ≤ (2 : Int32)) →
        kd (r 0 3) = 6 ∧ wpX8_longestBy (r 0 3) F L r x1 x2 x3 (fun r30 u30 =>
          K r30 (u30.1, u30.2.1, u30.2.2))) ∧
      (¬ (x3 ≤ (2 : Int32)) →
        wpX10_longest_b17 F L r K))))
set_option maxHeartbeats 4000000 in
set_option maxRecDepth 100000 in
theorem tX10_longest_b0 {K : Int32 → cS → Prop} (C : CallFix p m c cX10_longest 4 s args wsX10_longest RX10) (hR : Rti .int p l e rmX10_longest s m args below meth c cX10_longest D A (cT cI cL cF cM) (cWu h cI cL cF cM) K Q) {F : Nat → Nat → Int32} {L : Nat → Nat → Int64} {r : Nat → Nat → Nat} {x1 : Int32} {x2 : Int32} {x3 : Int32} (hh : wpX10_longest_b0 F L r x1 x2 x3 K) {H : Heap} {locs : List Loc} {ls : Array Slot} (hw : Wd D A s (cT cI cL cF cM) (cW h cI cL cF cM F L r) H locs) (hl : lv_has ls 4 [(0, .ref (h 0)), (1, .int x1), (2, .int x2), (3, .int x3)]) : W p l e rmX10_longest s m args below meth c H locs 0 0 Q (F0 m 0 ls []) := by
  unfold wpX10_longest_b0 at hh
  refine lv_iload_n C.1 C.2.1 dX10_longest_0 rfl (lv_at hl 1 rfl) ?_
  refine lv_iload_n C.1 C.2.1 dX10_longest_1 rfl (lv_at hl 2 rfl) ?_
  refine wd_Si C hw (ctX8_isSmall l D x1 x2 hh) (va_cwS 2 C.2.2.2.2 (gd_S w_1073 w_1074 (ini_cls rfl w_123) w_1075) rfl rfl rfl cdX8_isSmall ⟨Nat.le_of_ble_eq_true rfl, Nat.le_of_ble_eq_true rfl⟩) rfl hl.1 (Nat.le_of_ble_eq_true rfl) dX10_longest_2 ⟨Nat.zero_le _, Nat.zero_le _⟩ (fun r2 H locs hh hw => ?_) rfl
  refine lv_if_eq (tgt := 17) C.1 C.2.1 dX10_longest_5 (by decide) (fun c5 => ?_) (fun c5 => ?_)
  · replace hh := hh.1 c5
    exact tX10_longest_b17 C hR hh hw (lv_sub hl [0] rfl)
  · replace hh := hh.2 c5
    refine lv_iload_n C.1 C.2.1 dX10_longest_8 rfl (lv_at hl 3 rfl) ?_
    refine lv_if_lt (tgt := 17) C.1 C.2.1 dX10_longest_9 (by decide) (fun c9 => ?_) (fun c9 => ?_)
    · replace hh := hh.1 c9
      exact tX10_longest_b17 C hR hh hw (lv_sub hl [0] rfl)
    · replace hh := hh.2 c9
      refine lv_iload_n C.1 C.2.1 dX10_longest_12 rfl (lv_at hl 3 rfl) ?_
      refine lv_iconst (v := (2 : Int32)) C.1 C.2.1 dX10_longest_13 (by decide) ?_
      refine lv_icmp_le (tgt := 19) C.1 C.2.1 dX10_longest_14 (by decide) (fun c14 => ?_) (fun c14 => ?_)
      · replace hh := hh.1 c14
        refine lv_aload_n C.1 C.2.1 dX10_longest_19 rfl (lv_at hl 0 rfl) ?_
        refine c_get C hw (inC inW10) (kd_lt kp0 (by decide)) (ce10 kp0) rfl 13 (by decide) (wc w_583) (v := .ref (h 96)) rfl dX10_longest_20 ?_
        refine lv_aload_n C.1 C.2.1 dX10_longest_23 rfl (lv_at hl 0 rfl) ?_
        refine c_get C hw (inC inW10) (kd_lt kp0 (by decide)) (ce10 kp0) rfl 3 (by decide) (wc w_573) (v := .ref (h (r 0 3))) rfl dX10_longest_24 ?_
        refine lv_iload_n C.1 C.2.1 dX10_longest_27 rfl (lv_at hl 1 rfl) ?_
        refine lv_iload_n C.1 C.2.1 dX10_longest_28 rfl (lv_at hl 2 rfl) ?_
        refine lv_iload_n C.1 C.2.1 dX10_longest_29 rfl (lv_at hl 3 rfl) ?_
        obtain ⟨hk0, hh⟩ := hh
        refine c_Vi C hw (ctX8_longestBy l D h cI cL cF cM (r 0 3) hk0 F L r x1 x2 x3 hh) (cwV 4 C.2.2.2.2 (gd_V w_1123 w_1124 w_1125 w_123 w_1126) rfl rfl rfl cdX8_longestBy ⟨Nat.le_of_ble_eq_true rfl, Nat.le_of_ble_eq_true rfl⟩) rfl (kd_lt kp96 (by decide)) (ce8 kp96) rfl hl.1 (Nat.le_of_ble_eq_true rfl) dX10_longest_30 ⟨Nat.zero_le _, Nat.zero_le _⟩ (fun r30 u30 H locs hh hw => ?_) rfl
        exact hR _ _ _ (u30.1, u30.2.1, u30.2.2) _ _ dX10_longest_33 rfl hh hw
      · replace hh := hh.2 c14
        exact tX10_longest_b17 C hR hh hw (lv_sub hl [0] rfl)
def wpX10_longest (F : Nat → Nat → Int32) (L : Nat → Nat → Int64) (r : Nat → Nat → Nat) (x1 : Int32) (x2 : Int32) (x3 : Int32) (K : Int32 → cS → Prop) : Prop := wpX10_longest_b0 F L r x1 x2 x3 K
theorem ctX10_longest (l : Launch) (D : va_G) (h : Nat → Nat) (cI cL cF cM : ClassId) (F : Nat → Nat → Int32) (L : Nat → Nat → Int64) (r : Nat → Nat → Nat) (x1 : Int32) (x2 : Int32) (x3 : Int32) {K : Int32 → cS → Prop} (hh : wpX10_longest F L r x1 x2 x3 K) : Ci l yX10_longest wsX10_longest rmX10_longest [.ref (h 0), .int x1, .int x2, .int x3] D (cT cI cL cF cM) (cWu h cI cL cF cM) (F, L, r) K := by
  refine Ci_of (cc := cX10_longest) (maxL := 4) (by decide) rfl (Nat.le_of_ble_eq_true rfl) ?_
  intro p e s m below meth c A Q C hw hR ls hl
  exact tX10_longest_b0 C hR hh hw hl
theorem cdX10_longest : yX10_longest.cls = RX10 ∧ yX10_longest.cls ≠ "java/lang/invoke/MethodHandle" ∧ yX10_longest.cls ≠ "java/lang/invoke/VarHandle" ∧ (parseMethodDescriptor yX10_longest.desc).map (fun d => d.parameters.length) = some 3 := by decide +kernel
abbrev rmX6_usesYes : Room := { frames := 0, cells := 0, slots := 0, locals := 0 }
def wpX6_usesYes_b115 (a0 : Nat) (F : Nat → Nat → Int32) (L : Nat → Nat → Int64) (r : Nat → Nat → Nat) (k0 : Int32) (K : Int32 → cS → Prop) : Prop :=
  isB k0 ∧ K k0 (F, L, r)
set_option maxHeartbeats 4000000 in
set_option maxRecDepth 100000 in
theorem tX6_usesYes_b115 {a0 : Nat} {K : Int32 → cS → Prop} (C : CallFix p m c cX6_usesYes 7 s args wsX6_usesYes RX6) (hR : Rti .boolean p l e rmX6_usesYes s m args below meth c cX6_usesYes D A (cT cI cL cF cM) (cWu h cI cL cF cM) K Q) (ha0 : kd a0 = 6) {F : Nat → Nat → Int32} {L : Nat → Nat → Int64} {r : Nat → Nat → Nat} {k0 : Int32} (hh : wpX6_usesYes_b115 a0 F L r k0 K) {H : Heap} {locs : List Loc} {ls : Array Slot} (hw : Wd D A s (cT cI cL cF cM) (cW h cI cL cF cM F L r) H locs) (hl : lv_has ls 7 [(0, .ref (h a0))]) : W p l e rmX6_usesYes s m args below meth c H locs 0 0 Q (F0 m 115 ls [.int k0]) := by
  unfold wpX6_usesYes_b115 at hh
  obtain ⟨hb115, hh⟩ := hh
  exact hR _ _ _ (F, L, r) _ _ dX6_usesYes_115 (isB_nar hb115) hh hw
def wpX6_usesYes_b114 (a0 : Nat) (F : Nat → Nat → Int32) (L : Nat → Nat → Int64) (r : Nat → Nat → Nat) (K : Int32 → cS → Prop) : Prop :=
  wpX6_usesYes_b115 a0 F L r (0 : Int32) K
set_option maxHeartbeats 4000000 in
set_option maxRecDepth 100000 in
theorem tX6_usesYes_b114 {a0 : Nat} {K : Int32 → cS → Prop} (C : CallFix p m c cX6_usesYes 7 s args wsX6_usesYes RX6) (hR : Rti .boolean p l e rmX6_usesYes s m args below meth c cX6_usesYes D A (cT cI cL cF cM) (cWu h cI cL cF cM) K Q) (ha0 : kd a0 = 6) {F : Nat → Nat → Int32} {L : Nat → Nat → Int64} {r : Nat → Nat → Nat} (hh : wpX6_usesYes_b114 a0 F L r K) {H : Heap} {locs : List Loc} {ls : Array Slot} (hw : Wd D A s (cT cI cL cF cM) (cW h cI cL cF cM F L r) H locs) (hl : lv_has ls 7 [(0, .ref (h a0))]) : W p l e rmX6_usesYes s m args below meth c H locs 0 0 Q (F0 m 114 ls []) := by
  unfold wpX6_usesYes_b114 at hh
  refine lv_iconst (v := (0 : Int32)) C.1 C.2.1 dX6_usesYes_114 (by decide) ?_
  exact tX6_usesYes_b115 C hR ha0 hh hw hl
def wpX6_usesYes_b51_body (B15 : (Nat → Nat → Int32) → (Nat → Nat → Int64) → (Nat → Nat → Nat) → Int32 → Int32 → Int32 → Int32 → Int32 → Prop) (B51 : (Nat → Nat → Int32) → (Nat → Nat → Int64) → (Nat → Nat → Nat) → Int32 → Int32 → Int32 → Int32 → Int32 → Int32 → Prop) (a0 : Nat) (F : Nat → Nat → Int32) (L : Nat → Nat → Int64) (r : Nat → Nat → Nat) (x1 : Int32) (x2 : Int32) (x3 : Int32) (x4 : Int32) (x5 : Int32) (x6 : Int32) (K : Int32 → cS → Prop) : Prop :=
  vp_in x5 30 ∧ (((F (a0 + 2) (ix x5)) ≤ x6) →
    B15 F L r x1 x2 x3 x4 (x5 + (1 : Int32))) ∧
  (¬ ((F (a0 + 2) (ix x5)) ≤ x6) →
    vp_in x6 360 ∧ False)
set_option maxHeartbeats 4000000 in
set_option maxRecDepth 100000 in
theorem tX6_usesYes_b51_body {a0 : Nat} {B15 : (Nat → Nat → Int32) → (Nat → Nat → Int64) → (Nat → Nat → Nat) → Int32 → Int32 → Int32 → Int32 → Int32 → Prop} {B51 : (Nat → Nat → Int32) → (Nat → Nat → Int64) → (Nat → Nat → Nat) → Int32 → Int32 → Int32 → Int32 → Int32 → Int32 → Prop} {K : Int32 → cS → Prop} (C : CallFix p m c cX6_usesYes 7 s args wsX6_usesYes RX6) (hR : Rti .boolean p l e rmX6_usesYes s m args below meth c cX6_usesYes D A (cT cI cL cF cM) (cWu h cI cL cF cM) K Q) (ha0 : kd a0 = 6) (hB15 : ∀ (F : Nat → Nat → Int32) (L : Nat → Nat → Int64) (r : Nat → Nat → Nat) (x1 : Int32) (x2 : Int32) (x3 : Int32) (x4 : Int32) (x5 : Int32) (H : Heap) (locs : List Loc) (ls : Array Slot), B15 F L r x1 x2 x3 x4 x5 → Wd D A s (cT cI cL cF cM) (cW h cI cL cF cM F L r) H locs → lv_has ls 7 [(0, .ref (h a0)), (1, .int x1), (2, .int x2), (3, .int x3), (4, .int x4), (5, .int x5)] → W p l e rmX6_usesYes s m args below meth c H locs 0 0 Q (F0 m 15 ls [])) (hB51 : ∀ (F : Nat → Nat → Int32) (L : Nat → Nat → Int64) (r : Nat → Nat → Nat) (x1 : Int32) (x2 : Int32) (x3 : Int32) (x4 : Int32) (x5 : Int32) (x6 : Int32) (H : Heap) (locs : List Loc) (ls : Array Slot), B51 F L r x1 x2 x3 x4 x5 x6 → Wd D A s (cT cI cL cF cM) (cW h cI cL cF cM F L r) H locs → lv_has ls 7 [(0, .ref (h a0)), (1, .int x1), (2, .int x2), (3, .int x3), (4, .int x4), (5, .int x5), (6, .int x6)] → W p l e rmX6_usesYes s m args below meth c H locs 0 0 Q (F0 m 51 ls [])) {F : Nat → Nat → Int32} {L : Nat → Nat → Int64} {r : Nat → Nat → Nat} {x1 : Int32} {x2 : Int32} {x3 : Int32} {x4 : Int32} {x5 : Int32} {x6 : Int32} (hh : wpX6_usesYes_b51_body B15 B51 a0 F L r x1 x2 x3 x4 x5 x6 K) {H : Heap} {locs : List Loc} {ls : Array Slot} (hw : Wd D A s (cT cI cL cF cM) (cW h cI cL cF cM F L r) H locs) (hl : lv_has ls 7 [(0, .ref (h a0)), (1, .int x1), (2, .int x2), (3, .int x3), (4, .int x4), (5, .int x5), (6, .int x6)]) : W p l e rmX6_usesYes s m args below meth c H locs 0 0 Q (F0 m 51 ls []) := by
  unfold wpX6_usesYes_b51_body at hh
  refine lv_iload C.1 C.2.1 dX6_usesYes_51 (lv_at hl 6 rfl) ?_
  refine lv_aload_n C.1 C.2.1 dX6_usesYes_53 rfl (lv_at hl 0 rfl) ?_
  refine c_get C hw (inC inW6) (kd_lt ha0 (by decide)) (ce6 ha0) rfl 2 (by decide) (wc w_232) (v := .ref (h (a0 + 2))) rfl dX6_usesYes_54 ?_
  refine lv_iload C.1 C.2.1 dX6_usesYes_57 (lv_at hl 5 rfl) ?_
  obtain ⟨hi59, hh⟩ := hh
  refine c_ial C hw (kd_lt (kd6_2 ha0) (by decide)) (ce20 (kd6_2 ha0)) hi59 dX6_usesYes_59 ?_
  refine lv_icmp_ge (tgt := 95) C.1 C.2.1 dX6_usesYes_60 (by decide) (fun c60 => ?_) (fun c60 => ?_)
  · replace hh := hh.1 c60
    refine lv_iinc (v := x5 + (1 : Int32)) (lv' := [(5, .int (x5 + (1 : Int32))), (0, .ref (h a0)), (1, .int x1), (2, .int x2), (3, .int x3), (4, .int x4), (6, .int x6)]) C.1 C.2.1 dX6_usesYes_95 hl (k := 5) rfl rfl (by decide) rfl (fun ls hl => ?_)
    refine lv_goto (tgt := 15) C.1 C.2.1 dX6_usesYes_98 (by decide) ?_
    exact hB15 _ _ _ _ _ _ _ _ _ _ _ hh hw (lv_sub hl [1, 2, 3, 4, 5, 0] rfl)
  · replace hh := hh.2 c60
    refine lv_iload C.1 C.2.1 dX6_usesYes_63 (lv_at hl 4 rfl) ?_
    refine lv_aload_n C.1 C.2.1 dX6_usesYes_65 rfl (lv_at hl 0 rfl) ?_
    refine c_get C hw (inC inW6) (kd_lt ha0 (by decide)) (ce6 ha0) rfl 1 (by decide) (wc w_230) (v := .ref (h (a0 + 1))) rfl dX6_usesYes_66 ?_
    refine lv_iload C.1 C.2.1 dX6_usesYes_69 (lv_at hl 6 rfl) ?_
    obtain ⟨hi71, hh⟩ := hh
    refine c_ial C hw (kd_lt (kd6_1 ha0) (by decide)) (ce19 (kd6_1 ha0)) hi71 dX6_usesYes_71 ?_
    refine lv_bipush (v := (9 : Int32)) C.1 C.2.1 dX6_usesYes_72 (by decide) ?_
    refine lv_iload_n C.1 C.2.1 dX6_usesYes_74 rfl (lv_at hl 1 rfl) ?_
    exact hh.elim
def wpX6_usesYes_b51 (B15 : (Nat → Nat → Int32) → (Nat → Nat → Int64) → (Nat → Nat → Nat) → Int32 → Int32 → Int32 → Int32 → Int32 → Prop) (a0 : Nat) (n_ : Nat) (F : Nat → Nat → Int32) (L : Nat → Nat → Int64) (r : Nat → Nat → Nat) (x1 : Int32) (x2 : Int32) (x3 : Int32) (x4 : Int32) (x5 : Int32) (x6 : Int32) (K : Int32 → cS → Prop) : Prop := match n_ with
  | 0 => False
  | n + 1 => wpX6_usesYes_b51_body B15 (fun F L r x1 x2 x3 x4 x5 x6 => wpX6_usesYes_b51 B15 a0 n F L r x1 x2 x3 x4 x5 x6 K) a0 F L r x1 x2 x3 x4 x5 x6 K
theorem tX6_usesYes_b51 {a0 : Nat} {B15 : (Nat → Nat → Int32) → (Nat → Nat → Int64) → (Nat → Nat → Nat) → Int32 → Int32 → Int32 → Int32 → Int32 → Prop} {K : Int32 → cS → Prop} (C : CallFix p m c cX6_usesYes 7 s args wsX6_usesYes RX6) (hR : Rti .boolean p l e rmX6_usesYes s m args below meth c cX6_usesYes D A (cT cI cL cF cM) (cWu h cI cL cF cM) K Q) (ha0 : kd a0 = 6) (hB15 : ∀ (F : Nat → Nat → Int32) (L : Nat → Nat → Int64) (r : Nat → Nat → Nat) (x1 : Int32) (x2 : Int32) (x3 : Int32) (x4 : Int32) (x5 : Int32) (H : Heap) (locs : List Loc) (ls : Array Slot), B15 F L r x1 x2 x3 x4 x5 → Wd D A s (cT cI cL cF cM) (cW h cI cL cF cM F L r) H locs → lv_has ls 7 [(0, .ref (h a0)), (1, .int x1), (2, .int x2), (3, .int x3), (4, .int x4), (5, .int x5)] → W p l e rmX6_usesYes s m args below meth c H locs 0 0 Q (F0 m 15 ls [])) (n : Nat) : ∀ (F : Nat → Nat → Int32) (L : Nat → Nat → Int64) (r : Nat → Nat → Nat) (x1 : Int32) (x2 : Int32) (x3 : Int32) (x4 : Int32) (x5 : Int32) (x6 : Int32) (H : Heap) (locs : List Loc) (ls : Array Slot), wpX6_usesYes_b51 B15 a0 n F L r x1 x2 x3 x4 x5 x6 K → Wd D A s (cT cI cL cF cM) (cW h cI cL cF cM F L r) H locs → lv_has ls 7 [(0, .ref (h a0)), (1, .int x1), (2, .int x2), (3, .int x3), (4, .int x4), (5, .int x5), (6, .int x6)] → W p l e rmX6_usesYes s m args below meth c H locs 0 0 Q (F0 m 51 ls []) := by
  induction n with
  | zero => intro F L r x1 x2 x3 x4 x5 x6 H locs ls hh; exact hh.elim
  | succ n ih => intro F L r x1 x2 x3 x4 x5 x6 H locs ls hh hw hl; exact tX6_usesYes_b51_body C hR ha0 hB15 ih hh hw hl
def wpX6_usesYes_b42 (B15 : (Nat → Nat → Int32) → (Nat → Nat → Int64) → (Nat → Nat → Nat) → Int32 → Int32 → Int32 → Int32 → Int32 → Prop) (a0 : Nat) (F : Nat → Nat → Int32) (L : Nat → Nat → Int64) (r : Nat → Nat → Nat) (k0 : Int32) (k1 : Int32) (x1 : Int32) (x2 : Int32) (x4 : Int32) (x5 : Int32) (K : Int32 → cS → Prop) : Prop :=
  ∃ n, wpX6_usesYes_b51 B15 a0 n F L r x1 x2 (k0 ||| k1) x4 x5 (x5 * (12 : Int32)) K
set_option maxHeartbeats 4000000 in
set_option maxRecDepth 100000 in
theorem tX6_usesYes_b42 {a0 : Nat} {B15 : (Nat → Nat → Int32) → (Nat → Nat → Int64) → (Nat → Nat → Nat) → Int32 → Int32 → Int32 → Int32 → Int32 → Prop} {K : Int32 → cS → Prop} (C : CallFix p m c cX6_usesYes 7 s args wsX6_usesYes RX6) (hR : Rti .boolean p l e rmX6_usesYes s m args below meth c cX6_usesYes D A (cT cI cL cF cM) (cWu h cI cL cF cM) K Q) (ha0 : kd a0 = 6) (hB15 : ∀ (F : Nat → Nat → Int32) (L : Nat → Nat → Int64) (r : Nat → Nat → Nat) (x1 : Int32) (x2 : Int32) (x3 : Int32) (x4 : Int32) (x5 : Int32) (H : Heap) (locs : List Loc) (ls : Array Slot), B15 F L r x1 x2 x3 x4 x5 → Wd D A s (cT cI cL cF cM) (cW h cI cL cF cM F L r) H locs → lv_has ls 7 [(0, .ref (h a0)), (1, .int x1), (2, .int x2), (3, .int x3), (4, .int x4), (5, .int x5)] → W p l e rmX6_usesYes s m args below meth c H locs 0 0 Q (F0 m 15 ls [])) {F : Nat → Nat → Int32} {L : Nat → Nat → Int64} {r : Nat → Nat → Nat} {k0 : Int32} {k1 : Int32} {x1 : Int32} {x2 : Int32} {x4 : Int32} {x5 : Int32} (hh : wpX6_usesYes_b42 B15 a0 F L r k0 k1 x1 x2 x4 x5 K) {H : Heap} {locs : List Loc} {ls : Array Slot} (hw : Wd D A s (cT cI cL cF cM) (cW h cI cL cF cM F L r) H locs) (hl : lv_has ls 7 [(0, .ref (h a0)), (1, .int x1), (2, .int x2), (4, .int x4), (5, .int x5)]) : W p l e rmX6_usesYes s m args below meth c H locs 0 0 Q (F0 m 42 ls [.int k1, .int k0]) := by
  unfold wpX6_usesYes_b42 at hh
  refine lv_ior C.1 C.2.1 dX6_usesYes_42 ?_
  refine lv_istore_n (lv' := [(3, .int (k0 ||| k1)), (0, .ref (h a0)), (1, .int x1), (2, .int x2), (4, .int x4), (5, .int x5)]) C.1 C.2.1 dX6_usesYes_43 rfl hl (by decide) rfl (fun ls hl => ?_)
  refine lv_iload C.1 C.2.1 dX6_usesYes_44 (lv_at hl 5 rfl) ?_
  refine lv_bipush (v := (12 : Int32)) C.1 C.2.1 dX6_usesYes_46 (by decide) ?_
  refine lv_imul C.1 C.2.1 dX6_usesYes_48 ?_
  refine lv_istore (lv' := [(6, .int (x5 * (12 : Int32))), (3, .int (k0 ||| k1)), (0, .ref (h a0)), (1, .int x1), (2, .int x2), (4, .int x4), (5, .int x5)]) C.1 C.2.1 dX6_usesYes_49 hl (by decide) rfl (fun ls hl => ?_)
  obtain ⟨n, hh⟩ := hh
  exact tX6_usesYes_b51 C hR ha0 hB15 n _ _ _ _ _ _ _ _ _ _ _ _ hh hw (lv_sub hl [2, 3, 4, 1, 5, 6, 0] rfl)
def wpX6_usesYes_b15_body (B15 : (Nat → Nat → Int32) → (Nat → Nat → Int64) → (Nat → Nat → Nat) → Int32 → Int32 → Int32 → Int32 → Int32 → Prop) (a0 : Nat) (F : Nat → Nat → Int32) (L : Nat → Nat → Int64) (r : Nat → Nat → Nat) (x1 : Int32) (x2 : Int32) (x3 : Int32) (x4 : Int32) (x5 : Int32) (K : Int32 → cS → Prop) : Prop :=
  (((F a0 0) ≤ x5) →
    ((x3 = 0) →
      wpX6_usesYes_b114 a0 F L r K) ∧
    (¬ (x3 = 0) →
      ((x4 = 0) →
        wpX6_usesYes_b114 a0 F L r K) ∧
      (¬ (x4 = 0) →
        wpX6_usesYes_b115 a0 F L r (1 : Int32) K))) ∧
  (¬ ((F a0 0) ≤ x5) →
    vp_in x5 30 ∧ ((((F (a0 + 3) (ix x5)) &&& x2) = 0) →
      wpX6_usesYes_b42 B15 a0 F L r x3 (0 : Int32) x1 x2 x4 x5 K) ∧
    (¬ (((F (a0 + 3) (ix x5)) &&& x2) = 0) →
      wpX6_usesYes_b42 B15 a0 F L r x3 (1 : Int32) x1 x2 x4 x5 K))
set_option maxHeartbeats 4000000 in
set_option maxRecDepth 100000 in
theorem tX6_usesYes_b15_body {a0 : Nat} {B15 : (Nat → Nat → Int32) → (Nat → Nat → Int64) → (Nat → Nat → Nat) → Int32 → Int32 → Int32 → Int32 → Int32 → Prop} {K : Int32 → cS → Prop} (C : CallFix p m c cX6_usesYes 7 s args wsX6_usesYes RX6) (hR : Rti .boolean p l e rmX6_usesYes s m args below meth c cX6_usesYes D A (cT cI cL cF cM) (cWu h cI cL cF cM) K Q) (ha0 : kd a0 = 6) (hB15 : ∀ (F : Nat → Nat → Int32) (L : Nat → Nat → Int64) (r : Nat → Nat → Nat) (x1 : Int32) (x2 : Int32) (x3 : Int32) (x4 : Int32) (x5 : Int32) (H : Heap) (locs : List Loc) (ls : Array Slot), B15 F L r x1 x2 x3 x4 x5 → Wd D A s (cT cI cL cF cM) (cW h cI cL cF cM F L r) H locs → lv_has ls 7 [(0, .ref (h a0)), (1, .int x1), (2, .int x2), (3, .int x3), (4, .int x4), (5, .int x5)] → W p l e rmX6_usesYes s m args below meth c H locs 0 0 Q (F0 m 15 ls [])) {F : Nat → Nat → Int32} {L : Nat → Nat → Int64} {r : Nat → Nat → Nat} {x1 : Int32} {x2 : Int32} {x3 : Int32} {x4 : Int32} {x5 : Int32} (hh : wpX6_usesYes_b15_body B15 a0 F L r x1 x2 x3 x4 x5 K) {H : Heap} {locs : List Loc} {ls : Array Slot} (hw : Wd D A s (cT cI cL cF cM) (cW h cI cL cF cM F L r) H locs) (hl : lv_has ls 7 [(0, .ref (h a0)), (1, .int x1), (2, .int x2), (3, .int x3), (4, .int x4), (5, .int x5)]) : W p l e rmX6_usesYes s m args below meth c H locs 0 0 Q (F0 m 15 ls []) := by
  unfold wpX6_usesYes_b15_body at hh
  refine lv_iload C.1 C.2.1 dX6_usesYes_15 (lv_at hl 5 rfl) ?_
  refine lv_aload_n C.1 C.2.1 dX6_usesYes_17 rfl (lv_at hl 0 rfl) ?_
  refine c_get C hw (inC inW6) (kd_lt ha0 (by decide)) (ce6 ha0) rfl 0 (by decide) (wc w_227) (v := .int (F a0 0)) rfl dX6_usesYes_18 ?_
  refine lv_icmp_ge (tgt := 101) C.1 C.2.1 dX6_usesYes_21 (by decide) (fun c21 => ?_) (fun c21 => ?_)
  · replace hh := hh.1 c21
    refine lv_iload_n C.1 C.2.1 dX6_usesYes_101 rfl (lv_at hl 3 rfl) ?_
    refine lv_if_eq (tgt := 114) C.1 C.2.1 dX6_usesYes_102 (by decide) (fun c102 => ?_) (fun c102 => ?_)
    · replace hh := hh.1 c102
      exact tX6_usesYes_b114 C hR ha0 hh hw (lv_sub hl [0] rfl)
    · replace hh := hh.2 c102
      refine lv_iload C.1 C.2.1 dX6_usesYes_105 (lv_at hl 4 rfl) ?_
      refine lv_if_eq (tgt := 114) C.1 C.2.1 dX6_usesYes_107 (by decide) (fun c107 => ?_) (fun c107 => ?_)
      · replace hh := hh.1 c107
        exact tX6_usesYes_b114 C hR ha0 hh hw (lv_sub hl [0] rfl)
      · replace hh := hh.2 c107
        refine lv_iconst (v := (1 : Int32)) C.1 C.2.1 dX6_usesYes_110 (by decide) ?_
        refine lv_goto (tgt := 115) C.1 C.2.1 dX6_usesYes_111 (by decide) ?_
        exact tX6_usesYes_b115 C hR ha0 hh hw (lv_sub hl [0] rfl)
  · replace hh := hh.2 c21
    refine lv_iload_n C.1 C.2.1 dX6_usesYes_24 rfl (lv_at hl 3 rfl) ?_
    refine lv_aload_n C.1 C.2.1 dX6_usesYes_25 rfl (lv_at hl 0 rfl) ?_
    refine c_get C hw (inC inW6) (kd_lt ha0 (by decide)) (ce6 ha0) rfl 3 (by decide) (wc w_234) (v := .ref (h (a0 + 3))) rfl dX6_usesYes_26 ?_
    refine lv_iload C.1 C.2.1 dX6_usesYes_29 (lv_at hl 5 rfl) ?_
    obtain ⟨hi31, hh⟩ := hh
    refine c_ial C hw (kd_lt (kd6_3 ha0) (by decide)) (ce20 (kd6_3 ha0)) hi31 dX6_usesYes_31 ?_
    refine lv_iload_n C.1 C.2.1 dX6_usesYes_32 rfl (lv_at hl 2 rfl) ?_
    refine lv_iand C.1 C.2.1 dX6_usesYes_33 ?_
    refine lv_if_eq (tgt := 41) C.1 C.2.1 dX6_usesYes_34 (by decide) (fun c34 => ?_) (fun c34 => ?_)
    · replace hh := hh.1 c34
      refine lv_iconst (v := (0 : Int32)) C.1 C.2.1 dX6_usesYes_41 (by decide) ?_
      exact tX6_usesYes_b42 C hR ha0 hB15 hh hw (lv_sub hl [0, 1, 2, 4, 5] rfl)
    · replace hh := hh.2 c34
      refine lv_iconst (v := (1 : Int32)) C.1 C.2.1 dX6_usesYes_37 (by decide) ?_
      refine lv_goto (tgt := 42) C.1 C.2.1 dX6_usesYes_38 (by decide) ?_
      exact tX6_usesYes_b42 C hR ha0 hB15 hh hw (lv_sub hl [0, 1, 2, 4, 5] rfl)
def wpX6_usesYes_b15 (a0 : Nat) (n_ : Nat) (F : Nat → Nat → Int32) (L : Nat → Nat → Int64) (r : Nat → Nat → Nat) (x1 : Int32) (x2 : Int32) (x3 : Int32) (x4 : Int32) (x5 : Int32) (K : Int32 → cS → Prop) : Prop := match n_ with
  | 0 => False
  | n + 1 => wpX6_usesYes_b15_body (fun F L r x1 x2 x3 x4 x5 => wpX6_usesYes_b15 a0 n F L r x1 x2 x3 x4 x5 K) a0 F L r x1 x2 x3 x4 x5 K
theorem tX6_usesYes_b15 {a0 : Nat} {K : Int32 → cS → Prop} (C : CallFix p m c cX6_usesYes 7 s args wsX6_usesYes RX6) (hR : Rti .boolean p l e rmX6_usesYes s m args below meth c cX6_usesYes D A (cT cI cL cF cM) (cWu h cI cL cF cM) K Q) (ha0 : kd a0 = 6) (n : Nat) : ∀ (F : Nat → Nat → Int32) (L : Nat → Nat → Int64) (r : Nat → Nat → Nat) (x1 : Int32) (x2 : Int32) (x3 : Int32) (x4 : Int32) (x5 : Int32) (H : Heap) (locs : List Loc) (ls : Array Slot), wpX6_usesYes_b15 a0 n F L r x1 x2 x3 x4 x5 K → Wd D A s (cT cI cL cF cM) (cW h cI cL cF cM F L r) H locs → lv_has ls 7 [(0, .ref (h a0)), (1, .int x1), (2, .int x2), (3, .int x3), (4, .int x4), (5, .int x5)] → W p l e rmX6_usesYes s m args below meth c H locs 0 0 Q (F0 m 15 ls []) := by
  induction n with
  | zero => intro F L r x1 x2 x3 x4 x5 H locs ls hh; exact hh.elim
  | succ n ih => intro F L r x1 x2 x3 x4 x5 H locs ls hh hw hl; exact tX6_usesYes_b15_body C hR ha0 ih hh hw hl
def wpX6_usesYes_b0 (a0 : Nat) (F : Nat → Nat → Int32) (L : Nat → Nat → Int64) (r : Nat → Nat → Nat) (x1 : Int32) (K : Int32 → cS → Prop) : Prop :=
  ∃ n, wpX6_usesYes_b15 a0 n F L r x1 (jshl (1 : Int32) ((13 : Int32) + x1)) (0 : Int32) (0 : Int32) (0 : Int32) K
set_option maxHeartbeats 4000000 in
set_option maxRecDepth 100000 in
theorem tX6_usesYes_b0 {a0 : Nat} {K : Int32 → cS → Prop} (C : CallFix p m c cX6_usesYes 7 s args wsX6_usesYes RX6) (hR : Rti .boolean p l e rmX6_usesYes s m args below meth c cX6_usesYes D A (cT cI cL cF cM) (cWu h cI cL cF cM) K Q) (ha0 : kd a0 = 6) {F : Nat → Nat → Int32} {L : Nat → Nat → Int64} {r : Nat → Nat → Nat} {x1 : Int32} (hh : wpX6_usesYes_b0 a0 F L r x1 K) {H : Heap} {locs : List Loc} {ls : Array Slot} (hw : Wd D A s (cT cI cL cF cM) (cW h cI cL cF cM F L r) H locs) (hl : lv_has ls 7 [(0, .ref (h a0)), (1, .int x1)]) : W p l e rmX6_usesYes s m args below meth c H locs 0 0 Q (F0 m 0 ls []) := by
  unfold wpX6_usesYes_b0 at hh
  refine lv_iconst (v := (1 : Int32)) C.1 C.2.1 dX6_usesYes_0 (by decide) ?_
  refine lv_bipush (v := (13 : Int32)) C.1 C.2.1 dX6_usesYes_1 (by decide) ?_
  refine lv_iload_n C.1 C.2.1 dX6_usesYes_3 rfl (lv_at hl 1 rfl) ?_
  refine lv_iadd C.1 C.2.1 dX6_usesYes_4 ?_
  refine g_ishl C dX6_usesYes_5 ?_
  refine lv_istore_n (lv' := [(2, .int (jshl (1 : Int32) ((13 : Int32) + x1))), (0, .ref (h a0)), (1, .int x1)]) C.1 C.2.1 dX6_usesYes_6 rfl hl (by decide) rfl (fun ls hl => ?_)
  refine lv_iconst (v := (0 : Int32)) C.1 C.2.1 dX6_usesYes_7 (by decide) ?_
  refine lv_istore_n (lv' := [(3, .int (0 : Int32)), (2, .int (jshl (1 : Int32) ((13 : Int32) + x1))), (0, .ref (h a0)), (1, .int x1)]) C.1 C.2.1 dX6_usesYes_8 rfl hl (by decide) rfl (fun ls hl => ?_)
  refine lv_iconst (v := (0 : Int32)) C.1 C.2.1 dX6_usesYes_9 (by decide) ?_
  refine lv_istore (lv' := [(4, .int (0 : Int32)), (3, .int (0 : Int32)), (2, .int (jshl (1 : Int32) ((13 : Int32) + x1))), (0, .ref (h a0)), (1, .int x1)]) C.1 C.2.1 dX6_usesYes_10 hl (by decide) rfl (fun ls hl => ?_)
  refine lv_iconst (v := (0 : Int32)) C.1 C.2.1 dX6_usesYes_12 (by decide) ?_
  refine lv_istore (lv' := [(5, .int (0 : Int32)), (4, .int (0 : Int32)), (3, .int (0 : Int32)), (2, .int (jshl (1 : Int32) ((13 : Int32) + x1))), (0, .ref (h a0)), (1, .int x1)]) C.1 C.2.1 dX6_usesYes_13 hl (by decide) rfl (fun ls hl => ?_)
  obtain ⟨n, hh⟩ := hh
  exact tX6_usesYes_b15 C hR ha0 n _ _ _ _ _ _ _ _ _ _ _ hh hw (lv_sub hl [4, 5, 3, 2, 1, 0] rfl)
def wpX6_usesYes (a0 : Nat) (F : Nat → Nat → Int32) (L : Nat → Nat → Int64) (r : Nat → Nat → Nat) (x1 : Int32) (K : Int32 → cS → Prop) : Prop := wpX6_usesYes_b0 a0 F L r x1 K
theorem ctX6_usesYes (l : Launch) (D : va_G) (h : Nat → Nat) (cI cL cF cM : ClassId) (a0 : Nat) (ha0 : kd a0 = 6) (F : Nat → Nat → Int32) (L : Nat → Nat → Int64) (r : Nat → Nat → Nat) (x1 : Int32) {K : Int32 → cS → Prop} (hh : wpX6_usesYes a0 F L r x1 K) : Ci l yX6_usesYes wsX6_usesYes rmX6_usesYes [.ref (h a0), .int x1] D (cT cI cL cF cM) (cWu h cI cL cF cM) (F, L, r) K := by
  refine Ci_of (cc := cX6_usesYes) (maxL := 7) (by decide) rfl (Nat.le_of_ble_eq_true rfl) ?_
  intro p e s m below meth c A Q C hw hR ls hl
  exact tX6_usesYes_b0 C hR ha0 hh hw hl
theorem cdX6_usesYes : yX6_usesYes.cls = RX6 ∧ yX6_usesYes.cls ≠ "java/lang/invoke/MethodHandle" ∧ yX6_usesYes.cls ≠ "java/lang/invoke/VarHandle" ∧ (parseMethodDescriptor yX6_usesYes.desc).map (fun d => d.parameters.length) = some 1 := by decide +kernel
abbrev rmX3_standsAs : Room := { frames := 0, cells := 0, slots := 0, locals := 0 }
def wpX3_standsAs_b27 (a0 : Nat) (a1 : Nat) (F : Nat → Nat → Int32) (L : Nat → Nat → Int64) (r : Nat → Nat → Nat) (k0 : Int32) (K : Int32 → cS → Prop) : Prop :=
  isB k0 ∧ K k0 (F, L, r)
set_option maxHeartbeats 4000000 in
set_option maxRecDepth 100000 in
theorem tX3_standsAs_b27 {a0 : Nat} {a1 : Nat} {K : Int32 → cS → Prop} (C : CallFix p m c cX3_standsAs 2 s args wsX3_standsAs RX3) (hR : Rti .boolean p l e rmX3_standsAs s m args below meth c cX3_standsAs D A (cT cI cL cF cM) (cWu h cI cL cF cM) K Q) (ha0 : kd a0 = 3) (ha1 : kd a1 = 3) {F : Nat → Nat → Int32} {L : Nat → Nat → Int64} {r : Nat → Nat → Nat} {k0 : Int32} (hh : wpX3_standsAs_b27 a0 a1 F L r k0 K) {H : Heap} {locs : List Loc} {ls : Array Slot} (hw : Wd D A s (cT cI cL cF cM) (cW h cI cL cF cM F L r) H locs) (hl : lv_has ls 2 [(0, .ref (h a0))]) : W p l e rmX3_standsAs s m args below meth c H locs 0 0 Q (F0 m 27 ls [.int k0]) := by
  unfold wpX3_standsAs_b27 at hh
  obtain ⟨hb27, hh⟩ := hh
  exact hR _ _ _ (F, L, r) _ _ dX3_standsAs_27 (isB_nar hb27) hh hw
def wpX3_standsAs_b26 (a0 : Nat) (a1 : Nat) (F : Nat → Nat → Int32) (L : Nat → Nat → Int64) (r : Nat → Nat → Nat) (K : Int32 → cS → Prop) : Prop :=
  wpX3_standsAs_b27 a0 a1 F L r (0 : Int32) K
set_option maxHeartbeats 4000000 in
set_option maxRecDepth 100000 in
theorem tX3_standsAs_b26 {a0 : Nat} {a1 : Nat} {K : Int32 → cS → Prop} (C : CallFix p m c cX3_standsAs 2 s args wsX3_standsAs RX3) (hR : Rti .boolean p l e rmX3_standsAs s m args below meth c cX3_standsAs D A (cT cI cL cF cM) (cWu h cI cL cF cM) K Q) (ha0 : kd a0 = 3) (ha1 : kd a1 = 3) {F : Nat → Nat → Int32} {L : Nat → Nat → Int64} {r : Nat → Nat → Nat} (hh : wpX3_standsAs_b26 a0 a1 F L r K) {H : Heap} {locs : List Loc} {ls : Array Slot} (hw : Wd D A s (cT cI cL cF cM) (cW h cI cL cF cM F L r) H locs) (hl : lv_has ls 2 [(0, .ref (h a0))]) : W p l e rmX3_standsAs s m args below meth c H locs 0 0 Q (F0 m 26 ls []) := by
  unfold wpX3_standsAs_b26 at hh
  refine lv_iconst (v := (0 : Int32)) C.1 C.2.1 dX3_standsAs_26 (by decide) ?_
  exact tX3_standsAs_b27 C hR ha0 ha1 hh hw hl
def wpX3_standsAs_b0 (a0 : Nat) (a1 : Nat) (F : Nat → Nat → Int32) (L : Nat → Nat → Int64) (r : Nat → Nat → Nat) (K : Int32 → cS → Prop) : Prop :=
  (¬ ((F a0 0) = (F a1 0)) →
    wpX3_standsAs_b26 a0 a1 F L r K) ∧
  (((F a0 0) = (F a1 0)) →
    (¬ ((F a0 1) = (F a1 1)) →
      wpX3_standsAs_b26 a0 a1 F L r K) ∧
    (((F a0 1) = (F a1 1)) →
      wpX3_standsAs_b27 a0 a1 F L r (1 : Int32) K))
set_option maxHeartbeats 4000000 in
set_option maxRecDepth 100000 in
theorem tX3_standsAs_b0 {a0 : Nat} {a1 : Nat} {K : Int32 → cS → Prop} (C : CallFix p m c cX3_standsAs 2 s args wsX3_standsAs RX3) (hR : Rti .boolean p l e rmX3_standsAs s m args below meth c cX3_standsAs D A (cT cI cL cF cM) (cWu h cI cL cF cM) K Q) (ha0 : kd a0 = 3) (ha1 : kd a1 = 3) {F : Nat → Nat → Int32} {L : Nat → Nat → Int64} {r : Nat → Nat → Nat} (hh : wpX3_standsAs_b0 a0 a1 F L r K) {H : Heap} {locs : List Loc} {ls : Array Slot} (hw : Wd D A s (cT cI cL cF cM) (cW h cI cL cF cM F L r) H locs) (hl : lv_has ls 2 [(0, .ref (h a0)), (1, .ref (h a1))]) : W p l e rmX3_standsAs s m args below meth c H locs 0 0 Q (F0 m 0 ls []) := by
  unfold wpX3_standsAs_b0 at hh
  refine lv_aload_n C.1 C.2.1 dX3_standsAs_0 rfl (lv_at hl 0 rfl) ?_
  refine c_get C hw (inC inW3) (kd_lt ha0 (by decide)) (ce3 ha0) rfl 0 (by decide) (wc w_392) (v := .int (F a0 0)) rfl dX3_standsAs_1 ?_
  refine lv_aload_n C.1 C.2.1 dX3_standsAs_4 rfl (lv_at hl 1 rfl) ?_
  refine c_get C hw (inC inW3) (kd_lt ha1 (by decide)) (ce3 ha1) rfl 0 (by decide) (wc w_392) (v := .int (F a1 0)) rfl dX3_standsAs_5 ?_
  refine lv_icmp_ne (tgt := 26) C.1 C.2.1 dX3_standsAs_8 (by decide) (fun c8 => ?_) (fun c8 => ?_)
  · replace hh := hh.1 c8
    exact tX3_standsAs_b26 C hR ha0 ha1 hh hw (lv_sub hl [0] rfl)
  · replace hh := hh.2 c8
    refine lv_aload_n C.1 C.2.1 dX3_standsAs_11 rfl (lv_at hl 0 rfl) ?_
    refine c_get C hw (inC inW3) (kd_lt ha0 (by decide)) (ce3 ha0) rfl 1 (by decide) (wc w_396) (v := .int (F a0 1)) rfl dX3_standsAs_12 ?_
    refine lv_aload_n C.1 C.2.1 dX3_standsAs_15 rfl (lv_at hl 1 rfl) ?_
    refine c_get C hw (inC inW3) (kd_lt ha1 (by decide)) (ce3 ha1) rfl 1 (by decide) (wc w_396) (v := .int (F a1 1)) rfl dX3_standsAs_16 ?_
    refine lv_icmp_ne (tgt := 26) C.1 C.2.1 dX3_standsAs_19 (by decide) (fun c19 => ?_) (fun c19 => ?_)
    · replace hh := hh.1 c19
      exact tX3_standsAs_b26 C hR ha0 ha1 hh hw (lv_sub hl [0] rfl)
    · replace hh := hh.2 c19
      refine lv_iconst (v := (1 : Int32)) C.1 C.2.1 dX3_standsAs_22 (by decide) ?_
      refine lv_goto (tgt := 27) C.1 C.2.1 dX3_standsAs_23 (by decide) ?_
      exact tX3_standsAs_b27 C hR ha0 ha1 hh hw (lv_sub hl [0] rfl)
def wpX3_standsAs (a0 : Nat) (a1 : Nat) (F : Nat → Nat → Int32) (L : Nat → Nat → Int64) (r : Nat → Nat → Nat) (K : Int32 → cS → Prop) : Prop := wpX3_standsAs_b0 a0 a1 F L r K
theorem ctX3_standsAs (l : Launch) (D : va_G) (h : Nat → Nat) (cI cL cF cM : ClassId) (a0 : Nat) (a1 : Nat) (ha0 : kd a0 = 3) (ha1 : kd a1 = 3) (F : Nat → Nat → Int32) (L : Nat → Nat → Int64) (r : Nat → Nat → Nat) {K : Int32 → cS → Prop} (hh : wpX3_standsAs a0 a1 F L r K) : Ci l yX3_standsAs wsX3_standsAs rmX3_standsAs [.ref (h a0), .ref (h a1)] D (cT cI cL cF cM) (cWu h cI cL cF cM) (F, L, r) K := by
  refine Ci_of (cc := cX3_standsAs) (maxL := 2) (by decide) rfl (Nat.le_of_ble_eq_true rfl) ?_
  intro p e s m below meth c A Q C hw hR ls hl
  exact tX3_standsAs_b0 C hR ha0 ha1 hh hw hl
theorem cdX3_standsAs : yX3_standsAs.cls = RX3 ∧ yX3_standsAs.cls ≠ "java/lang/invoke/MethodHandle" ∧ yX3_standsAs.cls ≠ "java/lang/invoke/VarHandle" ∧ (parseMethodDescriptor yX3_standsAs.desc).map (fun d => d.parameters.length) = some 1 := by decide +kernel
abbrev rmX8_isNeeded : Room := { frames := 4, cells := 0, slots := 0, locals := 90 }
def wpX8_isNeeded_b60 (a1 : Nat) (F : Nat → Nat → Int32) (L : Nat → Nat → Int64) (r : Nat → Nat → Nat) (K : Int32 → cS → Prop) : Prop :=
  K (0 : Int32) (F, L, r)
set_option maxHeartbeats 4000000 in
set_option maxRecDepth 100000 in
theorem tX8_isNeeded_b60 {a1 : Nat} {K : Int32 → cS → Prop} (C : CallFix p m c cX8_isNeeded 6 s args wsX8_isNeeded RX8) (hR : Rti .boolean p l e rmX8_isNeeded s m args below meth c cX8_isNeeded D A (cT cI cL cF cM) (cWu h cI cL cF cM) K Q) (ha1 : kd a1 = 6) {F : Nat → Nat → Int32} {L : Nat → Nat → Int64} {r : Nat → Nat → Nat} (hh : wpX8_isNeeded_b60 a1 F L r K) {H : Heap} {locs : List Loc} {ls : Array Slot} (hw : Wd D A s (cT cI cL cF cM) (cW h cI cL cF cM F L r) H locs) (hl : lv_has ls 6 [(0, .ref (h 96))]) : W p l e rmX8_isNeeded s m args below meth c H locs 0 0 Q (F0 m 60 ls []) := by
  unfold wpX8_isNeeded_b60 at hh
  refine lv_iconst (v := (0 : Int32)) C.1 C.2.1 dX8_isNeeded_60 (by decide) ?_
  exact hR _ _ _ (F, L, r) _ _ dX8_isNeeded_61 rfl hh hw
def wpX8_isNeeded_b30_body (B30 : (Nat → Nat → Int32) → (Nat → Nat → Int64) → (Nat → Nat → Nat) → Int32 → Prop) (a1 : Nat) (F : Nat → Nat → Int32) (L : Nat → Nat → Int64) (r : Nat → Nat → Nat) (x5 : Int32) (K : Int32 → cS → Prop) : Prop :=
  (((36864 : Int32) ≤ x5) →
    wpX8_isNeeded_b60 a1 F L r K) ∧
  (¬ ((36864 : Int32) ≤ x5) →
    wpX8_nextStart F L r (fun r38 u38 =>
      ((r38 = 0) →
      wpX8_isNeeded_b60 a1 u38.1 u38.2.1 u38.2.2 K) ∧
    (¬ (r38 = 0) →
      False)))
set_option maxHeartbeats 4000000 in
set_option maxRecDepth 100000 in
theorem tX8_isNeeded_b30_body {a1 : Nat} {B30 : (Nat → Nat → Int32) → (Nat → Nat → Int64) → (Nat → Nat → Nat) → Int32 → Prop} {K : Int32 → cS → Prop} (C : CallFix p m c cX8_isNeeded 6 s args wsX8_isNeeded RX8) (hR : Rti .boolean p l e rmX8_isNeeded s m args below meth c cX8_isNeeded D A (cT cI cL cF cM) (cWu h cI cL cF cM) K Q) (ha1 : kd a1 = 6) (hB30 : ∀ (F : Nat → Nat → Int32) (L : Nat → Nat → Int64) (r : Nat → Nat → Nat) (x5 : Int32) (H : Heap) (locs : List Loc) (ls : Array Slot), B30 F L r x5 → Wd D A s (cT cI cL cF cM) (cW h cI cL cF cM F L r) H locs → lv_has ls 6 [(0, .ref (h 96)), (1, .ref (h a1)), (5, .int x5)] → W p l e rmX8_isNeeded s m args below meth c H locs 0 0 Q (F0 m 30 ls [])) {F : Nat → Nat → Int32} {L : Nat → Nat → Int64} {r : Nat → Nat → Nat} {x5 : Int32} (hh : wpX8_isNeeded_b30_body B30 a1 F L r x5 K) {H : Heap} {locs : List Loc} {ls : Array Slot} (hw : Wd D A s (cT cI cL cF cM) (cW h cI cL cF cM F L r) H locs) (hl : lv_has ls 6 [(0, .ref (h 96)), (1, .ref (h a1)), (5, .int x5)]) : W p l e rmX8_isNeeded s m args below meth c H locs 0 0 Q (F0 m 30 ls []) := by
  unfold wpX8_isNeeded_b30_body at hh
  refine lv_iload C.1 C.2.1 dX8_isNeeded_30 (lv_at hl 2 rfl) ?_
  refine lv_ldc C.1 C.2.1 C.2.2.2.1 (C.2.2.2.2 _ (wc w_1094)) dX8_isNeeded_32 ?_
  refine lv_icmp_ge (tgt := 60) C.1 C.2.1 dX8_isNeeded_34 (by decide) (fun c34 => ?_) (fun c34 => ?_)
  · replace hh := hh.1 c34
    exact tX8_isNeeded_b60 C hR ha1 hh hw (lv_sub hl [0] rfl)
  · replace hh := hh.2 c34
    refine lv_aload_n C.1 C.2.1 dX8_isNeeded_37 rfl (lv_at hl 0 rfl) ?_
    refine c_Vi C hw (ctX8_nextStart l D h cI cL cF cM F L r hh) (cwV 0 C.2.2.2.2 (gd_V w_1095 w_1097 w_40 w_123 w_1098) rfl rfl rfl cdX8_nextStart ⟨Nat.le_of_ble_eq_true rfl, Nat.le_of_ble_eq_true rfl⟩) rfl (kd_lt kp96 (by decide)) (ce8 kp96) rfl hl.1 (Nat.le_of_ble_eq_true rfl) dX8_isNeeded_38 ⟨Nat.zero_le _, Nat.zero_le _⟩ (fun r38 u38 H locs hh hw => ?_) rfl
    refine lv_if_eq (tgt := 60) C.1 C.2.1 dX8_isNeeded_41 (by decide) (fun c41 => ?_) (fun c41 => ?_)
    · replace hh := hh.1 c41
      exact tX8_isNeeded_b60 C hR ha1 hh hw (lv_sub hl [0] rfl)
    · replace hh := hh.2 c41
      refine lv_aload_n C.1 C.2.1 dX8_isNeeded_44 rfl (lv_at hl 0 rfl) ?_
      refine lv_aload_n C.1 C.2.1 dX8_isNeeded_45 rfl (lv_at hl 1 rfl) ?_
      exact hh.elim
def wpX8_isNeeded_b30 (a1 : Nat) (n_ : Nat) (F : Nat → Nat → Int32) (L : Nat → Nat → Int64) (r : Nat → Nat → Nat) (x5 : Int32) (K : Int32 → cS → Prop) : Prop := match n_ with
  | 0 => False
  | n + 1 => wpX8_isNeeded_b30_body (fun F L r x5 => wpX8_isNeeded_b30 a1 n F L r x5 K) a1 F L r x5 K
theorem tX8_isNeeded_b30 {a1 : Nat} {K : Int32 → cS → Prop} (C : CallFix p m c cX8_isNeeded 6 s args wsX8_isNeeded RX8) (hR : Rti .boolean p l e rmX8_isNeeded s m args below meth c cX8_isNeeded D A (cT cI cL cF cM) (cWu h cI cL cF cM) K Q) (ha1 : kd a1 = 6) (n : Nat) : ∀ (F : Nat → Nat → Int32) (L : Nat → Nat → Int64) (r : Nat → Nat → Nat) (x5 : Int32) (H : Heap) (locs : List Loc) (ls : Array Slot), wpX8_isNeeded_b30 a1 n F L r x5 K → Wd D A s (cT cI cL cF cM) (cW h cI cL cF cM F L r) H locs → lv_has ls 6 [(0, .ref (h 96)), (1, .ref (h a1)), (5, .int x5)] → W p l e rmX8_isNeeded s m args below meth c H locs 0 0 Q (F0 m 30 ls []) := by
  induction n with
  | zero => intro F L r x5 H locs ls hh; exact hh.elim
  | succ n ih => intro F L r x5 H locs ls hh hw hl; exact tX8_isNeeded_b30_body C hR ha1 ih hh hw hl
def wpX8_isNeeded_b0 (a1 : Nat) (F : Nat → Nat → Int32) (L : Nat → Nat → Int64) (r : Nat → Nat → Nat) (x2 : Int32) (x3 : Int32) (x4 : Int32) (K : Int32 → cS → Prop) : Prop :=
  wpX6_usesYes a1 F L r x2 (fun r2 u2 =>
    (¬ (r2 = 0) →
    wpX8_layFirst u2.1 u2.2.1 u2.2.2 x3 x4 (fun u14 =>
      ∃ n, wpX8_isNeeded_b30 a1 n (pt u14.1 88 8 (jshl (1 : Int32) x2)) u14.2.1 u14.2.2 (0 : Int32) K)) ∧
  ((r2 = 0) →
    K (0 : Int32) (u2.1, u2.2.1, u2.2.2)))
set_option maxHeartbeats 4000000 in
set_option maxRecDepth 100000 in
theorem tX8_isNeeded_b0 {a1 : Nat} {K : Int32 → cS → Prop} (C : CallFix p m c cX8_isNeeded 6 s args wsX8_isNeeded RX8) (hR : Rti .boolean p l e rmX8_isNeeded s m args below meth c cX8_isNeeded D A (cT cI cL cF cM) (cWu h cI cL cF cM) K Q) (ha1 : kd a1 = 6) {F : Nat → Nat → Int32} {L : Nat → Nat → Int64} {r : Nat → Nat → Nat} {x2 : Int32} {x3 : Int32} {x4 : Int32} (hh : wpX8_isNeeded_b0 a1 F L r x2 x3 x4 K) {H : Heap} {locs : List Loc} {ls : Array Slot} (hw : Wd D A s (cT cI cL cF cM) (cW h cI cL cF cM F L r) H locs) (hl : lv_has ls 6 [(0, .ref (h 96)), (1, .ref (h a1)), (2, .int x2), (3, .int x3), (4, .int x4)]) : W p l e rmX8_isNeeded s m args below meth c H locs 0 0 Q (F0 m 0 ls []) := by
  unfold wpX8_isNeeded_b0 at hh
  refine lv_aload_n C.1 C.2.1 dX8_isNeeded_0 rfl (lv_at hl 1 rfl) ?_
  refine lv_iload_n C.1 C.2.1 dX8_isNeeded_1 rfl (lv_at hl 2 rfl) ?_
  refine c_Vi C hw (ctX6_usesYes l D h cI cL cF cM a1 ha1 F L r x2 hh) (cwV 1 C.2.2.2.2 (gd_V w_1139 w_1140 w_1141 w_117 w_1142) rfl rfl rfl cdX6_usesYes ⟨Nat.le_of_ble_eq_true rfl, Nat.le_of_ble_eq_true rfl⟩) rfl (kd_lt ha1 (by decide)) (ce6 ha1) rfl hl.1 (Nat.le_of_ble_eq_true rfl) dX8_isNeeded_2 ⟨Nat.zero_le _, Nat.zero_le _⟩ (fun r2 u2 H locs hh hw => ?_) rfl
  refine lv_if_ne (tgt := 10) C.1 C.2.1 dX8_isNeeded_5 (by decide) (fun c5 => ?_) (fun c5 => ?_)
  · replace hh := hh.1 c5
    refine lv_aload_n C.1 C.2.1 dX8_isNeeded_10 rfl (lv_at hl 0 rfl) ?_
    refine lv_iload_n C.1 C.2.1 dX8_isNeeded_11 rfl (lv_at hl 3 rfl) ?_
    refine lv_iload C.1 C.2.1 dX8_isNeeded_12 (lv_at hl 4 rfl) ?_
    refine c_Vv C hw (ctX8_layFirst l D h cI cL cF cM u2.1 u2.2.1 u2.2.2 x3 x4 hh) (cwV 2 C.2.2.2.2 (gd_V w_1084 w_1086 w_38 w_123 w_1087) rfl rfl rfl cdX8_layFirst ⟨Nat.le_of_ble_eq_true rfl, Nat.le_of_ble_eq_true rfl⟩) rfl (kd_lt kp96 (by decide)) (ce8 kp96) rfl hl.1 (Nat.le_of_ble_eq_true rfl) dX8_isNeeded_14 ⟨Nat.zero_le _, Nat.zero_le _⟩ (fun u14 H locs hh hw => ?_) rfl
    refine lv_aload_n C.1 C.2.1 dX8_isNeeded_17 rfl (lv_at hl 0 rfl) ?_
    refine c_get C hw (inC inW8) (kd_lt kp96 (by decide)) (ce8 kp96) rfl 2 (by decide) (wc w_477) (v := .ref (h 88)) rfl dX8_isNeeded_18 ?_
    refine lv_iconst (v := (1 : Int32)) C.1 C.2.1 dX8_isNeeded_21 (by decide) ?_
    refine lv_iload_n C.1 C.2.1 dX8_isNeeded_22 rfl (lv_at hl 2 rfl) ?_
    refine g_ishl C dX8_isNeeded_23 ?_
    refine c_puti C hw (inC inW3) tyX3 tyX3_ok nmX3 (kd_lt kp88 (by decide)) (ce3 kp88) rfl 8 (by decide) (wc w_409) rfl (ty := .int) (by decide +kernel) rfl rfl (Nat.le_of_ble_eq_true rfl) rfl dX8_isNeeded_24 (fun H locs hw => ?_)
    refine lv_iconst (v := (0 : Int32)) C.1 C.2.1 dX8_isNeeded_27 (by decide) ?_
    refine lv_istore (lv' := [(5, .int (0 : Int32)), (0, .ref (h 96)), (1, .ref (h a1)), (2, .int x2), (3, .int x3), (4, .int x4)]) C.1 C.2.1 dX8_isNeeded_28 hl (by decide) rfl (fun ls hl => ?_)
    obtain ⟨n, hh⟩ := hh
    exact tX8_isNeeded_b30 C hR ha1 n _ _ _ _ _ _ _ hh hw (lv_sub hl [1, 2, 0] rfl)
  · replace hh := hh.2 c5
    refine lv_iconst (v := (0 : Int32)) C.1 C.2.1 dX8_isNeeded_8 (by decide) ?_
    exact hR _ _ _ (u2.1, u2.2.1, u2.2.2) _ _ dX8_isNeeded_9 rfl hh hw
def wpX8_isNeeded (a1 : Nat) (F : Nat → Nat → Int32) (L : Nat → Nat → Int64) (r : Nat → Nat → Nat) (x2 : Int32) (x3 : Int32) (x4 : Int32) (K : Int32 → cS → Prop) : Prop := wpX8_isNeeded_b0 a1 F L r x2 x3 x4 K
theorem ctX8_isNeeded (l : Launch) (D : va_G) (h : Nat → Nat) (cI cL cF cM : ClassId) (a1 : Nat) (ha1 : kd a1 = 6) (F : Nat → Nat → Int32) (L : Nat → Nat → Int64) (r : Nat → Nat → Nat) (x2 : Int32) (x3 : Int32) (x4 : Int32) {K : Int32 → cS → Prop} (hh : wpX8_isNeeded a1 F L r x2 x3 x4 K) : Ci l yX8_isNeeded wsX8_isNeeded rmX8_isNeeded [.ref (h 96), .ref (h a1), .int x2, .int x3, .int x4] D (cT cI cL cF cM) (cWu h cI cL cF cM) (F, L, r) K := by
  refine Ci_of (cc := cX8_isNeeded) (maxL := 6) (by decide) rfl (Nat.le_of_ble_eq_true rfl) ?_
  intro p e s m below meth c A Q C hw hR ls hl
  exact tX8_isNeeded_b0 C hR ha1 hh hw hl
theorem cdX8_isNeeded : yX8_isNeeded.cls = RX8 ∧ yX8_isNeeded.cls ≠ "java/lang/invoke/MethodHandle" ∧ yX8_isNeeded.cls ≠ "java/lang/invoke/VarHandle" ∧ (parseMethodDescriptor yX8_isNeeded.desc).map (fun d => d.parameters.length) = some 4 := by decide +kernel
abbrev rmX10_needs : Room := { frames := 5, cells := 0, slots := 0, locals := 115 }
def wpX10_needs_b17 (F : Nat → Nat → Int32) (L : Nat → Nat → Int64) (r : Nat → Nat → Nat) (K : Int32 → cS → Prop) : Prop :=
  K (-1 : Int32) (F, L, r)
set_option maxHeartbeats 4000000 in
set_option maxRecDepth 100000 in
theorem tX10_needs_b17 {K : Int32 → cS → Prop} (C : CallFix p m c cX10_needs 4 s args wsX10_needs RX10) (hR : Rti .int p l e rmX10_needs s m args below meth c cX10_needs D A (cT cI cL cF cM) (cWu h cI cL cF cM) K Q) {F : Nat → Nat → Int32} {L : Nat → Nat → Int64} {r : Nat → Nat → Nat} (hh : wpX10_needs_b17 F L r K) {H : Heap} {locs : List Loc} {ls : Array Slot} (hw : Wd D A s (cT cI cL cF cM) (cW h cI cL cF cM F L r) H locs) (hl : lv_has ls 4 [(0, .ref (h 0))]) : W p l e rmX10_needs s m args below meth c H locs 0 0 Q (F0 m 17 ls []) := by
  unfold wpX10_needs_b17 at hh
  refine lv_iconst (v := (-1 : Int32)) C.1 C.2.1 dX10_needs_17 (by decide) ?_
  exact hR _ _ _ (F, L, r) _ _ dX10_needs_18 rfl hh hw
def wpX10_needs_b41 (F : Nat → Nat → Int32) (L : Nat → Nat → Int64) (r : Nat → Nat → Nat) (k0 : Int32) (K : Int32 → cS → Prop) : Prop :=
  K k0 (F, L, r)
set_option maxHeartbeats 4000000 in
set_option maxRecDepth 100000 in
theorem tX10_needs_b41 {K : Int32 → cS → Prop} (C : CallFix p m c cX10_needs 4 s args wsX10_needs RX10) (hR : Rti .int p l e rmX10_needs s m args below meth c cX10_needs D A (cT cI cL cF cM) (cWu h cI cL cF cM) K Q) {F : Nat → Nat → Int32} {L : Nat → Nat → Int64} {r : Nat → Nat → Nat} {k0 : Int32} (hh : wpX10_needs_b41 F L r k0 K) {H : Heap} {locs : List Loc} {ls : Array Slot} (hw : Wd D A s (cT cI cL cF cM) (cW h cI cL cF cM F L r) H locs) (hl : lv_has ls 4 [(0, .ref (h 0))]) : W p l e rmX10_needs s m args below meth c H locs 0 0 Q (F0 m 41 ls [.int k0]) := by
  unfold wpX10_needs_b41 at hh
  exact hR _ _ _ (F, L, r) _ _ dX10_needs_41 rfl hh hw
def wpX10_needs_b0 (F : Nat → Nat → Int32) (L : Nat → Nat → Int64) (r : Nat → Nat → Nat) (x1 : Int32) (x2 : Int32) (x3 : Int32) (K : Int32 → cS → Prop) : Prop :=
  wpX8_isSmall x2 x3 (fun r2 u2 =>
    ((r2 = 0) →
    wpX10_needs_b17 F L r K) ∧
  (¬ (r2 = 0) →
    ((x1 < 0) →
      wpX10_needs_b17 F L r K) ∧
    (¬ (x1 < 0) →
      ((x1 < (3 : Int32)) →
        kd (r 0 3) = 6 ∧ wpX8_isNeeded (r 0 3) F L r x1 x2 x3 (fun r30 u30 =>
          ((r30 = 0) →
          wpX10_needs_b41 u30.1 u30.2.1 u30.2.2 (0 : Int32) K) ∧
        (¬ (r30 = 0) →
          wpX10_needs_b41 u30.1 u30.2.1 u30.2.2 (1 : Int32) K))) ∧
      (¬ (x1 < (3 : Int32)) →
        wpX10_needs_b17 F L r K))))
set_option maxHeartbeats 4000000 in
set_option maxRecDepth 100000 in
theorem tX10_needs_b0 {K : Int32 → cS → Prop} (C : CallFix p m c cX10_needs 4 s args wsX10_needs RX10) (hR : Rti .int p l e rmX10_needs s m args below meth c cX10_needs D A (cT cI cL cF cM) (cWu h cI cL cF cM) K Q) {F : Nat → Nat → Int32} {L : Nat → Nat → Int64} {r : Nat → Nat → Nat} {x1 : Int32} {x2 : Int32} {x3 : Int32} (hh : wpX10_needs_b0 F L r x1 x2 x3 K) {H : Heap} {locs : List Loc} {ls : Array Slot} (hw : Wd D A s (cT cI cL cF cM) (cW h cI cL cF cM F L r) H locs) (hl : lv_has ls 4 [(0, .ref (h 0)), (1, .int x1), (2, .int x2), (3, .int x3)]) : W p l e rmX10_needs s m args below meth c H locs 0 0 Q (F0 m 0 ls []) := by
  unfold wpX10_needs_b0 at hh
  refine lv_iload_n C.1 C.2.1 dX10_needs_0 rfl (lv_at hl 2 rfl) ?_
  refine lv_iload_n C.1 C.2.1 dX10_needs_1 rfl (lv_at hl 3 rfl) ?_
  refine wd_Si C hw (ctX8_isSmall l D x2 x3 hh) (va_cwS 2 C.2.2.2.2 (gd_S w_1073 w_1074 (ini_cls rfl w_123) w_1075) rfl rfl rfl cdX8_isSmall ⟨Nat.le_of_ble_eq_true rfl, Nat.le_of_ble_eq_true rfl⟩) rfl hl.1 (Nat.le_of_ble_eq_true rfl) dX10_needs_2 ⟨Nat.zero_le _, Nat.zero_le _⟩ (fun r2 H locs hh hw => ?_) rfl
  refine lv_if_eq (tgt := 17) C.1 C.2.1 dX10_needs_5 (by decide) (fun c5 => ?_) (fun c5 => ?_)
  · replace hh := hh.1 c5
    exact tX10_needs_b17 C hR hh hw (lv_sub hl [0] rfl)
  · replace hh := hh.2 c5
    refine lv_iload_n C.1 C.2.1 dX10_needs_8 rfl (lv_at hl 1 rfl) ?_
    refine lv_if_lt (tgt := 17) C.1 C.2.1 dX10_needs_9 (by decide) (fun c9 => ?_) (fun c9 => ?_)
    · replace hh := hh.1 c9
      exact tX10_needs_b17 C hR hh hw (lv_sub hl [0] rfl)
    · replace hh := hh.2 c9
      refine lv_iload_n C.1 C.2.1 dX10_needs_12 rfl (lv_at hl 1 rfl) ?_
      refine lv_iconst (v := (3 : Int32)) C.1 C.2.1 dX10_needs_13 (by decide) ?_
      refine lv_icmp_lt (tgt := 19) C.1 C.2.1 dX10_needs_14 (by decide) (fun c14 => ?_) (fun c14 => ?_)
      · replace hh := hh.1 c14
        refine lv_aload_n C.1 C.2.1 dX10_needs_19 rfl (lv_at hl 0 rfl) ?_
        refine c_get C hw (inC inW10) (kd_lt kp0 (by decide)) (ce10 kp0) rfl 13 (by decide) (wc w_583) (v := .ref (h 96)) rfl dX10_needs_20 ?_
        refine lv_aload_n C.1 C.2.1 dX10_needs_23 rfl (lv_at hl 0 rfl) ?_
        refine c_get C hw (inC inW10) (kd_lt kp0 (by decide)) (ce10 kp0) rfl 3 (by decide) (wc w_573) (v := .ref (h (r 0 3))) rfl dX10_needs_24 ?_
        refine lv_iload_n C.1 C.2.1 dX10_needs_27 rfl (lv_at hl 1 rfl) ?_
        refine lv_iload_n C.1 C.2.1 dX10_needs_28 rfl (lv_at hl 2 rfl) ?_
        refine lv_iload_n C.1 C.2.1 dX10_needs_29 rfl (lv_at hl 3 rfl) ?_
        obtain ⟨hk0, hh⟩ := hh
        refine c_Vi C hw (ctX8_isNeeded l D h cI cL cF cM (r 0 3) hk0 F L r x1 x2 x3 hh) (cwV 4 C.2.2.2.2 (gd_V w_1135 w_1136 w_1137 w_123 w_1138) rfl rfl rfl cdX8_isNeeded ⟨Nat.le_of_ble_eq_true rfl, Nat.le_of_ble_eq_true rfl⟩) rfl (kd_lt kp96 (by decide)) (ce8 kp96) rfl hl.1 (Nat.le_of_ble_eq_true rfl) dX10_needs_30 ⟨Nat.zero_le _, Nat.zero_le _⟩ (fun r30 u30 H locs hh hw => ?_) rfl
        refine lv_if_eq (tgt := 40) C.1 C.2.1 dX10_needs_33 (by decide) (fun c33 => ?_) (fun c33 => ?_)
        · replace hh := hh.1 c33
          refine lv_iconst (v := (0 : Int32)) C.1 C.2.1 dX10_needs_40 (by decide) ?_
          exact tX10_needs_b41 C hR hh hw (lv_sub hl [0] rfl)
        · replace hh := hh.2 c33
          refine lv_iconst (v := (1 : Int32)) C.1 C.2.1 dX10_needs_36 (by decide) ?_
          refine lv_goto (tgt := 41) C.1 C.2.1 dX10_needs_37 (by decide) ?_
          exact tX10_needs_b41 C hR hh hw (lv_sub hl [0] rfl)
      · replace hh := hh.2 c14
        exact tX10_needs_b17 C hR hh hw (lv_sub hl [0] rfl)
def wpX10_needs (F : Nat → Nat → Int32) (L : Nat → Nat → Int64) (r : Nat → Nat → Nat) (x1 : Int32) (x2 : Int32) (x3 : Int32) (K : Int32 → cS → Prop) : Prop := wpX10_needs_b0 F L r x1 x2 x3 K
theorem ctX10_needs (l : Launch) (D : va_G) (h : Nat → Nat) (cI cL cF cM : ClassId) (F : Nat → Nat → Int32) (L : Nat → Nat → Int64) (r : Nat → Nat → Nat) (x1 : Int32) (x2 : Int32) (x3 : Int32) {K : Int32 → cS → Prop} (hh : wpX10_needs F L r x1 x2 x3 K) : Ci l yX10_needs wsX10_needs rmX10_needs [.ref (h 0), .int x1, .int x2, .int x3] D (cT cI cL cF cM) (cWu h cI cL cF cM) (F, L, r) K := by
  refine Ci_of (cc := cX10_needs) (maxL := 4) (by decide) rfl (Nat.le_of_ble_eq_true rfl) ?_
  intro p e s m below meth c A Q C hw hR ls hl
  exact tX10_needs_b0 C hR hh hw hl
theorem cdX10_needs : yX10_needs.cls = RX10 ∧ yX10_needs.cls ≠ "java/lang/invoke/MethodHandle" ∧ yX10_needs.cls ≠ "java/lang/invoke/VarHandle" ∧ (parseMethodDescriptor yX10_needs.desc).map (fun d => d.parameters.length) = some 3 := by decide +kernel
abbrev rmX10_knows : Room := { frames := 1, cells := 0, slots := 0, locals := 22 }
def wpX10_knows_b17_body (B17 : (Nat → Nat → Int32) → (Nat → Nat → Int64) → (Nat → Nat → Nat) → Int32 → Int32 → Prop) (F : Nat → Nat → Int32) (L : Nat → Nat → Int64) (r : Nat → Nat → Nat) (x2 : Int32) (x3 : Int32) (K : Int32 → cS → Prop) : Prop :=
  (((F 46 2) ≤ x3) →
    K (-1 : Int32) (F, L, r)) ∧
  (¬ ((F 46 2) ≤ x3) →
    (¬ (x2 = (F 46 3)) →
      wpX3_wayOf 74 F L r x2 (fun r46 u46 =>
        wpX1_isWalled 46 u46.1 u46.2.1 u46.2.2 x2 r46 (fun r58 u58 =>
        ((r58 = 0) →
        wpX1_ahead 46 u58.1 u58.2.1 u58.2.2 x2 r46 (fun r73 u73 =>
          B17 u73.1 u73.2.1 u73.2.2 r73 (x3 + (1 : Int32)))) ∧
      (¬ (r58 = 0) →
        K (-1 : Int32) (u58.1, u58.2.1, u58.2.2))))) ∧
    ((x2 = (F 46 3)) →
      K x3 (F, L, r)))
set_option maxHeartbeats 4000000 in
set_option maxRecDepth 100000 in
theorem tX10_knows_b17_body {B17 : (Nat → Nat → Int32) → (Nat → Nat → Int64) → (Nat → Nat → Nat) → Int32 → Int32 → Prop} {K : Int32 → cS → Prop} (C : CallFix p m c cX10_knows 5 s args wsX10_knows RX10) (hR : Rti .int p l e rmX10_knows s m args below meth c cX10_knows D A (cT cI cL cF cM) (cWu h cI cL cF cM) K Q) (hB17 : ∀ (F : Nat → Nat → Int32) (L : Nat → Nat → Int64) (r : Nat → Nat → Nat) (x2 : Int32) (x3 : Int32) (H : Heap) (locs : List Loc) (ls : Array Slot), B17 F L r x2 x3 → Wd D A s (cT cI cL cF cM) (cW h cI cL cF cM F L r) H locs → lv_has ls 5 [(0, .ref (h 0)), (2, .int x2), (3, .int x3)] → W p l e rmX10_knows s m args below meth c H locs 0 0 Q (F0 m 17 ls [])) {F : Nat → Nat → Int32} {L : Nat → Nat → Int64} {r : Nat → Nat → Nat} {x2 : Int32} {x3 : Int32} (hh : wpX10_knows_b17_body B17 F L r x2 x3 K) {H : Heap} {locs : List Loc} {ls : Array Slot} (hw : Wd D A s (cT cI cL cF cM) (cW h cI cL cF cM F L r) H locs) (hl : lv_has ls 5 [(0, .ref (h 0)), (2, .int x2), (3, .int x3)]) : W p l e rmX10_knows s m args below meth c H locs 0 0 Q (F0 m 17 ls []) := by
  unfold wpX10_knows_b17_body at hh
  refine lv_iload_n C.1 C.2.1 dX10_knows_17 rfl (lv_at hl 2 rfl) ?_
  refine lv_aload_n C.1 C.2.1 dX10_knows_18 rfl (lv_at hl 0 rfl) ?_
  refine c_get C hw (inC inW10) (kd_lt kp0 (by decide)) (ce10 kp0) rfl 5 (by decide) (wc w_575) (v := .ref (h 46)) rfl dX10_knows_19 ?_
  refine c_get C hw (inC inW1) (kd_lt kp46 (by decide)) (ce1 kp46) rfl 2 (by decide) (wc w_360) (v := .int (F 46 2)) rfl dX10_knows_22 ?_
  refine lv_icmp_ge (tgt := 83) C.1 C.2.1 dX10_knows_25 (by decide) (fun c25 => ?_) (fun c25 => ?_)
  · replace hh := hh.1 c25
    refine lv_iconst (v := (-1 : Int32)) C.1 C.2.1 dX10_knows_83 (by decide) ?_
    exact hR _ _ _ (F, L, r) _ _ dX10_knows_84 rfl hh hw
  · replace hh := hh.2 c25
    refine lv_iload_n C.1 C.2.1 dX10_knows_28 rfl (lv_at hl 1 rfl) ?_
    refine lv_aload_n C.1 C.2.1 dX10_knows_29 rfl (lv_at hl 0 rfl) ?_
    refine c_get C hw (inC inW10) (kd_lt kp0 (by decide)) (ce10 kp0) rfl 5 (by decide) (wc w_575) (v := .ref (h 46)) rfl dX10_knows_30 ?_
    refine c_get C hw (inC inW1) (kd_lt kp46 (by decide)) (ce1 kp46) rfl 3 (by decide) (wc w_362) (v := .int (F 46 3)) rfl dX10_knows_33 ?_
    refine lv_icmp_ne (tgt := 41) C.1 C.2.1 dX10_knows_36 (by decide) (fun c36 => ?_) (fun c36 => ?_)
    · replace hh := hh.1 c36
      refine lv_aload_n C.1 C.2.1 dX10_knows_41 rfl (lv_at hl 0 rfl) ?_
      refine c_get C hw (inC inW10) (kd_lt kp0 (by decide)) (ce10 kp0) rfl 6 (by decide) (wc w_576) (v := .ref (h 74)) rfl dX10_knows_42 ?_
      refine lv_iload_n C.1 C.2.1 dX10_knows_45 rfl (lv_at hl 1 rfl) ?_
      refine c_Vi C hw (ctX3_wayOf l D h cI cL cF cM 74 kp74 F L r x2 hh) (cwV 1 C.2.2.2.2 (gd_V w_1157 w_1006 w_1007 w_121 w_1008) rfl rfl rfl cdX3_wayOf ⟨Nat.le_of_ble_eq_true rfl, Nat.le_of_ble_eq_true rfl⟩) rfl (kd_lt kp74 (by decide)) (ce3 kp74) rfl hl.1 (Nat.le_of_ble_eq_true rfl) dX10_knows_46 ⟨Nat.zero_le _, Nat.zero_le _⟩ (fun r46 u46 H locs hh hw => ?_) rfl
      refine lv_istore (lv' := [(4, .int r46), (0, .ref (h 0)), (2, .int x2), (3, .int x3)]) C.1 C.2.1 dX10_knows_49 hl (by decide) rfl (fun ls hl => ?_)
      refine lv_aload_n C.1 C.2.1 dX10_knows_51 rfl (lv_at hl 1 rfl) ?_
      refine c_get C hw (inC inW10) (kd_lt kp0 (by decide)) (ce10 kp0) rfl 5 (by decide) (wc w_575) (v := .ref (h 46)) rfl dX10_knows_52 ?_
      refine lv_iload_n C.1 C.2.1 dX10_knows_55 rfl (lv_at hl 2 rfl) ?_
      refine lv_iload C.1 C.2.1 dX10_knows_56 (lv_at hl 0 rfl) ?_
      refine c_Vi C hw (ctX1_isWalled l D h cI cL cF cM 46 kp46 u46.1 u46.2.1 u46.2.2 x2 r46 hh) (cwV 2 C.2.2.2.2 (gd_V w_948 w_949 w_950 w_120 w_951) rfl rfl rfl cdX1_isWalled ⟨Nat.le_of_ble_eq_true rfl, Nat.le_of_ble_eq_true rfl⟩) rfl (kd_lt kp46 (by decide)) (ce1 kp46) rfl hl.1 (Nat.le_of_ble_eq_true rfl) dX10_knows_58 ⟨Nat.zero_le _, Nat.zero_le _⟩ (fun r58 u58 H locs hh hw => ?_) rfl
      refine lv_if_eq (tgt := 66) C.1 C.2.1 dX10_knows_61 (by decide) (fun c61 => ?_) (fun c61 => ?_)
      · replace hh := hh.1 c61
        refine lv_aload_n C.1 C.2.1 dX10_knows_66 rfl (lv_at hl 1 rfl) ?_
        refine c_get C hw (inC inW10) (kd_lt kp0 (by decide)) (ce10 kp0) rfl 5 (by decide) (wc w_575) (v := .ref (h 46)) rfl dX10_knows_67 ?_
        refine lv_iload_n C.1 C.2.1 dX10_knows_70 rfl (lv_at hl 2 rfl) ?_
        refine lv_iload C.1 C.2.1 dX10_knows_71 (lv_at hl 0 rfl) ?_
        refine c_Vi C hw (ctX1_ahead l D h cI cL cF cM 46 kp46 u58.1 u58.2.1 u58.2.2 x2 r46 hh) (cwV 2 C.2.2.2.2 (gd_V w_1158 w_962 w_963 w_120 w_964) rfl rfl rfl cdX1_ahead ⟨Nat.le_of_ble_eq_true rfl, Nat.le_of_ble_eq_true rfl⟩) rfl (kd_lt kp46 (by decide)) (ce1 kp46) rfl hl.1 (Nat.le_of_ble_eq_true rfl) dX10_knows_73 ⟨Nat.zero_le _, Nat.zero_le _⟩ (fun r73 u73 H locs hh hw => ?_) rfl
        refine lv_istore_n (lv' := [(2, .int r73), (4, .int r46), (0, .ref (h 0)), (3, .int x3)]) C.1 C.2.1 dX10_knows_76 rfl hl (by decide) rfl (fun ls hl => ?_)
        refine lv_iinc (v := x3 + (1 : Int32)) (lv' := [(3, .int (x3 + (1 : Int32))), (2, .int r73), (4, .int r46), (0, .ref (h 0))]) C.1 C.2.1 dX10_knows_77 hl (k := 3) rfl rfl (by decide) rfl (fun ls hl => ?_)
        refine lv_goto (tgt := 17) C.1 C.2.1 dX10_knows_80 (by decide) ?_
        exact hB17 _ _ _ _ _ _ _ _ hh hw (lv_sub hl [3, 1, 0] rfl)
      · replace hh := hh.2 c61
        refine lv_iconst (v := (-1 : Int32)) C.1 C.2.1 dX10_knows_64 (by decide) ?_
        exact hR _ _ _ (u58.1, u58.2.1, u58.2.2) _ _ dX10_knows_65 rfl hh hw
    · replace hh := hh.2 c36
      refine lv_iload_n C.1 C.2.1 dX10_knows_39 rfl (lv_at hl 2 rfl) ?_
      exact hR _ _ _ (F, L, r) _ _ dX10_knows_40 rfl hh hw
def wpX10_knows_b17 (n_ : Nat) (F : Nat → Nat → Int32) (L : Nat → Nat → Int64) (r : Nat → Nat → Nat) (x2 : Int32) (x3 : Int32) (K : Int32 → cS → Prop) : Prop := match n_ with
  | 0 => False
  | n + 1 => wpX10_knows_b17_body (fun F L r x2 x3 => wpX10_knows_b17 n F L r x2 x3 K) F L r x2 x3 K
theorem tX10_knows_b17 {K : Int32 → cS → Prop} (C : CallFix p m c cX10_knows 5 s args wsX10_knows RX10) (hR : Rti .int p l e rmX10_knows s m args below meth c cX10_knows D A (cT cI cL cF cM) (cWu h cI cL cF cM) K Q) (n : Nat) : ∀ (F : Nat → Nat → Int32) (L : Nat → Nat → Int64) (r : Nat → Nat → Nat) (x2 : Int32) (x3 : Int32) (H : Heap) (locs : List Loc) (ls : Array Slot), wpX10_knows_b17 n F L r x2 x3 K → Wd D A s (cT cI cL cF cM) (cW h cI cL cF cM F L r) H locs → lv_has ls 5 [(0, .ref (h 0)), (2, .int x2), (3, .int x3)] → W p l e rmX10_knows s m args below meth c H locs 0 0 Q (F0 m 17 ls []) := by
  induction n with
  | zero => intro F L r x2 x3 H locs ls hh; exact hh.elim
  | succ n ih => intro F L r x2 x3 H locs ls hh hw hl; exact tX10_knows_b17_body C hR ih hh hw hl
def wpX10_knows_b0 (F : Nat → Nat → Int32) (L : Nat → Nat → Int64) (r : Nat → Nat → Nat) (x1 : Int32) (K : Int32 → cS → Prop) : Prop :=
  wpX1_has 46 F L r x1 (fun r5 u5 =>
    (¬ (r5 = 0) →
    ∃ n, wpX10_knows_b17 n u5.1 u5.2.1 u5.2.2 x1 (0 : Int32) K) ∧
  ((r5 = 0) →
    K (-1 : Int32) (u5.1, u5.2.1, u5.2.2)))
set_option maxHeartbeats 4000000 in
set_option maxRecDepth 100000 in
theorem tX10_knows_b0 {K : Int32 → cS → Prop} (C : CallFix p m c cX10_knows 5 s args wsX10_knows RX10) (hR : Rti .int p l e rmX10_knows s m args below meth c cX10_knows D A (cT cI cL cF cM) (cWu h cI cL cF cM) K Q) {F : Nat → Nat → Int32} {L : Nat → Nat → Int64} {r : Nat → Nat → Nat} {x1 : Int32} (hh : wpX10_knows_b0 F L r x1 K) {H : Heap} {locs : List Loc} {ls : Array Slot} (hw : Wd D A s (cT cI cL cF cM) (cW h cI cL cF cM F L r) H locs) (hl : lv_has ls 5 [(0, .ref (h 0)), (1, .int x1)]) : W p l e rmX10_knows s m args below meth c H locs 0 0 Q (F0 m 0 ls []) := by
  unfold wpX10_knows_b0 at hh
  refine lv_aload_n C.1 C.2.1 dX10_knows_0 rfl (lv_at hl 0 rfl) ?_
  refine c_get C hw (inC inW10) (kd_lt kp0 (by decide)) (ce10 kp0) rfl 5 (by decide) (wc w_575) (v := .ref (h 46)) rfl dX10_knows_1 ?_
  refine lv_iload_n C.1 C.2.1 dX10_knows_4 rfl (lv_at hl 1 rfl) ?_
  refine c_Vi C hw (ctX1_has l D h cI cL cF cM 46 kp46 F L r x1 hh) (cwV 1 C.2.2.2.2 (gd_V w_937 w_938 w_939 w_120 w_940) rfl rfl rfl cdX1_has ⟨Nat.le_of_ble_eq_true rfl, Nat.le_of_ble_eq_true rfl⟩) rfl (kd_lt kp46 (by decide)) (ce1 kp46) rfl hl.1 (Nat.le_of_ble_eq_true rfl) dX10_knows_5 ⟨Nat.zero_le _, Nat.zero_le _⟩ (fun r5 u5 H locs hh hw => ?_) rfl
  refine lv_if_ne (tgt := 13) C.1 C.2.1 dX10_knows_8 (by decide) (fun c8 => ?_) (fun c8 => ?_)
  · replace hh := hh.1 c8
    refine lv_iload_n C.1 C.2.1 dX10_knows_13 rfl (lv_at hl 1 rfl) ?_
    refine lv_istore_n (lv' := [(2, .int x1), (0, .ref (h 0)), (1, .int x1)]) C.1 C.2.1 dX10_knows_14 rfl hl (by decide) rfl (fun ls hl => ?_)
    refine lv_iconst (v := (0 : Int32)) C.1 C.2.1 dX10_knows_15 (by decide) ?_
    refine lv_istore_n (lv' := [(3, .int (0 : Int32)), (2, .int x1), (0, .ref (h 0)), (1, .int x1)]) C.1 C.2.1 dX10_knows_16 rfl hl (by decide) rfl (fun ls hl => ?_)
    obtain ⟨n, hh⟩ := hh
    exact tX10_knows_b17 C hR n _ _ _ _ _ _ _ _ hh hw (lv_sub hl [2, 1, 0] rfl)
  · replace hh := hh.2 c8
    refine lv_iconst (v := (-1 : Int32)) C.1 C.2.1 dX10_knows_11 (by decide) ?_
    exact hR _ _ _ (u5.1, u5.2.1, u5.2.2) _ _ dX10_knows_12 rfl hh hw
def wpX10_knows (F : Nat → Nat → Int32) (L : Nat → Nat → Int64) (r : Nat → Nat → Nat) (x1 : Int32) (K : Int32 → cS → Prop) : Prop := wpX10_knows_b0 F L r x1 K
theorem ctX10_knows (l : Launch) (D : va_G) (h : Nat → Nat) (cI cL cF cM : ClassId) (F : Nat → Nat → Int32) (L : Nat → Nat → Int64) (r : Nat → Nat → Nat) (x1 : Int32) {K : Int32 → cS → Prop} (hh : wpX10_knows F L r x1 K) : Ci l yX10_knows wsX10_knows rmX10_knows [.ref (h 0), .int x1] D (cT cI cL cF cM) (cWu h cI cL cF cM) (F, L, r) K := by
  refine Ci_of (cc := cX10_knows) (maxL := 5) (by decide) rfl (Nat.le_of_ble_eq_true rfl) ?_
  intro p e s m below meth c A Q C hw hR ls hl
  exact tX10_knows_b0 C hR hh hw hl
theorem cdX10_knows : yX10_knows.cls = RX10 ∧ yX10_knows.cls ≠ "java/lang/invoke/MethodHandle" ∧ yX10_knows.cls ≠ "java/lang/invoke/VarHandle" ∧ (parseMethodDescriptor yX10_knows.desc).map (fun d => d.parameters.length) = some 1 := by decide +kernel
abbrev rmX3_inputs : Room := { frames := 1, cells := 0, slots := 0, locals := 22 }
def wpX3_inputs_b48 (a0 : Nat) (a1 : Nat) (F : Nat → Nat → Int32) (L : Nat → Nat → Int64) (r : Nat → Nat → Nat) (x2 : Int32) (K : Int32 → cS → Prop) : Prop :=
  K x2 (F, L, r)
set_option maxHeartbeats 4000000 in
set_option maxRecDepth 100000 in
theorem tX3_inputs_b48 {a0 : Nat} {a1 : Nat} {K : Int32 → cS → Prop} (C : CallFix p m c cX3_inputs 3 s args wsX3_inputs RX3) (hR : Rti .int p l e rmX3_inputs s m args below meth c cX3_inputs D A (cT cI cL cF cM) (cWu h cI cL cF cM) K Q) (ha0 : kd a0 = 3) (ha1 : kd a1 = 1) {F : Nat → Nat → Int32} {L : Nat → Nat → Int64} {r : Nat → Nat → Nat} {x2 : Int32} (hh : wpX3_inputs_b48 a0 a1 F L r x2 K) {H : Heap} {locs : List Loc} {ls : Array Slot} (hw : Wd D A s (cT cI cL cF cM) (cW h cI cL cF cM F L r) H locs) (hl : lv_has ls 3 [(0, .ref (h a0)), (2, .int x2)]) : W p l e rmX3_inputs s m args below meth c H locs 0 0 Q (F0 m 48 ls []) := by
  unfold wpX3_inputs_b48 at hh
  refine lv_iload_n C.1 C.2.1 dX3_inputs_48 rfl (lv_at hl 1 rfl) ?_
  exact hR _ _ _ (F, L, r) _ _ dX3_inputs_49 rfl hh hw
def wpX3_inputs_b32 (a0 : Nat) (a1 : Nat) (F : Nat → Nat → Int32) (L : Nat → Nat → Int64) (r : Nat → Nat → Nat) (x2 : Int32) (K : Int32 → cS → Prop) : Prop :=
  (¬ ((F a0 0) = (F a1 3)) →
    wpX3_inputs_b48 a0 a1 F L r x2 K) ∧
  (((F a0 0) = (F a1 3)) →
    wpX3_inputs_b48 a0 a1 F L r (x2 ||| (2097152 : Int32)) K)
set_option maxHeartbeats 4000000 in
set_option maxRecDepth 100000 in
theorem tX3_inputs_b32 {a0 : Nat} {a1 : Nat} {K : Int32 → cS → Prop} (C : CallFix p m c cX3_inputs 3 s args wsX3_inputs RX3) (hR : Rti .int p l e rmX3_inputs s m args below meth c cX3_inputs D A (cT cI cL cF cM) (cWu h cI cL cF cM) K Q) (ha0 : kd a0 = 3) (ha1 : kd a1 = 1) {F : Nat → Nat → Int32} {L : Nat → Nat → Int64} {r : Nat → Nat → Nat} {x2 : Int32} (hh : wpX3_inputs_b32 a0 a1 F L r x2 K) {H : Heap} {locs : List Loc} {ls : Array Slot} (hw : Wd D A s (cT cI cL cF cM) (cW h cI cL cF cM F L r) H locs) (hl : lv_has ls 3 [(0, .ref (h a0)), (1, .ref (h a1)), (2, .int x2)]) : W p l e rmX3_inputs s m args below meth c H locs 0 0 Q (F0 m 32 ls []) := by
  unfold wpX3_inputs_b32 at hh
  refine lv_aload_n C.1 C.2.1 dX3_inputs_32 rfl (lv_at hl 0 rfl) ?_
  refine c_get C hw (inC inW3) (kd_lt ha0 (by decide)) (ce3 ha0) rfl 0 (by decide) (wc w_392) (v := .int (F a0 0)) rfl dX3_inputs_33 ?_
  refine lv_aload_n C.1 C.2.1 dX3_inputs_36 rfl (lv_at hl 1 rfl) ?_
  refine c_get C hw (inC inW1) (kd_lt ha1 (by decide)) (ce1 ha1) rfl 3 (by decide) (wc w_364) (v := .int (F a1 3)) rfl dX3_inputs_37 ?_
  refine lv_icmp_ne (tgt := 48) C.1 C.2.1 dX3_inputs_40 (by decide) (fun c40 => ?_) (fun c40 => ?_)
  · replace hh := hh.1 c40
    exact tX3_inputs_b48 C hR ha0 ha1 hh hw (lv_sub hl [0, 2] rfl)
  · replace hh := hh.2 c40
    refine lv_iload_n C.1 C.2.1 dX3_inputs_43 rfl (lv_at hl 2 rfl) ?_
    refine lv_ldc C.1 C.2.1 C.2.2.2.1 (C.2.2.2.2 _ (wc w_1172)) dX3_inputs_44 ?_
    refine lv_ior C.1 C.2.1 dX3_inputs_46 ?_
    refine lv_istore_n (lv' := [(2, .int (x2 ||| (2097152 : Int32))), (0, .ref (h a0)), (1, .ref (h a1))]) C.1 C.2.1 dX3_inputs_47 rfl hl (by decide) rfl (fun ls hl => ?_)
    exact tX3_inputs_b48 C hR ha0 ha1 hh hw (lv_sub hl [1, 0] rfl)
def wpX3_inputs_b0 (a0 : Nat) (a1 : Nat) (F : Nat → Nat → Int32) (L : Nat → Nat → Int64) (r : Nat → Nat → Nat) (K : Int32 → cS → Prop) : Prop :=
  wpX3_wayOf a0 F L r (F a0 0) (fun r5 u5 =>
    wpX1_isWalled a1 u5.1 u5.2.1 u5.2.2 (u5.1 a0 0) (u5.1 a0 1) (fun r21 u21 =>
    ((r21 = 0) →
    wpX3_inputs_b32 a0 a1 u21.1 u21.2.1 u21.2.2 (jshl r5 (22 : Int32)) K) ∧
  (¬ (r21 = 0) →
    wpX3_inputs_b32 a0 a1 u21.1 u21.2.1 u21.2.2 ((jshl r5 (22 : Int32)) ||| (1048576 : Int32)) K)))
set_option maxHeartbeats 4000000 in
set_option maxRecDepth 100000 in
theorem tX3_inputs_b0 {a0 : Nat} {a1 : Nat} {K : Int32 → cS → Prop} (C : CallFix p m c cX3_inputs 3 s args wsX3_inputs RX3) (hR : Rti .int p l e rmX3_inputs s m args below meth c cX3_inputs D A (cT cI cL cF cM) (cWu h cI cL cF cM) K Q) (ha0 : kd a0 = 3) (ha1 : kd a1 = 1) {F : Nat → Nat → Int32} {L : Nat → Nat → Int64} {r : Nat → Nat → Nat} (hh : wpX3_inputs_b0 a0 a1 F L r K) {H : Heap} {locs : List Loc} {ls : Array Slot} (hw : Wd D A s (cT cI cL cF cM) (cW h cI cL cF cM F L r) H locs) (hl : lv_has ls 3 [(0, .ref (h a0)), (1, .ref (h a1))]) : W p l e rmX3_inputs s m args below meth c H locs 0 0 Q (F0 m 0 ls []) := by
  unfold wpX3_inputs_b0 at hh
  refine lv_aload_n C.1 C.2.1 dX3_inputs_0 rfl (lv_at hl 0 rfl) ?_
  refine lv_aload_n C.1 C.2.1 dX3_inputs_1 rfl (lv_at hl 0 rfl) ?_
  refine c_get C hw (inC inW3) (kd_lt ha0 (by decide)) (ce3 ha0) rfl 0 (by decide) (wc w_392) (v := .int (F a0 0)) rfl dX3_inputs_2 ?_
  refine c_Vi C hw (ctX3_wayOf l D h cI cL cF cM a0 ha0 F L r (F a0 0) hh) (cwV 1 C.2.2.2.2 (gd_V w_1005 w_1006 w_1007 w_121 w_1008) rfl rfl rfl cdX3_wayOf ⟨Nat.le_of_ble_eq_true rfl, Nat.le_of_ble_eq_true rfl⟩) rfl (kd_lt ha0 (by decide)) (ce3 ha0) rfl hl.1 (Nat.le_of_ble_eq_true rfl) dX3_inputs_5 ⟨Nat.zero_le _, Nat.zero_le _⟩ (fun r5 u5 H locs hh hw => ?_) rfl
  refine lv_bipush (v := (22 : Int32)) C.1 C.2.1 dX3_inputs_8 (by decide) ?_
  refine g_ishl C dX3_inputs_10 ?_
  refine lv_istore_n (lv' := [(2, .int (jshl r5 (22 : Int32))), (0, .ref (h a0)), (1, .ref (h a1))]) C.1 C.2.1 dX3_inputs_11 rfl hl (by decide) rfl (fun ls hl => ?_)
  refine lv_aload_n C.1 C.2.1 dX3_inputs_12 rfl (lv_at hl 2 rfl) ?_
  refine lv_aload_n C.1 C.2.1 dX3_inputs_13 rfl (lv_at hl 1 rfl) ?_
  refine c_get C hw (inC inW3) (kd_lt ha0 (by decide)) (ce3 ha0) rfl 0 (by decide) (wc w_392) (v := .int (u5.1 a0 0)) rfl dX3_inputs_14 ?_
  refine lv_aload_n C.1 C.2.1 dX3_inputs_17 rfl (lv_at hl 1 rfl) ?_
  refine c_get C hw (inC inW3) (kd_lt ha0 (by decide)) (ce3 ha0) rfl 1 (by decide) (wc w_396) (v := .int (u5.1 a0 1)) rfl dX3_inputs_18 ?_
  refine c_Vi C hw (ctX1_isWalled l D h cI cL cF cM a1 ha1 u5.1 u5.2.1 u5.2.2 (u5.1 a0 0) (u5.1 a0 1) hh) (cwV 2 C.2.2.2.2 (gd_V w_1004 w_949 w_950 w_120 w_951) rfl rfl rfl cdX1_isWalled ⟨Nat.le_of_ble_eq_true rfl, Nat.le_of_ble_eq_true rfl⟩) rfl (kd_lt ha1 (by decide)) (ce1 ha1) rfl hl.1 (Nat.le_of_ble_eq_true rfl) dX3_inputs_21 ⟨Nat.zero_le _, Nat.zero_le _⟩ (fun r21 u21 H locs hh hw => ?_) rfl
  refine lv_if_eq (tgt := 32) C.1 C.2.1 dX3_inputs_24 (by decide) (fun c24 => ?_) (fun c24 => ?_)
  · replace hh := hh.1 c24
    exact tX3_inputs_b32 C hR ha0 ha1 hh hw (lv_sub hl [1, 2, 0] rfl)
  · replace hh := hh.2 c24
    refine lv_iload_n C.1 C.2.1 dX3_inputs_27 rfl (lv_at hl 0 rfl) ?_
    refine lv_ldc C.1 C.2.1 C.2.2.2.1 (C.2.2.2.2 _ (wc w_1171)) dX3_inputs_28 ?_
    refine lv_ior C.1 C.2.1 dX3_inputs_30 ?_
    refine lv_istore_n (lv' := [(2, .int ((jshl r5 (22 : Int32)) ||| (1048576 : Int32))), (0, .ref (h a0)), (1, .ref (h a1))]) C.1 C.2.1 dX3_inputs_31 rfl hl (by decide) rfl (fun ls hl => ?_)
    exact tX3_inputs_b32 C hR ha0 ha1 hh hw (lv_sub hl [1, 2, 0] rfl)
def wpX3_inputs (a0 : Nat) (a1 : Nat) (F : Nat → Nat → Int32) (L : Nat → Nat → Int64) (r : Nat → Nat → Nat) (K : Int32 → cS → Prop) : Prop := wpX3_inputs_b0 a0 a1 F L r K
theorem ctX3_inputs (l : Launch) (D : va_G) (h : Nat → Nat) (cI cL cF cM : ClassId) (a0 : Nat) (a1 : Nat) (ha0 : kd a0 = 3) (ha1 : kd a1 = 1) (F : Nat → Nat → Int32) (L : Nat → Nat → Int64) (r : Nat → Nat → Nat) {K : Int32 → cS → Prop} (hh : wpX3_inputs a0 a1 F L r K) : Ci l yX3_inputs wsX3_inputs rmX3_inputs [.ref (h a0), .ref (h a1)] D (cT cI cL cF cM) (cWu h cI cL cF cM) (F, L, r) K := by
  refine Ci_of (cc := cX3_inputs) (maxL := 3) (by decide) rfl (Nat.le_of_ble_eq_true rfl) ?_
  intro p e s m below meth c A Q C hw hR ls hl
  exact tX3_inputs_b0 C hR ha0 ha1 hh hw hl
theorem cdX3_inputs : yX3_inputs.cls = RX3 ∧ yX3_inputs.cls ≠ "java/lang/invoke/MethodHandle" ∧ yX3_inputs.cls ≠ "java/lang/invoke/VarHandle" ∧ (parseMethodDescriptor yX3_inputs.desc).map (fun d => d.parameters.length) = some 1 := by decide +kernel
abbrev rmX4_valueOf : Room := { frames := 0, cells := 0, slots := 0, locals := 0 }
def wpX4_valueOf_b10 (a0 : Nat) (F : Nat → Nat → Int32) (L : Nat → Nat → Int64) (r : Nat → Nat → Nat) (K : Int32 → cS → Prop) : Prop :=
  K (0 : Int32) (F, L, r)
set_option maxHeartbeats 4000000 in
set_option maxRecDepth 100000 in
theorem tX4_valueOf_b10 {a0 : Nat} {K : Int32 → cS → Prop} (C : CallFix p m c cX4_valueOf 7 s args wsX4_valueOf RX4) (hR : Rti .int p l e rmX4_valueOf s m args below meth c cX4_valueOf D A (cT cI cL cF cM) (cWu h cI cL cF cM) K Q) (ha0 : kd a0 = 4) {F : Nat → Nat → Int32} {L : Nat → Nat → Int64} {r : Nat → Nat → Nat} (hh : wpX4_valueOf_b10 a0 F L r K) {H : Heap} {locs : List Loc} {ls : Array Slot} (hw : Wd D A s (cT cI cL cF cM) (cW h cI cL cF cM F L r) H locs) (hl : lv_has ls 7 [(0, .ref (h a0))]) : W p l e rmX4_valueOf s m args below meth c H locs 0 0 Q (F0 m 10 ls []) := by
  unfold wpX4_valueOf_b10 at hh
  refine lv_iconst (v := (0 : Int32)) C.1 C.2.1 dX4_valueOf_10 (by decide) ?_
  exact hR _ _ _ (F, L, r) _ _ dX4_valueOf_11 rfl hh hw
def wpX4_valueOf_b108 (B22 : (Nat → Nat → Int32) → (Nat → Nat → Int64) → (Nat → Nat → Nat) → Int32 → Int32 → Int32 → Int32 → Prop) (a0 : Nat) (F : Nat → Nat → Int32) (L : Nat → Nat → Int64) (r : Nat → Nat → Nat) (x1 : Int32) (x2 : Int32) (x3 : Int32) (x4 : Int32) (K : Int32 → cS → Prop) : Prop :=
  B22 F L r x1 x2 x3 (x4 + (1 : Int32))
set_option maxHeartbeats 4000000 in
set_option maxRecDepth 100000 in
theorem tX4_valueOf_b108 {a0 : Nat} {B22 : (Nat → Nat → Int32) → (Nat → Nat → Int64) → (Nat → Nat → Nat) → Int32 → Int32 → Int32 → Int32 → Prop} {K : Int32 → cS → Prop} (C : CallFix p m c cX4_valueOf 7 s args wsX4_valueOf RX4) (hR : Rti .int p l e rmX4_valueOf s m args below meth c cX4_valueOf D A (cT cI cL cF cM) (cWu h cI cL cF cM) K Q) (ha0 : kd a0 = 4) (hB22 : ∀ (F : Nat → Nat → Int32) (L : Nat → Nat → Int64) (r : Nat → Nat → Nat) (x1 : Int32) (x2 : Int32) (x3 : Int32) (x4 : Int32) (H : Heap) (locs : List Loc) (ls : Array Slot), B22 F L r x1 x2 x3 x4 → Wd D A s (cT cI cL cF cM) (cW h cI cL cF cM F L r) H locs → lv_has ls 7 [(0, .ref (h a0)), (1, .int x1), (2, .int x2), (3, .int x3), (4, .int x4)] → W p l e rmX4_valueOf s m args below meth c H locs 0 0 Q (F0 m 22 ls [])) {F : Nat → Nat → Int32} {L : Nat → Nat → Int64} {r : Nat → Nat → Nat} {x1 : Int32} {x2 : Int32} {x3 : Int32} {x4 : Int32} (hh : wpX4_valueOf_b108 B22 a0 F L r x1 x2 x3 x4 K) {H : Heap} {locs : List Loc} {ls : Array Slot} (hw : Wd D A s (cT cI cL cF cM) (cW h cI cL cF cM F L r) H locs) (hl : lv_has ls 7 [(0, .ref (h a0)), (1, .int x1), (2, .int x2), (3, .int x3), (4, .int x4)]) : W p l e rmX4_valueOf s m args below meth c H locs 0 0 Q (F0 m 108 ls []) := by
  unfold wpX4_valueOf_b108 at hh
  refine lv_iinc (v := x4 + (1 : Int32)) (lv' := [(4, .int (x4 + (1 : Int32))), (0, .ref (h a0)), (1, .int x1), (2, .int x2), (3, .int x3)]) C.1 C.2.1 dX4_valueOf_108 hl (k := 4) rfl rfl (by decide) rfl (fun ls hl => ?_)
  refine lv_goto (tgt := 22) C.1 C.2.1 dX4_valueOf_111 (by decide) ?_
  exact hB22 _ _ _ _ _ _ _ _ _ _ hh hw (lv_sub hl [1, 2, 3, 4, 0] rfl)
def wpX4_valueOf_b107 (B22 : (Nat → Nat → Int32) → (Nat → Nat → Int64) → (Nat → Nat → Nat) → Int32 → Int32 → Int32 → Int32 → Prop) (a0 : Nat) (F : Nat → Nat → Int32) (L : Nat → Nat → Int64) (r : Nat → Nat → Nat) (k0 : Int32) (x1 : Int32) (x2 : Int32) (x4 : Int32) (K : Int32 → cS → Prop) : Prop :=
  wpX4_valueOf_b108 B22 a0 F L r x1 x2 k0 x4 K
set_option maxHeartbeats 4000000 in
set_option maxRecDepth 100000 in
theorem tX4_valueOf_b107 {a0 : Nat} {B22 : (Nat → Nat → Int32) → (Nat → Nat → Int64) → (Nat → Nat → Nat) → Int32 → Int32 → Int32 → Int32 → Prop} {K : Int32 → cS → Prop} (C : CallFix p m c cX4_valueOf 7 s args wsX4_valueOf RX4) (hR : Rti .int p l e rmX4_valueOf s m args below meth c cX4_valueOf D A (cT cI cL cF cM) (cWu h cI cL cF cM) K Q) (ha0 : kd a0 = 4) (hB22 : ∀ (F : Nat → Nat → Int32) (L : Nat → Nat → Int64) (r : Nat → Nat → Nat) (x1 : Int32) (x2 : Int32) (x3 : Int32) (x4 : Int32) (H : Heap) (locs : List Loc) (ls : Array Slot), B22 F L r x1 x2 x3 x4 → Wd D A s (cT cI cL cF cM) (cW h cI cL cF cM F L r) H locs → lv_has ls 7 [(0, .ref (h a0)), (1, .int x1), (2, .int x2), (3, .int x3), (4, .int x4)] → W p l e rmX4_valueOf s m args below meth c H locs 0 0 Q (F0 m 22 ls [])) {F : Nat → Nat → Int32} {L : Nat → Nat → Int64} {r : Nat → Nat → Nat} {k0 : Int32} {x1 : Int32} {x2 : Int32} {x4 : Int32} (hh : wpX4_valueOf_b107 B22 a0 F L r k0 x1 x2 x4 K) {H : Heap} {locs : List Loc} {ls : Array Slot} (hw : Wd D A s (cT cI cL cF cM) (cW h cI cL cF cM F L r) H locs) (hl : lv_has ls 7 [(0, .ref (h a0)), (1, .int x1), (2, .int x2), (4, .int x4)]) : W p l e rmX4_valueOf s m args below meth c H locs 0 0 Q (F0 m 107 ls [.int k0]) := by
  unfold wpX4_valueOf_b107 at hh
  refine lv_istore_n (lv' := [(3, .int k0), (0, .ref (h a0)), (1, .int x1), (2, .int x2), (4, .int x4)]) C.1 C.2.1 dX4_valueOf_107 rfl hl (by decide) rfl (fun ls hl => ?_)
  exact tX4_valueOf_b108 C hR ha0 hB22 hh hw (lv_sub hl [1, 2, 3, 0, 4] rfl)
def wpX4_valueOf_b22_body (B22 : (Nat → Nat → Int32) → (Nat → Nat → Int64) → (Nat → Nat → Nat) → Int32 → Int32 → Int32 → Int32 → Prop) (a0 : Nat) (F : Nat → Nat → Int32) (L : Nat → Nat → Int64) (r : Nat → Nat → Nat) (x1 : Int32) (x2 : Int32) (x3 : Int32) (x4 : Int32) (K : Int32 → cS → Prop) : Prop :=
  vp_in x1 24 ∧ (((F (a0 + 3) (ix x1)) ≤ x4) →
    K (x3 &&& (1 : Int32)) (F, L, r)) ∧
  (¬ ((F (a0 + 3) (ix x1)) ≤ x4) →
    vp_in x4 64 ∧ (((24 : Int32) ≤ (F (a0 + 1) (ix x4))) →
      (¬ ((F (a0 + 1) (ix x4)) = (26 : Int32)) →
        (¬ ((F (a0 + 1) (ix x4)) = (24 : Int32)) →
          wpX4_valueOf_b107 B22 a0 F L r ((jushr x3 (1 : Int32)) &&& ((x3 &&& (1 : Int32)) ||| (-2 : Int32))) x1 x2 x4 K) ∧
        (((F (a0 + 1) (ix x4)) = (24 : Int32)) →
          wpX4_valueOf_b107 B22 a0 F L r ((jushr x3 (1 : Int32)) ||| (x3 &&& (1 : Int32))) x1 x2 x4 K)) ∧
      (((F (a0 + 1) (ix x4)) = (26 : Int32)) →
        wpX4_valueOf_b108 B22 a0 F L r x1 x2 (x3 ^^^ (1 : Int32)) x4 K)) ∧
    (¬ ((24 : Int32) ≤ (F (a0 + 1) (ix x4))) →
      ∀ y59 : Int32, y59 = (jshl x3 (1 : Int32)) ||| ((jushr x2 (F (a0 + 1) (ix x4))) &&& (1 : Int32)) → wpX4_valueOf_b108 B22 a0 F L r x1 x2 y59 x4 K))
set_option maxHeartbeats 4000000 in
set_option maxRecDepth 100000 in
theorem tX4_valueOf_b22_body {a0 : Nat} {B22 : (Nat → Nat → Int32) → (Nat → Nat → Int64) → (Nat → Nat → Nat) → Int32 → Int32 → Int32 → Int32 → Prop} {K : Int32 → cS → Prop} (C : CallFix p m c cX4_valueOf 7 s args wsX4_valueOf RX4) (hR : Rti .int p l e rmX4_valueOf s m args below meth c cX4_valueOf D A (cT cI cL cF cM) (cWu h cI cL cF cM) K Q) (ha0 : kd a0 = 4) (hB22 : ∀ (F : Nat → Nat → Int32) (L : Nat → Nat → Int64) (r : Nat → Nat → Nat) (x1 : Int32) (x2 : Int32) (x3 : Int32) (x4 : Int32) (H : Heap) (locs : List Loc) (ls : Array Slot), B22 F L r x1 x2 x3 x4 → Wd D A s (cT cI cL cF cM) (cW h cI cL cF cM F L r) H locs → lv_has ls 7 [(0, .ref (h a0)), (1, .int x1), (2, .int x2), (3, .int x3), (4, .int x4)] → W p l e rmX4_valueOf s m args below meth c H locs 0 0 Q (F0 m 22 ls [])) {F : Nat → Nat → Int32} {L : Nat → Nat → Int64} {r : Nat → Nat → Nat} {x1 : Int32} {x2 : Int32} {x3 : Int32} {x4 : Int32} (hh : wpX4_valueOf_b22_body B22 a0 F L r x1 x2 x3 x4 K) {H : Heap} {locs : List Loc} {ls : Array Slot} (hw : Wd D A s (cT cI cL cF cM) (cW h cI cL cF cM F L r) H locs) (hl : lv_has ls 7 [(0, .ref (h a0)), (1, .int x1), (2, .int x2), (3, .int x3), (4, .int x4)]) : W p l e rmX4_valueOf s m args below meth c H locs 0 0 Q (F0 m 22 ls []) := by
  unfold wpX4_valueOf_b22_body at hh
  refine lv_iload C.1 C.2.1 dX4_valueOf_22 (lv_at hl 4 rfl) ?_
  refine lv_aload_n C.1 C.2.1 dX4_valueOf_24 rfl (lv_at hl 0 rfl) ?_
  refine c_get C hw (inC inW4) (kd_lt ha0 (by decide)) (ce4 ha0) rfl 5 (by decide) (wc w_292) (v := .ref (h (a0 + 3))) rfl dX4_valueOf_25 ?_
  refine lv_iload_n C.1 C.2.1 dX4_valueOf_28 rfl (lv_at hl 1 rfl) ?_
  obtain ⟨hi29, hh⟩ := hh
  refine c_ial C hw (kd_lt (kd4_3 ha0) (by decide)) (ce21 (kd4_3 ha0)) hi29 dX4_valueOf_29 ?_
  refine lv_icmp_ge (tgt := 114) C.1 C.2.1 dX4_valueOf_30 (by decide) (fun c30 => ?_) (fun c30 => ?_)
  · replace hh := hh.1 c30
    refine lv_iload_n C.1 C.2.1 dX4_valueOf_114 rfl (lv_at hl 3 rfl) ?_
    refine lv_iconst (v := (1 : Int32)) C.1 C.2.1 dX4_valueOf_115 (by decide) ?_
    refine lv_iand C.1 C.2.1 dX4_valueOf_116 ?_
    exact hR _ _ _ (F, L, r) _ _ dX4_valueOf_117 rfl hh hw
  · replace hh := hh.2 c30
    refine lv_aload_n C.1 C.2.1 dX4_valueOf_33 rfl (lv_at hl 0 rfl) ?_
    refine c_get C hw (inC inW4) (kd_lt ha0 (by decide)) (ce4 ha0) rfl 3 (by decide) (wc w_288) (v := .ref (h (a0 + 1))) rfl dX4_valueOf_34 ?_
    refine lv_iload C.1 C.2.1 dX4_valueOf_37 (lv_at hl 4 rfl) ?_
    obtain ⟨hi39, hh⟩ := hh
    refine c_ial C hw (kd_lt (kd4_1 ha0) (by decide)) (ce17 (kd4_1 ha0)) hi39 dX4_valueOf_39 ?_
    refine lv_istore (lv' := [(5, .int (F (a0 + 1) (ix x4))), (0, .ref (h a0)), (1, .int x1), (2, .int x2), (3, .int x3), (4, .int x4)]) C.1 C.2.1 dX4_valueOf_40 hl (by decide) rfl (fun ls hl => ?_)
    refine lv_iload C.1 C.2.1 dX4_valueOf_42 (lv_at hl 0 rfl) ?_
    refine lv_bipush (v := (24 : Int32)) C.1 C.2.1 dX4_valueOf_44 (by decide) ?_
    refine lv_icmp_ge (tgt := 63) C.1 C.2.1 dX4_valueOf_46 (by decide) (fun c46 => ?_) (fun c46 => ?_)
    · replace hh := hh.1 c46
      refine lv_iload C.1 C.2.1 dX4_valueOf_63 (lv_at hl 0 rfl) ?_
      refine lv_bipush (v := (26 : Int32)) C.1 C.2.1 dX4_valueOf_65 (by decide) ?_
      refine lv_icmp_ne (tgt := 77) C.1 C.2.1 dX4_valueOf_67 (by decide) (fun c67 => ?_) (fun c67 => ?_)
      · replace hh := hh.1 c67
        refine lv_iload_n C.1 C.2.1 dX4_valueOf_77 rfl (lv_at hl 4 rfl) ?_
        refine lv_iconst (v := (1 : Int32)) C.1 C.2.1 dX4_valueOf_78 (by decide) ?_
        refine lv_iand C.1 C.2.1 dX4_valueOf_79 ?_
        refine lv_istore (lv' := [(6, .int (x3 &&& (1 : Int32))), (5, .int (F (a0 + 1) (ix x4))), (0, .ref (h a0)), (1, .int x1), (2, .int x2), (3, .int x3), (4, .int x4)]) C.1 C.2.1 dX4_valueOf_80 hl (by decide) rfl (fun ls hl => ?_)
        refine lv_iload_n C.1 C.2.1 dX4_valueOf_82 rfl (lv_at hl 5 rfl) ?_
        refine lv_iconst (v := (1 : Int32)) C.1 C.2.1 dX4_valueOf_83 (by decide) ?_
        refine g_iushr C dX4_valueOf_84 ?_
        refine lv_istore_n (lv' := [(3, .int (jushr x3 (1 : Int32))), (6, .int (x3 &&& (1 : Int32))), (5, .int (F (a0 + 1) (ix x4))), (0, .ref (h a0)), (1, .int x1), (2, .int x2), (4, .int x4)]) C.1 C.2.1 dX4_valueOf_85 rfl hl (by decide) rfl (fun ls hl => ?_)
        refine lv_iload C.1 C.2.1 dX4_valueOf_86 (lv_at hl 2 rfl) ?_
        refine lv_bipush (v := (24 : Int32)) C.1 C.2.1 dX4_valueOf_88 (by decide) ?_
        refine lv_icmp_ne (tgt := 100) C.1 C.2.1 dX4_valueOf_90 (by decide) (fun c90 => ?_) (fun c90 => ?_)
        · replace hh := hh.1 c90
          refine lv_iload_n C.1 C.2.1 dX4_valueOf_100 rfl (lv_at hl 0 rfl) ?_
          refine lv_iload C.1 C.2.1 dX4_valueOf_101 (lv_at hl 1 rfl) ?_
          refine lv_bipush (v := (-2 : Int32)) C.1 C.2.1 dX4_valueOf_103 (by decide) ?_
          refine lv_ior C.1 C.2.1 dX4_valueOf_105 ?_
          refine lv_iand C.1 C.2.1 dX4_valueOf_106 ?_
          exact tX4_valueOf_b107 C hR ha0 hB22 hh hw (lv_sub hl [3, 4, 5, 6] rfl)
        · replace hh := hh.2 c90
          refine lv_iload_n C.1 C.2.1 dX4_valueOf_93 rfl (lv_at hl 0 rfl) ?_
          refine lv_iload C.1 C.2.1 dX4_valueOf_94 (lv_at hl 1 rfl) ?_
          refine lv_ior C.1 C.2.1 dX4_valueOf_96 ?_
          refine lv_goto (tgt := 107) C.1 C.2.1 dX4_valueOf_97 (by decide) ?_
          exact tX4_valueOf_b107 C hR ha0 hB22 hh hw (lv_sub hl [3, 4, 5, 6] rfl)
      · replace hh := hh.2 c67
        refine lv_iload_n C.1 C.2.1 dX4_valueOf_70 rfl (lv_at hl 4 rfl) ?_
        refine lv_iconst (v := (1 : Int32)) C.1 C.2.1 dX4_valueOf_71 (by decide) ?_
        refine lv_ixor C.1 C.2.1 dX4_valueOf_72 ?_
        refine lv_istore_n (lv' := [(3, .int (x3 ^^^ (1 : Int32))), (5, .int (F (a0 + 1) (ix x4))), (0, .ref (h a0)), (1, .int x1), (2, .int x2), (4, .int x4)]) C.1 C.2.1 dX4_valueOf_73 rfl hl (by decide) rfl (fun ls hl => ?_)
        refine lv_goto (tgt := 108) C.1 C.2.1 dX4_valueOf_74 (by decide) ?_
        exact tX4_valueOf_b108 C hR ha0 hB22 hh hw (lv_sub hl [2, 3, 4, 0, 5] rfl)
    · replace hh := hh.2 c46
      refine lv_iload_n C.1 C.2.1 dX4_valueOf_49 rfl (lv_at hl 4 rfl) ?_
      refine lv_iconst (v := (1 : Int32)) C.1 C.2.1 dX4_valueOf_50 (by decide) ?_
      refine g_ishl C dX4_valueOf_51 ?_
      refine lv_iload_n C.1 C.2.1 dX4_valueOf_52 rfl (lv_at hl 3 rfl) ?_
      refine lv_iload C.1 C.2.1 dX4_valueOf_53 (lv_at hl 0 rfl) ?_
      refine g_iushr C dX4_valueOf_55 ?_
      refine lv_iconst (v := (1 : Int32)) C.1 C.2.1 dX4_valueOf_56 (by decide) ?_
      refine lv_iand C.1 C.2.1 dX4_valueOf_57 ?_
      refine lv_ior C.1 C.2.1 dX4_valueOf_58 ?_
      refine lv_topi (fun y59 ey59 => ?_)
      replace hh := hh y59 ey59
      refine lv_istore_n (lv' := [(3, .int y59), (5, .int (F (a0 + 1) (ix x4))), (0, .ref (h a0)), (1, .int x1), (2, .int x2), (4, .int x4)]) C.1 C.2.1 dX4_valueOf_59 rfl hl (by decide) rfl (fun ls hl => ?_)
      refine lv_goto (tgt := 108) C.1 C.2.1 dX4_valueOf_60 (by decide) ?_
      exact tX4_valueOf_b108 C hR ha0 hB22 hh hw (lv_sub hl [2, 3, 4, 0, 5] rfl)
def wpX4_valueOf_b22 (a0 : Nat) (n_ : Nat) (F : Nat → Nat → Int32) (L : Nat → Nat → Int64) (r : Nat → Nat → Nat) (x1 : Int32) (x2 : Int32) (x3 : Int32) (x4 : Int32) (K : Int32 → cS → Prop) : Prop := match n_ with
  | 0 => False
  | n + 1 => wpX4_valueOf_b22_body (fun F L r x1 x2 x3 x4 => wpX4_valueOf_b22 a0 n F L r x1 x2 x3 x4 K) a0 F L r x1 x2 x3 x4 K
theorem tX4_valueOf_b22 {a0 : Nat} {K : Int32 → cS → Prop} (C : CallFix p m c cX4_valueOf 7 s args wsX4_valueOf RX4) (hR : Rti .int p l e rmX4_valueOf s m args below meth c cX4_valueOf D A (cT cI cL cF cM) (cWu h cI cL cF cM) K Q) (ha0 : kd a0 = 4) (n : Nat) : ∀ (F : Nat → Nat → Int32) (L : Nat → Nat → Int64) (r : Nat → Nat → Nat) (x1 : Int32) (x2 : Int32) (x3 : Int32) (x4 : Int32) (H : Heap) (locs : List Loc) (ls : Array Slot), wpX4_valueOf_b22 a0 n F L r x1 x2 x3 x4 K → Wd D A s (cT cI cL cF cM) (cW h cI cL cF cM F L r) H locs → lv_has ls 7 [(0, .ref (h a0)), (1, .int x1), (2, .int x2), (3, .int x3), (4, .int x4)] → W p l e rmX4_valueOf s m args below meth c H locs 0 0 Q (F0 m 22 ls []) := by
  induction n with
  | zero => intro F L r x1 x2 x3 x4 H locs ls hh; exact hh.elim
  | succ n ih => intro F L r x1 x2 x3 x4 H locs ls hh hw hl; exact tX4_valueOf_b22_body C hR ha0 ih hh hw hl
def wpX4_valueOf_b0 (a0 : Nat) (F : Nat → Nat → Int32) (L : Nat → Nat → Int64) (r : Nat → Nat → Nat) (x1 : Int32) (x2 : Int32) (K : Int32 → cS → Prop) : Prop :=
  ((x1 < 0) →
    wpX4_valueOf_b10 a0 F L r K) ∧
  (¬ (x1 < 0) →
    ((x1 < (24 : Int32)) →
      vp_in x1 24 ∧ ∃ n, wpX4_valueOf_b22 a0 n F L r x1 x2 (0 : Int32) (F (a0 + 2) (ix x1)) K) ∧
    (¬ (x1 < (24 : Int32)) →
      wpX4_valueOf_b10 a0 F L r K))
set_option maxHeartbeats 4000000 in
set_option maxRecDepth 100000 in
theorem tX4_valueOf_b0 {a0 : Nat} {K : Int32 → cS → Prop} (C : CallFix p m c cX4_valueOf 7 s args wsX4_valueOf RX4) (hR : Rti .int p l e rmX4_valueOf s m args below meth c cX4_valueOf D A (cT cI cL cF cM) (cWu h cI cL cF cM) K Q) (ha0 : kd a0 = 4) {F : Nat → Nat → Int32} {L : Nat → Nat → Int64} {r : Nat → Nat → Nat} {x1 : Int32} {x2 : Int32} (hh : wpX4_valueOf_b0 a0 F L r x1 x2 K) {H : Heap} {locs : List Loc} {ls : Array Slot} (hw : Wd D A s (cT cI cL cF cM) (cW h cI cL cF cM F L r) H locs) (hl : lv_has ls 7 [(0, .ref (h a0)), (1, .int x1), (2, .int x2)]) : W p l e rmX4_valueOf s m args below meth c H locs 0 0 Q (F0 m 0 ls []) := by
  unfold wpX4_valueOf_b0 at hh
  refine lv_iload_n C.1 C.2.1 dX4_valueOf_0 rfl (lv_at hl 1 rfl) ?_
  refine lv_if_lt (tgt := 10) C.1 C.2.1 dX4_valueOf_1 (by decide) (fun c1 => ?_) (fun c1 => ?_)
  · replace hh := hh.1 c1
    exact tX4_valueOf_b10 C hR ha0 hh hw (lv_sub hl [0] rfl)
  · replace hh := hh.2 c1
    refine lv_iload_n C.1 C.2.1 dX4_valueOf_4 rfl (lv_at hl 1 rfl) ?_
    refine lv_bipush (v := (24 : Int32)) C.1 C.2.1 dX4_valueOf_5 (by decide) ?_
    refine lv_icmp_lt (tgt := 12) C.1 C.2.1 dX4_valueOf_7 (by decide) (fun c7 => ?_) (fun c7 => ?_)
    · replace hh := hh.1 c7
      refine lv_iconst (v := (0 : Int32)) C.1 C.2.1 dX4_valueOf_12 (by decide) ?_
      refine lv_istore_n (lv' := [(3, .int (0 : Int32)), (0, .ref (h a0)), (1, .int x1), (2, .int x2)]) C.1 C.2.1 dX4_valueOf_13 rfl hl (by decide) rfl (fun ls hl => ?_)
      refine lv_aload_n C.1 C.2.1 dX4_valueOf_14 rfl (lv_at hl 1 rfl) ?_
      refine c_get C hw (inC inW4) (kd_lt ha0 (by decide)) (ce4 ha0) rfl 4 (by decide) (wc w_290) (v := .ref (h (a0 + 2))) rfl dX4_valueOf_15 ?_
      refine lv_iload_n C.1 C.2.1 dX4_valueOf_18 rfl (lv_at hl 2 rfl) ?_
      obtain ⟨hi19, hh⟩ := hh
      refine c_ial C hw (kd_lt (kd4_2 ha0) (by decide)) (ce21 (kd4_2 ha0)) hi19 dX4_valueOf_19 ?_
      refine lv_istore (lv' := [(4, .int (F (a0 + 2) (ix x1))), (3, .int (0 : Int32)), (0, .ref (h a0)), (1, .int x1), (2, .int x2)]) C.1 C.2.1 dX4_valueOf_20 hl (by decide) rfl (fun ls hl => ?_)
      obtain ⟨n, hh⟩ := hh
      exact tX4_valueOf_b22 C hR ha0 n _ _ _ _ _ _ _ _ _ _ hh hw (lv_sub hl [2, 3, 4, 1, 0] rfl)
    · replace hh := hh.2 c7
      exact tX4_valueOf_b10 C hR ha0 hh hw (lv_sub hl [0] rfl)
def wpX4_valueOf (a0 : Nat) (F : Nat → Nat → Int32) (L : Nat → Nat → Int64) (r : Nat → Nat → Nat) (x1 : Int32) (x2 : Int32) (K : Int32 → cS → Prop) : Prop := wpX4_valueOf_b0 a0 F L r x1 x2 K
theorem ctX4_valueOf (l : Launch) (D : va_G) (h : Nat → Nat) (cI cL cF cM : ClassId) (a0 : Nat) (ha0 : kd a0 = 4) (F : Nat → Nat → Int32) (L : Nat → Nat → Int64) (r : Nat → Nat → Nat) (x1 : Int32) (x2 : Int32) {K : Int32 → cS → Prop} (hh : wpX4_valueOf a0 F L r x1 x2 K) : Ci l yX4_valueOf wsX4_valueOf rmX4_valueOf [.ref (h a0), .int x1, .int x2] D (cT cI cL cF cM) (cWu h cI cL cF cM) (F, L, r) K := by
  refine Ci_of (cc := cX4_valueOf) (maxL := 7) (by decide) rfl (Nat.le_of_ble_eq_true rfl) ?_
  intro p e s m below meth c A Q C hw hR ls hl
  exact tX4_valueOf_b0 C hR ha0 hh hw hl
theorem cdX4_valueOf : yX4_valueOf.cls = RX4 ∧ yX4_valueOf.cls ≠ "java/lang/invoke/MethodHandle" ∧ yX4_valueOf.cls ≠ "java/lang/invoke/VarHandle" ∧ (parseMethodDescriptor yX4_valueOf.desc).map (fun d => d.parameters.length) = some 2 := by decide +kernel
abbrev rmX4_relaysBy : Room := { frames := 1, cells := 0, slots := 0, locals := 26 }
def wpX4_relaysBy_b4_body (B4 : (Nat → Nat → Int32) → (Nat → Nat → Int64) → (Nat → Nat → Nat) → Int32 → Int32 → Int32 → Prop) (a0 : Nat) (F : Nat → Nat → Int32) (L : Nat → Nat → Int64) (r : Nat → Nat → Nat) (x1 : Int32) (x2 : Int32) (x3 : Int32) (K : Int32 → cS → Prop) : Prop :=
  (((F a0 0) ≤ x3) →
    K x2 (F, L, r)) ∧
  (¬ ((F a0 0) ≤ x3) →
    wpX4_valueOf a0 F L r x3 x1 (fun r16 u16 =>
      B4 u16.1 u16.2.1 u16.2.2 x1 (x2 ||| (jshl r16 x3)) (x3 + (1 : Int32))))
set_option maxHeartbeats 4000000 in
set_option maxRecDepth 100000 in
theorem tX4_relaysBy_b4_body {a0 : Nat} {B4 : (Nat → Nat → Int32) → (Nat → Nat → Int64) → (Nat → Nat → Nat) → Int32 → Int32 → Int32 → Prop} {K : Int32 → cS → Prop} (C : CallFix p m c cX4_relaysBy 4 s args wsX4_relaysBy RX4) (hR : Rti .int p l e rmX4_relaysBy s m args below meth c cX4_relaysBy D A (cT cI cL cF cM) (cWu h cI cL cF cM) K Q) (ha0 : kd a0 = 4) (hB4 : ∀ (F : Nat → Nat → Int32) (L : Nat → Nat → Int64) (r : Nat → Nat → Nat) (x1 : Int32) (x2 : Int32) (x3 : Int32) (H : Heap) (locs : List Loc) (ls : Array Slot), B4 F L r x1 x2 x3 → Wd D A s (cT cI cL cF cM) (cW h cI cL cF cM F L r) H locs → lv_has ls 4 [(0, .ref (h a0)), (1, .int x1), (2, .int x2), (3, .int x3)] → W p l e rmX4_relaysBy s m args below meth c H locs 0 0 Q (F0 m 4 ls [])) {F : Nat → Nat → Int32} {L : Nat → Nat → Int64} {r : Nat → Nat → Nat} {x1 : Int32} {x2 : Int32} {x3 : Int32} (hh : wpX4_relaysBy_b4_body B4 a0 F L r x1 x2 x3 K) {H : Heap} {locs : List Loc} {ls : Array Slot} (hw : Wd D A s (cT cI cL cF cM) (cW h cI cL cF cM F L r) H locs) (hl : lv_has ls 4 [(0, .ref (h a0)), (1, .int x1), (2, .int x2), (3, .int x3)]) : W p l e rmX4_relaysBy s m args below meth c H locs 0 0 Q (F0 m 4 ls []) := by
  unfold wpX4_relaysBy_b4_body at hh
  refine lv_iload_n C.1 C.2.1 dX4_relaysBy_4 rfl (lv_at hl 3 rfl) ?_
  refine lv_aload_n C.1 C.2.1 dX4_relaysBy_5 rfl (lv_at hl 0 rfl) ?_
  refine c_get C hw (inC inW4) (kd_lt ha0 (by decide)) (ce4 ha0) rfl 0 (by decide) (wc w_278) (v := .int (F a0 0)) rfl dX4_relaysBy_6 ?_
  refine lv_icmp_ge (tgt := 29) C.1 C.2.1 dX4_relaysBy_9 (by decide) (fun c9 => ?_) (fun c9 => ?_)
  · replace hh := hh.1 c9
    refine lv_iload_n C.1 C.2.1 dX4_relaysBy_29 rfl (lv_at hl 2 rfl) ?_
    exact hR _ _ _ (F, L, r) _ _ dX4_relaysBy_30 rfl hh hw
  · replace hh := hh.2 c9
    refine lv_iload_n C.1 C.2.1 dX4_relaysBy_12 rfl (lv_at hl 2 rfl) ?_
    refine lv_aload_n C.1 C.2.1 dX4_relaysBy_13 rfl (lv_at hl 0 rfl) ?_
    refine lv_iload_n C.1 C.2.1 dX4_relaysBy_14 rfl (lv_at hl 3 rfl) ?_
    refine lv_iload_n C.1 C.2.1 dX4_relaysBy_15 rfl (lv_at hl 1 rfl) ?_
    refine c_Vi C hw (ctX4_valueOf l D h cI cL cF cM a0 ha0 F L r x3 x1 hh) (cwV 2 C.2.2.2.2 (gd_V w_1177 w_1178 w_1179 w_119 w_1180) rfl rfl rfl cdX4_valueOf ⟨Nat.le_of_ble_eq_true rfl, Nat.le_of_ble_eq_true rfl⟩) rfl (kd_lt ha0 (by decide)) (ce4 ha0) rfl hl.1 (Nat.le_of_ble_eq_true rfl) dX4_relaysBy_16 ⟨Nat.zero_le _, Nat.zero_le _⟩ (fun r16 u16 H locs hh hw => ?_) rfl
    refine lv_iload_n C.1 C.2.1 dX4_relaysBy_19 rfl (lv_at hl 3 rfl) ?_
    refine g_ishl C dX4_relaysBy_20 ?_
    refine lv_ior C.1 C.2.1 dX4_relaysBy_21 ?_
    refine lv_istore_n (lv' := [(2, .int (x2 ||| (jshl r16 x3))), (0, .ref (h a0)), (1, .int x1), (3, .int x3)]) C.1 C.2.1 dX4_relaysBy_22 rfl hl (by decide) rfl (fun ls hl => ?_)
    refine lv_iinc (v := x3 + (1 : Int32)) (lv' := [(3, .int (x3 + (1 : Int32))), (2, .int (x2 ||| (jshl r16 x3))), (0, .ref (h a0)), (1, .int x1)]) C.1 C.2.1 dX4_relaysBy_23 hl (k := 3) rfl rfl (by decide) rfl (fun ls hl => ?_)
    refine lv_goto (tgt := 4) C.1 C.2.1 dX4_relaysBy_26 (by decide) ?_
    exact hB4 _ _ _ _ _ _ _ _ _ hh hw (lv_sub hl [2, 3, 1, 0] rfl)
def wpX4_relaysBy_b4 (a0 : Nat) (n_ : Nat) (F : Nat → Nat → Int32) (L : Nat → Nat → Int64) (r : Nat → Nat → Nat) (x1 : Int32) (x2 : Int32) (x3 : Int32) (K : Int32 → cS → Prop) : Prop := match n_ with
  | 0 => False
  | n + 1 => wpX4_relaysBy_b4_body (fun F L r x1 x2 x3 => wpX4_relaysBy_b4 a0 n F L r x1 x2 x3 K) a0 F L r x1 x2 x3 K
theorem tX4_relaysBy_b4 {a0 : Nat} {K : Int32 → cS → Prop} (C : CallFix p m c cX4_relaysBy 4 s args wsX4_relaysBy RX4) (hR : Rti .int p l e rmX4_relaysBy s m args below meth c cX4_relaysBy D A (cT cI cL cF cM) (cWu h cI cL cF cM) K Q) (ha0 : kd a0 = 4) (n : Nat) : ∀ (F : Nat → Nat → Int32) (L : Nat → Nat → Int64) (r : Nat → Nat → Nat) (x1 : Int32) (x2 : Int32) (x3 : Int32) (H : Heap) (locs : List Loc) (ls : Array Slot), wpX4_relaysBy_b4 a0 n F L r x1 x2 x3 K → Wd D A s (cT cI cL cF cM) (cW h cI cL cF cM F L r) H locs → lv_has ls 4 [(0, .ref (h a0)), (1, .int x1), (2, .int x2), (3, .int x3)] → W p l e rmX4_relaysBy s m args below meth c H locs 0 0 Q (F0 m 4 ls []) := by
  induction n with
  | zero => intro F L r x1 x2 x3 H locs ls hh; exact hh.elim
  | succ n ih => intro F L r x1 x2 x3 H locs ls hh hw hl; exact tX4_relaysBy_b4_body C hR ha0 ih hh hw hl
def wpX4_relaysBy_b0 (a0 : Nat) (F : Nat → Nat → Int32) (L : Nat → Nat → Int64) (r : Nat → Nat → Nat) (x1 : Int32) (K : Int32 → cS → Prop) : Prop :=
  ∃ n, wpX4_relaysBy_b4 a0 n F L r x1 (0 : Int32) (0 : Int32) K
set_option maxHeartbeats 4000000 in
set_option maxRecDepth 100000 in
theorem tX4_relaysBy_b0 {a0 : Nat} {K : Int32 → cS → Prop} (C : CallFix p m c cX4_relaysBy 4 s args wsX4_relaysBy RX4) (hR : Rti .int p l e rmX4_relaysBy s m args below meth c cX4_relaysBy D A (cT cI cL cF cM) (cWu h cI cL cF cM) K Q) (ha0 : kd a0 = 4) {F : Nat → Nat → Int32} {L : Nat → Nat → Int64} {r : Nat → Nat → Nat} {x1 : Int32} (hh : wpX4_relaysBy_b0 a0 F L r x1 K) {H : Heap} {locs : List Loc} {ls : Array Slot} (hw : Wd D A s (cT cI cL cF cM) (cW h cI cL cF cM F L r) H locs) (hl : lv_has ls 4 [(0, .ref (h a0)), (1, .int x1)]) : W p l e rmX4_relaysBy s m args below meth c H locs 0 0 Q (F0 m 0 ls []) := by
  unfold wpX4_relaysBy_b0 at hh
  refine lv_iconst (v := (0 : Int32)) C.1 C.2.1 dX4_relaysBy_0 (by decide) ?_
  refine lv_istore_n (lv' := [(2, .int (0 : Int32)), (0, .ref (h a0)), (1, .int x1)]) C.1 C.2.1 dX4_relaysBy_1 rfl hl (by decide) rfl (fun ls hl => ?_)
  refine lv_iconst (v := (0 : Int32)) C.1 C.2.1 dX4_relaysBy_2 (by decide) ?_
  refine lv_istore_n (lv' := [(3, .int (0 : Int32)), (2, .int (0 : Int32)), (0, .ref (h a0)), (1, .int x1)]) C.1 C.2.1 dX4_relaysBy_3 rfl hl (by decide) rfl (fun ls hl => ?_)
  obtain ⟨n, hh⟩ := hh
  exact tX4_relaysBy_b4 C hR ha0 n _ _ _ _ _ _ _ _ _ hh hw (lv_sub hl [2, 3, 1, 0] rfl)
def wpX4_relaysBy (a0 : Nat) (F : Nat → Nat → Int32) (L : Nat → Nat → Int64) (r : Nat → Nat → Nat) (x1 : Int32) (K : Int32 → cS → Prop) : Prop := wpX4_relaysBy_b0 a0 F L r x1 K
theorem ctX4_relaysBy (l : Launch) (D : va_G) (h : Nat → Nat) (cI cL cF cM : ClassId) (a0 : Nat) (ha0 : kd a0 = 4) (F : Nat → Nat → Int32) (L : Nat → Nat → Int64) (r : Nat → Nat → Nat) (x1 : Int32) {K : Int32 → cS → Prop} (hh : wpX4_relaysBy a0 F L r x1 K) : Ci l yX4_relaysBy wsX4_relaysBy rmX4_relaysBy [.ref (h a0), .int x1] D (cT cI cL cF cM) (cWu h cI cL cF cM) (F, L, r) K := by
  refine Ci_of (cc := cX4_relaysBy) (maxL := 4) (by decide) rfl (Nat.le_of_ble_eq_true rfl) ?_
  intro p e s m below meth c A Q C hw hR ls hl
  exact tX4_relaysBy_b0 C hR ha0 hh hw hl
theorem cdX4_relaysBy : yX4_relaysBy.cls = RX4 ∧ yX4_relaysBy.cls ≠ "java/lang/invoke/MethodHandle" ∧ yX4_relaysBy.cls ≠ "java/lang/invoke/VarHandle" ∧ (parseMethodDescriptor yX4_relaysBy.desc).map (fun d => d.parameters.length) = some 1 := by decide +kernel
abbrev rmX4_outputsBy : Room := { frames := 1, cells := 0, slots := 0, locals := 26 }
def wpX4_outputsBy_b4_body (B4 : (Nat → Nat → Int32) → (Nat → Nat → Int64) → (Nat → Nat → Nat) → Int32 → Int32 → Int32 → Prop) (a0 : Nat) (F : Nat → Nat → Int32) (L : Nat → Nat → Int64) (r : Nat → Nat → Nat) (x1 : Int32) (x2 : Int32) (x3 : Int32) (K : Int32 → cS → Prop) : Prop :=
  (((4 : Int32) < x3) →
    K x2 (F, L, r)) ∧
  (¬ ((4 : Int32) < x3) →
    wpX4_placeOfOutput x3 (fun r12 u12 =>
      wpX4_valueOf a0 F L r r12 x1 (fun r16 u16 =>
      B4 u16.1 u16.2.1 u16.2.2 x1 (x2 ||| (jshl r16 x3)) (x3 + (1 : Int32)))))
set_option maxHeartbeats 4000000 in
set_option maxRecDepth 100000 in
theorem tX4_outputsBy_b4_body {a0 : Nat} {B4 : (Nat → Nat → Int32) → (Nat → Nat → Int64) → (Nat → Nat → Nat) → Int32 → Int32 → Int32 → Prop} {K : Int32 → cS → Prop} (C : CallFix p m c cX4_outputsBy 4 s args wsX4_outputsBy RX4) (hR : Rti .int p l e rmX4_outputsBy s m args below meth c cX4_outputsBy D A (cT cI cL cF cM) (cWu h cI cL cF cM) K Q) (ha0 : kd a0 = 4) (hB4 : ∀ (F : Nat → Nat → Int32) (L : Nat → Nat → Int64) (r : Nat → Nat → Nat) (x1 : Int32) (x2 : Int32) (x3 : Int32) (H : Heap) (locs : List Loc) (ls : Array Slot), B4 F L r x1 x2 x3 → Wd D A s (cT cI cL cF cM) (cW h cI cL cF cM F L r) H locs → lv_has ls 4 [(0, .ref (h a0)), (1, .int x1), (2, .int x2), (3, .int x3)] → W p l e rmX4_outputsBy s m args below meth c H locs 0 0 Q (F0 m 4 ls [])) {F : Nat → Nat → Int32} {L : Nat → Nat → Int64} {r : Nat → Nat → Nat} {x1 : Int32} {x2 : Int32} {x3 : Int32} (hh : wpX4_outputsBy_b4_body B4 a0 F L r x1 x2 x3 K) {H : Heap} {locs : List Loc} {ls : Array Slot} (hw : Wd D A s (cT cI cL cF cM) (cW h cI cL cF cM F L r) H locs) (hl : lv_has ls 4 [(0, .ref (h a0)), (1, .int x1), (2, .int x2), (3, .int x3)]) : W p l e rmX4_outputsBy s m args below meth c H locs 0 0 Q (F0 m 4 ls []) := by
  unfold wpX4_outputsBy_b4_body at hh
  refine lv_iload_n C.1 C.2.1 dX4_outputsBy_4 rfl (lv_at hl 3 rfl) ?_
  refine lv_iconst (v := (4 : Int32)) C.1 C.2.1 dX4_outputsBy_5 (by decide) ?_
  refine lv_icmp_gt (tgt := 29) C.1 C.2.1 dX4_outputsBy_6 (by decide) (fun c6 => ?_) (fun c6 => ?_)
  · replace hh := hh.1 c6
    refine lv_iload_n C.1 C.2.1 dX4_outputsBy_29 rfl (lv_at hl 2 rfl) ?_
    exact hR _ _ _ (F, L, r) _ _ dX4_outputsBy_30 rfl hh hw
  · replace hh := hh.2 c6
    refine lv_iload_n C.1 C.2.1 dX4_outputsBy_9 rfl (lv_at hl 2 rfl) ?_
    refine lv_aload_n C.1 C.2.1 dX4_outputsBy_10 rfl (lv_at hl 0 rfl) ?_
    refine lv_iload_n C.1 C.2.1 dX4_outputsBy_11 rfl (lv_at hl 3 rfl) ?_
    refine wd_Si C hw (ctX4_placeOfOutput l D x3 hh) (va_cwS 1 C.2.2.2.2 (gd_S w_1185 w_849 (ini_cls rfl w_119) w_850) rfl rfl rfl cdX4_placeOfOutput ⟨Nat.le_of_ble_eq_true rfl, Nat.le_of_ble_eq_true rfl⟩) rfl hl.1 (Nat.le_of_ble_eq_true rfl) dX4_outputsBy_12 ⟨Nat.zero_le _, Nat.zero_le _⟩ (fun r12 H locs hh hw => ?_) rfl
    refine lv_iload_n C.1 C.2.1 dX4_outputsBy_15 rfl (lv_at hl 1 rfl) ?_
    refine c_Vi C hw (ctX4_valueOf l D h cI cL cF cM a0 ha0 F L r r12 x1 hh) (cwV 2 C.2.2.2.2 (gd_V w_1177 w_1178 w_1179 w_119 w_1180) rfl rfl rfl cdX4_valueOf ⟨Nat.le_of_ble_eq_true rfl, Nat.le_of_ble_eq_true rfl⟩) rfl (kd_lt ha0 (by decide)) (ce4 ha0) rfl hl.1 (Nat.le_of_ble_eq_true rfl) dX4_outputsBy_16 ⟨Nat.zero_le _, Nat.zero_le _⟩ (fun r16 u16 H locs hh hw => ?_) rfl
    refine lv_iload_n C.1 C.2.1 dX4_outputsBy_19 rfl (lv_at hl 3 rfl) ?_
    refine g_ishl C dX4_outputsBy_20 ?_
    refine lv_ior C.1 C.2.1 dX4_outputsBy_21 ?_
    refine lv_istore_n (lv' := [(2, .int (x2 ||| (jshl r16 x3))), (0, .ref (h a0)), (1, .int x1), (3, .int x3)]) C.1 C.2.1 dX4_outputsBy_22 rfl hl (by decide) rfl (fun ls hl => ?_)
    refine lv_iinc (v := x3 + (1 : Int32)) (lv' := [(3, .int (x3 + (1 : Int32))), (2, .int (x2 ||| (jshl r16 x3))), (0, .ref (h a0)), (1, .int x1)]) C.1 C.2.1 dX4_outputsBy_23 hl (k := 3) rfl rfl (by decide) rfl (fun ls hl => ?_)
    refine lv_goto (tgt := 4) C.1 C.2.1 dX4_outputsBy_26 (by decide) ?_
    exact hB4 _ _ _ _ _ _ _ _ _ hh hw (lv_sub hl [2, 3, 1, 0] rfl)
def wpX4_outputsBy_b4 (a0 : Nat) (n_ : Nat) (F : Nat → Nat → Int32) (L : Nat → Nat → Int64) (r : Nat → Nat → Nat) (x1 : Int32) (x2 : Int32) (x3 : Int32) (K : Int32 → cS → Prop) : Prop := match n_ with
  | 0 => False
  | n + 1 => wpX4_outputsBy_b4_body (fun F L r x1 x2 x3 => wpX4_outputsBy_b4 a0 n F L r x1 x2 x3 K) a0 F L r x1 x2 x3 K
theorem tX4_outputsBy_b4 {a0 : Nat} {K : Int32 → cS → Prop} (C : CallFix p m c cX4_outputsBy 4 s args wsX4_outputsBy RX4) (hR : Rti .int p l e rmX4_outputsBy s m args below meth c cX4_outputsBy D A (cT cI cL cF cM) (cWu h cI cL cF cM) K Q) (ha0 : kd a0 = 4) (n : Nat) : ∀ (F : Nat → Nat → Int32) (L : Nat → Nat → Int64) (r : Nat → Nat → Nat) (x1 : Int32) (x2 : Int32) (x3 : Int32) (H : Heap) (locs : List Loc) (ls : Array Slot), wpX4_outputsBy_b4 a0 n F L r x1 x2 x3 K → Wd D A s (cT cI cL cF cM) (cW h cI cL cF cM F L r) H locs → lv_has ls 4 [(0, .ref (h a0)), (1, .int x1), (2, .int x2), (3, .int x3)] → W p l e rmX4_outputsBy s m args below meth c H locs 0 0 Q (F0 m 4 ls []) := by
  induction n with
  | zero => intro F L r x1 x2 x3 H locs ls hh; exact hh.elim
  | succ n ih => intro F L r x1 x2 x3 H locs ls hh hw hl; exact tX4_outputsBy_b4_body C hR ha0 ih hh hw hl
def wpX4_outputsBy_b0 (a0 : Nat) (F : Nat → Nat → Int32) (L : Nat → Nat → Int64) (r : Nat → Nat → Nat) (x1 : Int32) (K : Int32 → cS → Prop) : Prop :=
  ∃ n, wpX4_outputsBy_b4 a0 n F L r x1 (0 : Int32) (1 : Int32) K
set_option maxHeartbeats 4000000 in
set_option maxRecDepth 100000 in
theorem tX4_outputsBy_b0 {a0 : Nat} {K : Int32 → cS → Prop} (C : CallFix p m c cX4_outputsBy 4 s args wsX4_outputsBy RX4) (hR : Rti .int p l e rmX4_outputsBy s m args below meth c cX4_outputsBy D A (cT cI cL cF cM) (cWu h cI cL cF cM) K Q) (ha0 : kd a0 = 4) {F : Nat → Nat → Int32} {L : Nat → Nat → Int64} {r : Nat → Nat → Nat} {x1 : Int32} (hh : wpX4_outputsBy_b0 a0 F L r x1 K) {H : Heap} {locs : List Loc} {ls : Array Slot} (hw : Wd D A s (cT cI cL cF cM) (cW h cI cL cF cM F L r) H locs) (hl : lv_has ls 4 [(0, .ref (h a0)), (1, .int x1)]) : W p l e rmX4_outputsBy s m args below meth c H locs 0 0 Q (F0 m 0 ls []) := by
  unfold wpX4_outputsBy_b0 at hh
  refine lv_iconst (v := (0 : Int32)) C.1 C.2.1 dX4_outputsBy_0 (by decide) ?_
  refine lv_istore_n (lv' := [(2, .int (0 : Int32)), (0, .ref (h a0)), (1, .int x1)]) C.1 C.2.1 dX4_outputsBy_1 rfl hl (by decide) rfl (fun ls hl => ?_)
  refine lv_iconst (v := (1 : Int32)) C.1 C.2.1 dX4_outputsBy_2 (by decide) ?_
  refine lv_istore_n (lv' := [(3, .int (1 : Int32)), (2, .int (0 : Int32)), (0, .ref (h a0)), (1, .int x1)]) C.1 C.2.1 dX4_outputsBy_3 rfl hl (by decide) rfl (fun ls hl => ?_)
  obtain ⟨n, hh⟩ := hh
  exact tX4_outputsBy_b4 C hR ha0 n _ _ _ _ _ _ _ _ _ hh hw (lv_sub hl [2, 3, 1, 0] rfl)
def wpX4_outputsBy (a0 : Nat) (F : Nat → Nat → Int32) (L : Nat → Nat → Int64) (r : Nat → Nat → Nat) (x1 : Int32) (K : Int32 → cS → Prop) : Prop := wpX4_outputsBy_b0 a0 F L r x1 K
theorem ctX4_outputsBy (l : Launch) (D : va_G) (h : Nat → Nat) (cI cL cF cM : ClassId) (a0 : Nat) (ha0 : kd a0 = 4) (F : Nat → Nat → Int32) (L : Nat → Nat → Int64) (r : Nat → Nat → Nat) (x1 : Int32) {K : Int32 → cS → Prop} (hh : wpX4_outputsBy a0 F L r x1 K) : Ci l yX4_outputsBy wsX4_outputsBy rmX4_outputsBy [.ref (h a0), .int x1] D (cT cI cL cF cM) (cWu h cI cL cF cM) (F, L, r) K := by
  refine Ci_of (cc := cX4_outputsBy) (maxL := 4) (by decide) rfl (Nat.le_of_ble_eq_true rfl) ?_
  intro p e s m below meth c A Q C hw hR ls hl
  exact tX4_outputsBy_b0 C hR ha0 hh hw hl
theorem cdX4_outputsBy : yX4_outputsBy.cls = RX4 ∧ yX4_outputsBy.cls ≠ "java/lang/invoke/MethodHandle" ∧ yX4_outputsBy.cls ≠ "java/lang/invoke/VarHandle" ∧ (parseMethodDescriptor yX4_outputsBy.desc).map (fun d => d.parameters.length) = some 1 := by decide +kernel
abbrev rmX3_doOutputs : Room := { frames := 0, cells := 0, slots := 0, locals := 0 }
def wpX3_doOutputs_b51 (a0 : Nat) (a2 : Nat) (F : Nat → Nat → Int32) (L : Nat → Nat → Int64) (r : Nat → Nat → Nat) (K : cS → Prop) : Prop :=
  K (F, L, r)
set_option maxHeartbeats 4000000 in
set_option maxRecDepth 100000 in
theorem tX3_doOutputs_b51 {a0 : Nat} {a2 : Nat} {K : cS → Prop} (C : CallFix p m c cX3_doOutputs 3 s args wsX3_doOutputs RX3) (hR : Rtv p l e rmX3_doOutputs s m args below meth c cX3_doOutputs D A (cT cI cL cF cM) (cWu h cI cL cF cM) K Q) (ha0 : kd a0 = 3) (ha2 : kd a2 = 1) {F : Nat → Nat → Int32} {L : Nat → Nat → Int64} {r : Nat → Nat → Nat} (hh : wpX3_doOutputs_b51 a0 a2 F L r K) {H : Heap} {locs : List Loc} {ls : Array Slot} (hw : Wd D A s (cT cI cL cF cM) (cW h cI cL cF cM F L r) H locs) (hl : lv_has ls 3 [(0, .ref (h a0))]) : W p l e rmX3_doOutputs s m args below meth c H locs 0 0 Q (F0 m 51 ls []) := by
  unfold wpX3_doOutputs_b51 at hh
  exact hR _ _ (F, L, r) _ _ dX3_doOutputs_51 hh hw
def wpX3_doOutputs_b38 (a0 : Nat) (a2 : Nat) (F : Nat → Nat → Int32) (L : Nat → Nat → Int64) (r : Nat → Nat → Nat) (x1 : Int32) (K : cS → Prop) : Prop :=
  ((((jshr x1 (1 : Int32)) &&& (1 : Int32)) = 0) →
    wpX3_doOutputs_b51 a0 a2 F L r K) ∧
  (¬ (((jshr x1 (1 : Int32)) &&& (1 : Int32)) = 0) →
    False)
set_option maxHeartbeats 4000000 in
set_option maxRecDepth 100000 in
theorem tX3_doOutputs_b38 {a0 : Nat} {a2 : Nat} {K : cS → Prop} (C : CallFix p m c cX3_doOutputs 3 s args wsX3_doOutputs RX3) (hR : Rtv p l e rmX3_doOutputs s m args below meth c cX3_doOutputs D A (cT cI cL cF cM) (cWu h cI cL cF cM) K Q) (ha0 : kd a0 = 3) (ha2 : kd a2 = 1) {F : Nat → Nat → Int32} {L : Nat → Nat → Int64} {r : Nat → Nat → Nat} {x1 : Int32} (hh : wpX3_doOutputs_b38 a0 a2 F L r x1 K) {H : Heap} {locs : List Loc} {ls : Array Slot} (hw : Wd D A s (cT cI cL cF cM) (cW h cI cL cF cM F L r) H locs) (hl : lv_has ls 3 [(0, .ref (h a0)), (1, .int x1), (2, .ref (h a2))]) : W p l e rmX3_doOutputs s m args below meth c H locs 0 0 Q (F0 m 38 ls []) := by
  unfold wpX3_doOutputs_b38 at hh
  refine lv_iload_n C.1 C.2.1 dX3_doOutputs_38 rfl (lv_at hl 1 rfl) ?_
  refine lv_iconst (v := (1 : Int32)) C.1 C.2.1 dX3_doOutputs_39 (by decide) ?_
  refine g_ishr C dX3_doOutputs_40 ?_
  refine lv_iconst (v := (1 : Int32)) C.1 C.2.1 dX3_doOutputs_41 (by decide) ?_
  refine lv_iand C.1 C.2.1 dX3_doOutputs_42 ?_
  refine lv_if_eq (tgt := 51) C.1 C.2.1 dX3_doOutputs_43 (by decide) (fun c43 => ?_) (fun c43 => ?_)
  · replace hh := hh.1 c43
    exact tX3_doOutputs_b51 C hR ha0 ha2 hh hw (lv_sub hl [0] rfl)
  · replace hh := hh.2 c43
    refine lv_aload_n C.1 C.2.1 dX3_doOutputs_46 rfl (lv_at hl 0 rfl) ?_
    refine lv_aload_n C.1 C.2.1 dX3_doOutputs_47 rfl (lv_at hl 2 rfl) ?_
    exact hh.elim
def wpX3_doOutputs_b25 (a0 : Nat) (a2 : Nat) (F : Nat → Nat → Int32) (L : Nat → Nat → Int64) (r : Nat → Nat → Nat) (x1 : Int32) (K : cS → Prop) : Prop :=
  ((((jshr x1 (3 : Int32)) &&& (1 : Int32)) = 0) →
    wpX3_doOutputs_b38 a0 a2 F L r x1 K) ∧
  (¬ (((jshr x1 (3 : Int32)) &&& (1 : Int32)) = 0) →
    False)
set_option maxHeartbeats 4000000 in
set_option maxRecDepth 100000 in
theorem tX3_doOutputs_b25 {a0 : Nat} {a2 : Nat} {K : cS → Prop} (C : CallFix p m c cX3_doOutputs 3 s args wsX3_doOutputs RX3) (hR : Rtv p l e rmX3_doOutputs s m args below meth c cX3_doOutputs D A (cT cI cL cF cM) (cWu h cI cL cF cM) K Q) (ha0 : kd a0 = 3) (ha2 : kd a2 = 1) {F : Nat → Nat → Int32} {L : Nat → Nat → Int64} {r : Nat → Nat → Nat} {x1 : Int32} (hh : wpX3_doOutputs_b25 a0 a2 F L r x1 K) {H : Heap} {locs : List Loc} {ls : Array Slot} (hw : Wd D A s (cT cI cL cF cM) (cW h cI cL cF cM F L r) H locs) (hl : lv_has ls 3 [(0, .ref (h a0)), (1, .int x1), (2, .ref (h a2))]) : W p l e rmX3_doOutputs s m args below meth c H locs 0 0 Q (F0 m 25 ls []) := by
  unfold wpX3_doOutputs_b25 at hh
  refine lv_iload_n C.1 C.2.1 dX3_doOutputs_25 rfl (lv_at hl 1 rfl) ?_
  refine lv_iconst (v := (3 : Int32)) C.1 C.2.1 dX3_doOutputs_26 (by decide) ?_
  refine g_ishr C dX3_doOutputs_27 ?_
  refine lv_iconst (v := (1 : Int32)) C.1 C.2.1 dX3_doOutputs_28 (by decide) ?_
  refine lv_iand C.1 C.2.1 dX3_doOutputs_29 ?_
  refine lv_if_eq (tgt := 38) C.1 C.2.1 dX3_doOutputs_30 (by decide) (fun c30 => ?_) (fun c30 => ?_)
  · replace hh := hh.1 c30
    exact tX3_doOutputs_b38 C hR ha0 ha2 hh hw hl
  · replace hh := hh.2 c30
    refine lv_aload_n C.1 C.2.1 dX3_doOutputs_33 rfl (lv_at hl 0 rfl) ?_
    refine lv_iconst (v := (1 : Int32)) C.1 C.2.1 dX3_doOutputs_34 (by decide) ?_
    exact hh.elim
def wpX3_doOutputs_b12 (a0 : Nat) (a2 : Nat) (F : Nat → Nat → Int32) (L : Nat → Nat → Int64) (r : Nat → Nat → Nat) (x1 : Int32) (K : cS → Prop) : Prop :=
  ((((jshr x1 (2 : Int32)) &&& (1 : Int32)) = 0) →
    wpX3_doOutputs_b25 a0 a2 F L r x1 K) ∧
  (¬ (((jshr x1 (2 : Int32)) &&& (1 : Int32)) = 0) →
    False)
set_option maxHeartbeats 4000000 in
set_option maxRecDepth 100000 in
theorem tX3_doOutputs_b12 {a0 : Nat} {a2 : Nat} {K : cS → Prop} (C : CallFix p m c cX3_doOutputs 3 s args wsX3_doOutputs RX3) (hR : Rtv p l e rmX3_doOutputs s m args below meth c cX3_doOutputs D A (cT cI cL cF cM) (cWu h cI cL cF cM) K Q) (ha0 : kd a0 = 3) (ha2 : kd a2 = 1) {F : Nat → Nat → Int32} {L : Nat → Nat → Int64} {r : Nat → Nat → Nat} {x1 : Int32} (hh : wpX3_doOutputs_b12 a0 a2 F L r x1 K) {H : Heap} {locs : List Loc} {ls : Array Slot} (hw : Wd D A s (cT cI cL cF cM) (cW h cI cL cF cM F L r) H locs) (hl : lv_has ls 3 [(0, .ref (h a0)), (1, .int x1), (2, .ref (h a2))]) : W p l e rmX3_doOutputs s m args below meth c H locs 0 0 Q (F0 m 12 ls []) := by
  unfold wpX3_doOutputs_b12 at hh
  refine lv_iload_n C.1 C.2.1 dX3_doOutputs_12 rfl (lv_at hl 1 rfl) ?_
  refine lv_iconst (v := (2 : Int32)) C.1 C.2.1 dX3_doOutputs_13 (by decide) ?_
  refine g_ishr C dX3_doOutputs_14 ?_
  refine lv_iconst (v := (1 : Int32)) C.1 C.2.1 dX3_doOutputs_15 (by decide) ?_
  refine lv_iand C.1 C.2.1 dX3_doOutputs_16 ?_
  refine lv_if_eq (tgt := 25) C.1 C.2.1 dX3_doOutputs_17 (by decide) (fun c17 => ?_) (fun c17 => ?_)
  · replace hh := hh.1 c17
    exact tX3_doOutputs_b25 C hR ha0 ha2 hh hw hl
  · replace hh := hh.2 c17
    refine lv_aload_n C.1 C.2.1 dX3_doOutputs_20 rfl (lv_at hl 0 rfl) ?_
    refine lv_iconst (v := (3 : Int32)) C.1 C.2.1 dX3_doOutputs_21 (by decide) ?_
    exact hh.elim
def wpX3_doOutputs_b0 (a0 : Nat) (a2 : Nat) (F : Nat → Nat → Int32) (L : Nat → Nat → Int64) (r : Nat → Nat → Nat) (x1 : Int32) (K : cS → Prop) : Prop :=
  ((((jshr x1 (4 : Int32)) &&& (1 : Int32)) = 0) →
    wpX3_doOutputs_b12 a0 a2 F L r x1 K) ∧
  (¬ (((jshr x1 (4 : Int32)) &&& (1 : Int32)) = 0) →
    False)
set_option maxHeartbeats 4000000 in
set_option maxRecDepth 100000 in
theorem tX3_doOutputs_b0 {a0 : Nat} {a2 : Nat} {K : cS → Prop} (C : CallFix p m c cX3_doOutputs 3 s args wsX3_doOutputs RX3) (hR : Rtv p l e rmX3_doOutputs s m args below meth c cX3_doOutputs D A (cT cI cL cF cM) (cWu h cI cL cF cM) K Q) (ha0 : kd a0 = 3) (ha2 : kd a2 = 1) {F : Nat → Nat → Int32} {L : Nat → Nat → Int64} {r : Nat → Nat → Nat} {x1 : Int32} (hh : wpX3_doOutputs_b0 a0 a2 F L r x1 K) {H : Heap} {locs : List Loc} {ls : Array Slot} (hw : Wd D A s (cT cI cL cF cM) (cW h cI cL cF cM F L r) H locs) (hl : lv_has ls 3 [(0, .ref (h a0)), (1, .int x1), (2, .ref (h a2))]) : W p l e rmX3_doOutputs s m args below meth c H locs 0 0 Q (F0 m 0 ls []) := by
  unfold wpX3_doOutputs_b0 at hh
  refine lv_iload_n C.1 C.2.1 dX3_doOutputs_0 rfl (lv_at hl 1 rfl) ?_
  refine lv_iconst (v := (4 : Int32)) C.1 C.2.1 dX3_doOutputs_1 (by decide) ?_
  refine g_ishr C dX3_doOutputs_2 ?_
  refine lv_iconst (v := (1 : Int32)) C.1 C.2.1 dX3_doOutputs_3 (by decide) ?_
  refine lv_iand C.1 C.2.1 dX3_doOutputs_4 ?_
  refine lv_if_eq (tgt := 12) C.1 C.2.1 dX3_doOutputs_5 (by decide) (fun c5 => ?_) (fun c5 => ?_)
  · replace hh := hh.1 c5
    exact tX3_doOutputs_b12 C hR ha0 ha2 hh hw hl
  · replace hh := hh.2 c5
    refine lv_aload_n C.1 C.2.1 dX3_doOutputs_8 rfl (lv_at hl 0 rfl) ?_
    exact hh.elim
def wpX3_doOutputs (a0 : Nat) (a2 : Nat) (F : Nat → Nat → Int32) (L : Nat → Nat → Int64) (r : Nat → Nat → Nat) (x1 : Int32) (K : cS → Prop) : Prop := wpX3_doOutputs_b0 a0 a2 F L r x1 K
theorem ctX3_doOutputs (l : Launch) (D : va_G) (h : Nat → Nat) (cI cL cF cM : ClassId) (a0 : Nat) (a2 : Nat) (ha0 : kd a0 = 3) (ha2 : kd a2 = 1) (F : Nat → Nat → Int32) (L : Nat → Nat → Int64) (r : Nat → Nat → Nat) (x1 : Int32) {K : cS → Prop} (hh : wpX3_doOutputs a0 a2 F L r x1 K) : Cv l yX3_doOutputs wsX3_doOutputs rmX3_doOutputs [.ref (h a0), .int x1, .ref (h a2)] D (cT cI cL cF cM) (cWu h cI cL cF cM) (F, L, r) K := by
  refine Cv_of (cc := cX3_doOutputs) (maxL := 3) (by decide) rfl (Nat.le_of_ble_eq_true rfl) ?_
  intro p e s m below meth c A Q C hw hR ls hl
  exact tX3_doOutputs_b0 C hR ha0 ha2 hh hw hl
theorem cdX3_doOutputs : yX3_doOutputs.cls = RX3 ∧ yX3_doOutputs.cls ≠ "java/lang/invoke/MethodHandle" ∧ yX3_doOutputs.cls ≠ "java/lang/invoke/VarHandle" ∧ (parseMethodDescriptor yX3_doOutputs.desc).map (fun d => d.parameters.length) = some 2 := by decide +kernel
abbrev rmX0_step : Room := { frames := 2, cells := 0, slots := 0, locals := 49 }
def wpX0_step_b0 (a0 : Nat) (a1 : Nat) (a2 : Nat) (a3 : Nat) (F : Nat → Nat → Int32) (L : Nat → Nat → Int64) (r : Nat → Nat → Nat) (K : cS → Prop) : Prop :=
  wpX3_inputs a2 a3 F L r (fun r3 u3 =>
    wpX4_relaysBy a1 (pt (pt u3.1 a0 6 r3) a0 4 ((pt u3.1 a0 6 r3) a0 0)) u3.2.1 u3.2.2 (((pt (pt u3.1 a0 6 r3) a0 4 ((pt u3.1 a0 6 r3) a0 0)) a0 4) ||| ((pt (pt u3.1 a0 6 r3) a0 4 ((pt u3.1 a0 6 r3) a0 0)) a0 6)) (fun r28 u28 =>
    wpX0_settle a0 u28.1 u28.2.1 u28.2.2 r28 (fun u31 =>
    wpX4_outputsBy a1 (pt (pt u31.1 a0 5 (u31.1 a0 0)) a0 3 (1 : Int32)) u31.2.1 u31.2.2 (((pt (pt u31.1 a0 5 (u31.1 a0 0)) a0 3 (1 : Int32)) a0 5) ||| ((pt (pt u31.1 a0 5 (u31.1 a0 0)) a0 3 (1 : Int32)) a0 6)) (fun r58 u58 =>
    wpX3_doOutputs a2 a3 u58.1 u58.2.1 u58.2.2 r58 (fun u62 =>
    K (u62.1, u62.2.1, u62.2.2))))))
set_option maxHeartbeats 4000000 in
set_option maxRecDepth 100000 in
theorem tX0_step_b0 {a0 : Nat} {a1 : Nat} {a2 : Nat} {a3 : Nat} {K : cS → Prop} (C : CallFix p m c cX0_step 4 s args wsX0_step RX0) (hR : Rtv p l e rmX0_step s m args below meth c cX0_step D A (cT cI cL cF cM) (cWu h cI cL cF cM) K Q) (ha0 : kd a0 = 0) (ha1 : kd a1 = 4) (ha2 : kd a2 = 3) (ha3 : kd a3 = 1) {F : Nat → Nat → Int32} {L : Nat → Nat → Int64} {r : Nat → Nat → Nat} (hh : wpX0_step_b0 a0 a1 a2 a3 F L r K) {H : Heap} {locs : List Loc} {ls : Array Slot} (hw : Wd D A s (cT cI cL cF cM) (cW h cI cL cF cM F L r) H locs) (hl : lv_has ls 4 [(0, .ref (h a0)), (1, .ref (h a1)), (2, .ref (h a2)), (3, .ref (h a3))]) : W p l e rmX0_step s m args below meth c H locs 0 0 Q (F0 m 0 ls []) := by
  unfold wpX0_step_b0 at hh
  refine lv_aload_n C.1 C.2.1 dX0_step_0 rfl (lv_at hl 0 rfl) ?_
  refine lv_aload_n C.1 C.2.1 dX0_step_1 rfl (lv_at hl 2 rfl) ?_
  refine lv_aload_n C.1 C.2.1 dX0_step_2 rfl (lv_at hl 3 rfl) ?_
  refine c_Vi C hw (ctX3_inputs l D h cI cL cF cM a2 a3 ha2 ha3 F L r hh) (cwV 1 C.2.2.2.2 (gd_V w_1167 w_1168 w_1169 w_121 w_1170) rfl rfl rfl cdX3_inputs ⟨Nat.le_of_ble_eq_true rfl, Nat.le_of_ble_eq_true rfl⟩) rfl (kd_lt ha2 (by decide)) (ce3 ha2) rfl hl.1 (Nat.le_of_ble_eq_true rfl) dX0_step_3 ⟨Nat.zero_le _, Nat.zero_le _⟩ (fun r3 u3 H locs hh hw => ?_) rfl
  refine c_puti C hw (inC inW0) tyX0 tyX0_ok nmX0 (kd_lt ha0 (by decide)) (ce0 ha0) rfl 6 (by decide) (wc w_447) rfl (ty := .int) (by decide +kernel) rfl rfl (Nat.le_of_ble_eq_true rfl) rfl dX0_step_6 (fun H locs hw => ?_)
  refine lv_aload_n C.1 C.2.1 dX0_step_9 rfl (lv_at hl 0 rfl) ?_
  refine lv_aload_n C.1 C.2.1 dX0_step_10 rfl (lv_at hl 0 rfl) ?_
  refine c_get C hw (inC inW0) (kd_lt ha0 (by decide)) (ce0 ha0) rfl 0 (by decide) (wc w_439) (v := .int ((pt u3.1 a0 6 r3) a0 0)) rfl dX0_step_11 ?_
  refine c_puti C hw (inC inW0) tyX0 tyX0_ok nmX0 (kd_lt ha0 (by decide)) (ce0 ha0) rfl 4 (by decide) (wc w_445) rfl (ty := .int) (by decide +kernel) rfl rfl (Nat.le_of_ble_eq_true rfl) rfl dX0_step_14 (fun H locs hw => ?_)
  refine lv_aload_n C.1 C.2.1 dX0_step_17 rfl (lv_at hl 0 rfl) ?_
  refine lv_aload_n C.1 C.2.1 dX0_step_18 rfl (lv_at hl 1 rfl) ?_
  refine lv_aload_n C.1 C.2.1 dX0_step_19 rfl (lv_at hl 0 rfl) ?_
  refine c_get C hw (inC inW0) (kd_lt ha0 (by decide)) (ce0 ha0) rfl 4 (by decide) (wc w_445) (v := .int ((pt (pt u3.1 a0 6 r3) a0 4 ((pt u3.1 a0 6 r3) a0 0)) a0 4)) rfl dX0_step_20 ?_
  refine lv_aload_n C.1 C.2.1 dX0_step_23 rfl (lv_at hl 0 rfl) ?_
  refine c_get C hw (inC inW0) (kd_lt ha0 (by decide)) (ce0 ha0) rfl 6 (by decide) (wc w_447) (v := .int ((pt (pt u3.1 a0 6 r3) a0 4 ((pt u3.1 a0 6 r3) a0 0)) a0 6)) rfl dX0_step_24 ?_
  refine lv_ior C.1 C.2.1 dX0_step_27 ?_
  refine c_Vi C hw (ctX4_relaysBy l D h cI cL cF cM a1 ha1 (pt (pt u3.1 a0 6 r3) a0 4 ((pt u3.1 a0 6 r3) a0 0)) u3.2.1 u3.2.2 (((pt (pt u3.1 a0 6 r3) a0 4 ((pt u3.1 a0 6 r3) a0 0)) a0 4) ||| ((pt (pt u3.1 a0 6 r3) a0 4 ((pt u3.1 a0 6 r3) a0 0)) a0 6)) hh) (cwV 1 C.2.2.2.2 (gd_V w_1173 w_1174 w_1175 w_119 w_1176) rfl rfl rfl cdX4_relaysBy ⟨Nat.le_of_ble_eq_true rfl, Nat.le_of_ble_eq_true rfl⟩) rfl (kd_lt ha1 (by decide)) (ce4 ha1) rfl hl.1 (Nat.le_of_ble_eq_true rfl) dX0_step_28 ⟨Nat.zero_le _, Nat.zero_le _⟩ (fun r28 u28 H locs hh hw => ?_) rfl
  refine c_Vv C hw (ctX0_settle l D h cI cL cF cM a0 ha0 u28.1 u28.2.1 u28.2.2 r28 hh) (cwV 1 C.2.2.2.2 (gd_V w_929 w_930 w_931 w_122 w_932) rfl rfl rfl cdX0_settle ⟨Nat.le_of_ble_eq_true rfl, Nat.le_of_ble_eq_true rfl⟩) rfl (kd_lt ha0 (by decide)) (ce0 ha0) rfl hl.1 (Nat.le_of_ble_eq_true rfl) dX0_step_31 ⟨Nat.zero_le _, Nat.zero_le _⟩ (fun u31 H locs hh hw => ?_) rfl
  refine lv_aload_n C.1 C.2.1 dX0_step_34 rfl (lv_at hl 0 rfl) ?_
  refine lv_aload_n C.1 C.2.1 dX0_step_35 rfl (lv_at hl 0 rfl) ?_
  refine c_get C hw (inC inW0) (kd_lt ha0 (by decide)) (ce0 ha0) rfl 0 (by decide) (wc w_439) (v := .int (u31.1 a0 0)) rfl dX0_step_36 ?_
  refine c_puti C hw (inC inW0) tyX0 tyX0_ok nmX0 (kd_lt ha0 (by decide)) (ce0 ha0) rfl 5 (by decide) (wc w_446) rfl (ty := .int) (by decide +kernel) rfl rfl (Nat.le_of_ble_eq_true rfl) rfl dX0_step_39 (fun H locs hw => ?_)
  refine lv_aload_n C.1 C.2.1 dX0_step_42 rfl (lv_at hl 0 rfl) ?_
  refine lv_iconst (v := (1 : Int32)) C.1 C.2.1 dX0_step_43 (by decide) ?_
  refine c_puti C hw (inC inW0) tyX0 tyX0_ok nmX0 (kd_lt ha0 (by decide)) (ce0 ha0) rfl 3 (by decide) (wc w_444) rfl (ty := .boolean) (by decide +kernel) rfl rfl (Nat.le_of_ble_eq_true rfl) rfl dX0_step_44 (fun H locs hw => ?_)
  refine lv_aload_n C.1 C.2.1 dX0_step_47 rfl (lv_at hl 2 rfl) ?_
  refine lv_aload_n C.1 C.2.1 dX0_step_48 rfl (lv_at hl 1 rfl) ?_
  refine lv_aload_n C.1 C.2.1 dX0_step_49 rfl (lv_at hl 0 rfl) ?_
  refine c_get C hw (inC inW0) (kd_lt ha0 (by decide)) (ce0 ha0) rfl 5 (by decide) (wc w_446) (v := .int ((pt (pt u31.1 a0 5 (u31.1 a0 0)) a0 3 (1 : Int32)) a0 5)) rfl dX0_step_50 ?_
  refine lv_aload_n C.1 C.2.1 dX0_step_53 rfl (lv_at hl 0 rfl) ?_
  refine c_get C hw (inC inW0) (kd_lt ha0 (by decide)) (ce0 ha0) rfl 6 (by decide) (wc w_447) (v := .int ((pt (pt u31.1 a0 5 (u31.1 a0 0)) a0 3 (1 : Int32)) a0 6)) rfl dX0_step_54 ?_
  refine lv_ior C.1 C.2.1 dX0_step_57 ?_
  refine c_Vi C hw (ctX4_outputsBy l D h cI cL cF cM a1 ha1 (pt (pt u31.1 a0 5 (u31.1 a0 0)) a0 3 (1 : Int32)) u31.2.1 u31.2.2 (((pt (pt u31.1 a0 5 (u31.1 a0 0)) a0 3 (1 : Int32)) a0 5) ||| ((pt (pt u31.1 a0 5 (u31.1 a0 0)) a0 3 (1 : Int32)) a0 6)) hh) (cwV 1 C.2.2.2.2 (gd_V w_1181 w_1182 w_1183 w_119 w_1184) rfl rfl rfl cdX4_outputsBy ⟨Nat.le_of_ble_eq_true rfl, Nat.le_of_ble_eq_true rfl⟩) rfl (kd_lt ha1 (by decide)) (ce4 ha1) rfl hl.1 (Nat.le_of_ble_eq_true rfl) dX0_step_58 ⟨Nat.zero_le _, Nat.zero_le _⟩ (fun r58 u58 H locs hh hw => ?_) rfl
  refine lv_aload_n C.1 C.2.1 dX0_step_61 rfl (lv_at hl 3 rfl) ?_
  refine c_Vv C hw (ctX3_doOutputs l D h cI cL cF cM a2 a3 ha2 ha3 u58.1 u58.2.1 u58.2.2 r58 hh) (cwV 2 C.2.2.2.2 (gd_V w_1186 w_1187 w_1188 w_121 w_1189) rfl rfl rfl cdX3_doOutputs ⟨Nat.le_of_ble_eq_true rfl, Nat.le_of_ble_eq_true rfl⟩) rfl (kd_lt ha2 (by decide)) (ce3 ha2) rfl hl.1 (Nat.le_of_ble_eq_true rfl) dX0_step_62 ⟨Nat.zero_le _, Nat.zero_le _⟩ (fun u62 H locs hh hw => ?_) rfl
  exact hR _ _ (u62.1, u62.2.1, u62.2.2) _ _ dX0_step_65 hh hw
def wpX0_step (a0 : Nat) (a1 : Nat) (a2 : Nat) (a3 : Nat) (F : Nat → Nat → Int32) (L : Nat → Nat → Int64) (r : Nat → Nat → Nat) (K : cS → Prop) : Prop := wpX0_step_b0 a0 a1 a2 a3 F L r K
theorem ctX0_step (l : Launch) (D : va_G) (h : Nat → Nat) (cI cL cF cM : ClassId) (a0 : Nat) (a1 : Nat) (a2 : Nat) (a3 : Nat) (ha0 : kd a0 = 0) (ha1 : kd a1 = 4) (ha2 : kd a2 = 3) (ha3 : kd a3 = 1) (F : Nat → Nat → Int32) (L : Nat → Nat → Int64) (r : Nat → Nat → Nat) {K : cS → Prop} (hh : wpX0_step a0 a1 a2 a3 F L r K) : Cv l yX0_step wsX0_step rmX0_step [.ref (h a0), .ref (h a1), .ref (h a2), .ref (h a3)] D (cT cI cL cF cM) (cWu h cI cL cF cM) (F, L, r) K := by
  refine Cv_of (cc := cX0_step) (maxL := 4) (by decide) rfl (Nat.le_of_ble_eq_true rfl) ?_
  intro p e s m below meth c A Q C hw hR ls hl
  exact tX0_step_b0 C hR ha0 ha1 ha2 ha3 hh hw hl
theorem cdX0_step : yX0_step.cls = RX0 ∧ yX0_step.cls ≠ "java/lang/invoke/MethodHandle" ∧ yX0_step.cls ≠ "java/lang/invoke/VarHandle" ∧ (parseMethodDescriptor yX0_step.desc).map (fun d => d.parameters.length) = some 3 := by decide +kernel
abbrev rmX10_pull : Room := { frames := 3, cells := 0, slots := 0, locals := 72 }
def wpX10_pull_b11 (F : Nat → Nat → Int32) (L : Nat → Nat → Int64) (r : Nat → Nat → Nat) (K : Int32 → cS → Prop) : Prop :=
  K (-1 : Int32) (F, L, r)
set_option maxHeartbeats 4000000 in
set_option maxRecDepth 100000 in
theorem tX10_pull_b11 {K : Int32 → cS → Prop} (C : CallFix p m c cX10_pull 3 s args wsX10_pull RX10) (hR : Rti .int p l e rmX10_pull s m args below meth c cX10_pull D A (cT cI cL cF cM) (cWu h cI cL cF cM) K Q) {F : Nat → Nat → Int32} {L : Nat → Nat → Int64} {r : Nat → Nat → Nat} (hh : wpX10_pull_b11 F L r K) {H : Heap} {locs : List Loc} {ls : Array Slot} (hw : Wd D A s (cT cI cL cF cM) (cW h cI cL cF cM F L r) H locs) (hl : lv_has ls 3 [(0, .ref (h 0))]) : W p l e rmX10_pull s m args below meth c H locs 0 0 Q (F0 m 11 ls []) := by
  unfold wpX10_pull_b11 at hh
  refine lv_iconst (v := (-1 : Int32)) C.1 C.2.1 dX10_pull_11 (by decide) ?_
  exact hR _ _ _ (F, L, r) _ _ dX10_pull_12 rfl hh hw
def wpX10_pull_b23_body (B23 : (Nat → Nat → Int32) → (Nat → Nat → Int64) → (Nat → Nat → Nat) → Int32 → Int32 → Prop) (F : Nat → Nat → Int32) (L : Nat → Nat → Int64) (r : Nat → Nat → Nat) (x1 : Int32) (x2 : Int32) (K : Int32 → cS → Prop) : Prop :=
  ((x1 ≤ x2) →
    K (F 74 7) (F, L, r)) ∧
  (¬ (x1 ≤ x2) →
    kd (r 0 4) = 4 ∧ wpX0_step 43 (r 0 4) 74 46 F L r (fun u44 =>
      B23 u44.1 u44.2.1 u44.2.2 x1 (x2 + (1 : Int32))))
set_option maxHeartbeats 4000000 in
set_option maxRecDepth 100000 in
theorem tX10_pull_b23_body {B23 : (Nat → Nat → Int32) → (Nat → Nat → Int64) → (Nat → Nat → Nat) → Int32 → Int32 → Prop} {K : Int32 → cS → Prop} (C : CallFix p m c cX10_pull 3 s args wsX10_pull RX10) (hR : Rti .int p l e rmX10_pull s m args below meth c cX10_pull D A (cT cI cL cF cM) (cWu h cI cL cF cM) K Q) (hB23 : ∀ (F : Nat → Nat → Int32) (L : Nat → Nat → Int64) (r : Nat → Nat → Nat) (x1 : Int32) (x2 : Int32) (H : Heap) (locs : List Loc) (ls : Array Slot), B23 F L r x1 x2 → Wd D A s (cT cI cL cF cM) (cW h cI cL cF cM F L r) H locs → lv_has ls 3 [(0, .ref (h 0)), (1, .int x1), (2, .int x2)] → W p l e rmX10_pull s m args below meth c H locs 0 0 Q (F0 m 23 ls [])) {F : Nat → Nat → Int32} {L : Nat → Nat → Int64} {r : Nat → Nat → Nat} {x1 : Int32} {x2 : Int32} (hh : wpX10_pull_b23_body B23 F L r x1 x2 K) {H : Heap} {locs : List Loc} {ls : Array Slot} (hw : Wd D A s (cT cI cL cF cM) (cW h cI cL cF cM F L r) H locs) (hl : lv_has ls 3 [(0, .ref (h 0)), (1, .int x1), (2, .int x2)]) : W p l e rmX10_pull s m args below meth c H locs 0 0 Q (F0 m 23 ls []) := by
  unfold wpX10_pull_b23_body at hh
  refine lv_iload_n C.1 C.2.1 dX10_pull_23 rfl (lv_at hl 2 rfl) ?_
  refine lv_iload_n C.1 C.2.1 dX10_pull_24 rfl (lv_at hl 1 rfl) ?_
  refine lv_icmp_ge (tgt := 53) C.1 C.2.1 dX10_pull_25 (by decide) (fun c25 => ?_) (fun c25 => ?_)
  · replace hh := hh.1 c25
    refine lv_aload_n C.1 C.2.1 dX10_pull_53 rfl (lv_at hl 0 rfl) ?_
    refine c_get C hw (inC inW10) (kd_lt kp0 (by decide)) (ce10 kp0) rfl 6 (by decide) (wc w_576) (v := .ref (h 74)) rfl dX10_pull_54 ?_
    refine c_get C hw (inC inW3) (kd_lt kp74 (by decide)) (ce3 kp74) rfl 7 (by decide) (wc w_408) (v := .int (F 74 7)) rfl dX10_pull_57 ?_
    exact hR _ _ _ (F, L, r) _ _ dX10_pull_60 rfl hh hw
  · replace hh := hh.2 c25
    refine lv_aload_n C.1 C.2.1 dX10_pull_28 rfl (lv_at hl 0 rfl) ?_
    refine c_get C hw (inC inW10) (kd_lt kp0 (by decide)) (ce10 kp0) rfl 7 (by decide) (wc w_577) (v := .ref (h 43)) rfl dX10_pull_29 ?_
    refine lv_aload_n C.1 C.2.1 dX10_pull_32 rfl (lv_at hl 0 rfl) ?_
    refine c_get C hw (inC inW10) (kd_lt kp0 (by decide)) (ce10 kp0) rfl 4 (by decide) (wc w_574) (v := .ref (h (r 0 4))) rfl dX10_pull_33 ?_
    refine lv_aload_n C.1 C.2.1 dX10_pull_36 rfl (lv_at hl 0 rfl) ?_
    refine c_get C hw (inC inW10) (kd_lt kp0 (by decide)) (ce10 kp0) rfl 6 (by decide) (wc w_576) (v := .ref (h 74)) rfl dX10_pull_37 ?_
    refine lv_aload_n C.1 C.2.1 dX10_pull_40 rfl (lv_at hl 0 rfl) ?_
    refine c_get C hw (inC inW10) (kd_lt kp0 (by decide)) (ce10 kp0) rfl 5 (by decide) (wc w_575) (v := .ref (h 46)) rfl dX10_pull_41 ?_
    obtain ⟨hk0, hh⟩ := hh
    refine c_Vv C hw (ctX0_step l D h cI cL cF cM 43 (r 0 4) 74 46 kp43 hk0 kp74 kp46 F L r hh) (cwV 3 C.2.2.2.2 (gd_V w_1163 w_1164 w_1165 w_122 w_1166) rfl rfl rfl cdX0_step ⟨Nat.le_of_ble_eq_true rfl, Nat.le_of_ble_eq_true rfl⟩) rfl (kd_lt kp43 (by decide)) (ce0 kp43) rfl hl.1 (Nat.le_of_ble_eq_true rfl) dX10_pull_44 ⟨Nat.zero_le _, Nat.zero_le _⟩ (fun u44 H locs hh hw => ?_) rfl
    refine lv_iinc (v := x2 + (1 : Int32)) (lv' := [(2, .int (x2 + (1 : Int32))), (0, .ref (h 0)), (1, .int x1)]) C.1 C.2.1 dX10_pull_47 hl (k := 2) rfl rfl (by decide) rfl (fun ls hl => ?_)
    refine lv_goto (tgt := 23) C.1 C.2.1 dX10_pull_50 (by decide) ?_
    exact hB23 _ _ _ _ _ _ _ _ hh hw (lv_sub hl [1, 2, 0] rfl)
def wpX10_pull_b23 (n_ : Nat) (F : Nat → Nat → Int32) (L : Nat → Nat → Int64) (r : Nat → Nat → Nat) (x1 : Int32) (x2 : Int32) (K : Int32 → cS → Prop) : Prop := match n_ with
  | 0 => False
  | n + 1 => wpX10_pull_b23_body (fun F L r x1 x2 => wpX10_pull_b23 n F L r x1 x2 K) F L r x1 x2 K
theorem tX10_pull_b23 {K : Int32 → cS → Prop} (C : CallFix p m c cX10_pull 3 s args wsX10_pull RX10) (hR : Rti .int p l e rmX10_pull s m args below meth c cX10_pull D A (cT cI cL cF cM) (cWu h cI cL cF cM) K Q) (n : Nat) : ∀ (F : Nat → Nat → Int32) (L : Nat → Nat → Int64) (r : Nat → Nat → Nat) (x1 : Int32) (x2 : Int32) (H : Heap) (locs : List Loc) (ls : Array Slot), wpX10_pull_b23 n F L r x1 x2 K → Wd D A s (cT cI cL cF cM) (cW h cI cL cF cM F L r) H locs → lv_has ls 3 [(0, .ref (h 0)), (1, .int x1), (2, .int x2)] → W p l e rmX10_pull s m args below meth c H locs 0 0 Q (F0 m 23 ls []) := by
  induction n with
  | zero => intro F L r x1 x2 H locs ls hh; exact hh.elim
  | succ n ih => intro F L r x1 x2 H locs ls hh hw hl; exact tX10_pull_b23_body C hR ih hh hw hl
def wpX10_pull_b0 (F : Nat → Nat → Int32) (L : Nat → Nat → Int64) (r : Nat → Nat → Nat) (x1 : Int32) (K : Int32 → cS → Prop) : Prop :=
  ((x1 < 0) →
    wpX10_pull_b11 F L r K) ∧
  (¬ (x1 < 0) →
    ((x1 ≤ (5000 : Int32)) →
      ∃ n, wpX10_pull_b23 n (pt F 74 7 (0 : Int32)) L r x1 (0 : Int32) K) ∧
    (¬ (x1 ≤ (5000 : Int32)) →
      wpX10_pull_b11 F L r K))
set_option maxHeartbeats 4000000 in
set_option maxRecDepth 100000 in
theorem tX10_pull_b0 {K : Int32 → cS → Prop} (C : CallFix p m c cX10_pull 3 s args wsX10_pull RX10) (hR : Rti .int p l e rmX10_pull s m args below meth c cX10_pull D A (cT cI cL cF cM) (cWu h cI cL cF cM) K Q) {F : Nat → Nat → Int32} {L : Nat → Nat → Int64} {r : Nat → Nat → Nat} {x1 : Int32} (hh : wpX10_pull_b0 F L r x1 K) {H : Heap} {locs : List Loc} {ls : Array Slot} (hw : Wd D A s (cT cI cL cF cM) (cW h cI cL cF cM F L r) H locs) (hl : lv_has ls 3 [(0, .ref (h 0)), (1, .int x1)]) : W p l e rmX10_pull s m args below meth c H locs 0 0 Q (F0 m 0 ls []) := by
  unfold wpX10_pull_b0 at hh
  refine lv_iload_n C.1 C.2.1 dX10_pull_0 rfl (lv_at hl 1 rfl) ?_
  refine lv_if_lt (tgt := 11) C.1 C.2.1 dX10_pull_1 (by decide) (fun c1 => ?_) (fun c1 => ?_)
  · replace hh := hh.1 c1
    exact tX10_pull_b11 C hR hh hw (lv_sub hl [0] rfl)
  · replace hh := hh.2 c1
    refine lv_iload_n C.1 C.2.1 dX10_pull_4 rfl (lv_at hl 1 rfl) ?_
    refine lv_sipush (v := (5000 : Int32)) C.1 C.2.1 dX10_pull_5 (by decide) ?_
    refine lv_icmp_le (tgt := 13) C.1 C.2.1 dX10_pull_8 (by decide) (fun c8 => ?_) (fun c8 => ?_)
    · replace hh := hh.1 c8
      refine lv_aload_n C.1 C.2.1 dX10_pull_13 rfl (lv_at hl 0 rfl) ?_
      refine c_get C hw (inC inW10) (kd_lt kp0 (by decide)) (ce10 kp0) rfl 6 (by decide) (wc w_576) (v := .ref (h 74)) rfl dX10_pull_14 ?_
      refine lv_iconst (v := (0 : Int32)) C.1 C.2.1 dX10_pull_17 (by decide) ?_
      refine c_puti C hw (inC inW3) tyX3 tyX3_ok nmX3 (kd_lt kp74 (by decide)) (ce3 kp74) rfl 7 (by decide) (wc w_408) rfl (ty := .int) (by decide +kernel) rfl rfl (Nat.le_of_ble_eq_true rfl) rfl dX10_pull_18 (fun H locs hw => ?_)
      refine lv_iconst (v := (0 : Int32)) C.1 C.2.1 dX10_pull_21 (by decide) ?_
      refine lv_istore_n (lv' := [(2, .int (0 : Int32)), (0, .ref (h 0)), (1, .int x1)]) C.1 C.2.1 dX10_pull_22 rfl hl (by decide) rfl (fun ls hl => ?_)
      obtain ⟨n, hh⟩ := hh
      exact tX10_pull_b23 C hR n _ _ _ _ _ _ _ _ hh hw (lv_sub hl [1, 2, 0] rfl)
    · replace hh := hh.2 c8
      exact tX10_pull_b11 C hR hh hw (lv_sub hl [0] rfl)
def wpX10_pull (F : Nat → Nat → Int32) (L : Nat → Nat → Int64) (r : Nat → Nat → Nat) (x1 : Int32) (K : Int32 → cS → Prop) : Prop := wpX10_pull_b0 F L r x1 K
theorem ctX10_pull (l : Launch) (D : va_G) (h : Nat → Nat) (cI cL cF cM : ClassId) (F : Nat → Nat → Int32) (L : Nat → Nat → Int64) (r : Nat → Nat → Nat) (x1 : Int32) {K : Int32 → cS → Prop} (hh : wpX10_pull F L r x1 K) : Ci l yX10_pull wsX10_pull rmX10_pull [.ref (h 0), .int x1] D (cT cI cL cF cM) (cWu h cI cL cF cM) (F, L, r) K := by
  refine Ci_of (cc := cX10_pull) (maxL := 3) (by decide) rfl (Nat.le_of_ble_eq_true rfl) ?_
  intro p e s m below meth c A Q C hw hR ls hl
  exact tX10_pull_b0 C hR hh hw hl
theorem cdX10_pull : yX10_pull.cls = RX10 ∧ yX10_pull.cls ≠ "java/lang/invoke/MethodHandle" ∧ yX10_pull.cls ≠ "java/lang/invoke/VarHandle" ∧ (parseMethodDescriptor yX10_pull.desc).map (fun d => d.parameters.length) = some 1 := by decide +kernel
abbrev rmX10_pullRun : Room := { frames := 3, cells := 0, slots := 0, locals := 72 }
def wpX10_pullRun_b11 (F : Nat → Nat → Int32) (L : Nat → Nat → Int64) (r : Nat → Nat → Nat) (K : Int32 → cS → Prop) : Prop :=
  K (-1 : Int32) (F, L, r)
set_option maxHeartbeats 4000000 in
set_option maxRecDepth 100000 in
theorem tX10_pullRun_b11 {K : Int32 → cS → Prop} (C : CallFix p m c cX10_pullRun 3 s args wsX10_pullRun RX10) (hR : Rti .int p l e rmX10_pullRun s m args below meth c cX10_pullRun D A (cT cI cL cF cM) (cWu h cI cL cF cM) K Q) {F : Nat → Nat → Int32} {L : Nat → Nat → Int64} {r : Nat → Nat → Nat} (hh : wpX10_pullRun_b11 F L r K) {H : Heap} {locs : List Loc} {ls : Array Slot} (hw : Wd D A s (cT cI cL cF cM) (cW h cI cL cF cM F L r) H locs) (hl : lv_has ls 3 [(0, .ref (h 0))]) : W p l e rmX10_pullRun s m args below meth c H locs 0 0 Q (F0 m 11 ls []) := by
  unfold wpX10_pullRun_b11 at hh
  refine lv_iconst (v := (-1 : Int32)) C.1 C.2.1 dX10_pullRun_11 (by decide) ?_
  exact hR _ _ _ (F, L, r) _ _ dX10_pullRun_12 rfl hh hw
def wpX10_pullRun_b87 (F : Nat → Nat → Int32) (L : Nat → Nat → Int64) (r : Nat → Nat → Nat) (k0 : Int32) (K : Int32 → cS → Prop) : Prop :=
  K k0 (F, L, r)
set_option maxHeartbeats 4000000 in
set_option maxRecDepth 100000 in
theorem tX10_pullRun_b87 {K : Int32 → cS → Prop} (C : CallFix p m c cX10_pullRun 3 s args wsX10_pullRun RX10) (hR : Rti .int p l e rmX10_pullRun s m args below meth c cX10_pullRun D A (cT cI cL cF cM) (cWu h cI cL cF cM) K Q) {F : Nat → Nat → Int32} {L : Nat → Nat → Int64} {r : Nat → Nat → Nat} {k0 : Int32} (hh : wpX10_pullRun_b87 F L r k0 K) {H : Heap} {locs : List Loc} {ls : Array Slot} (hw : Wd D A s (cT cI cL cF cM) (cW h cI cL cF cM F L r) H locs) (hl : lv_has ls 3 [(0, .ref (h 0))]) : W p l e rmX10_pullRun s m args below meth c H locs 0 0 Q (F0 m 87 ls [.int k0]) := by
  unfold wpX10_pullRun_b87 at hh
  exact hR _ _ _ (F, L, r) _ _ dX10_pullRun_87 rfl hh hw
def wpX10_pullRun_b15_body (B15 : (Nat → Nat → Int32) → (Nat → Nat → Int64) → (Nat → Nat → Nat) → Int32 → Int32 → Prop) (F : Nat → Nat → Int32) (L : Nat → Nat → Int64) (r : Nat → Nat → Nat) (x1 : Int32) (x2 : Int32) (K : Int32 → cS → Prop) : Prop :=
  ((x1 ≤ x2) →
    (¬ ((F 74 0) = (F 46 3)) →
      wpX10_pullRun_b87 F L r (-2 : Int32) K) ∧
    (((F 74 0) = (F 46 3)) →
      wpX10_pullRun_b87 F L r x1 K)) ∧
  (¬ (x1 ≤ x2) →
    (¬ ((F 74 0) = (F 46 3)) →
      kd (r 0 4) = 4 ∧ wpX0_step 43 (r 0 4) 74 46 F L r (fun u55 =>
        B15 u55.1 u55.2.1 u55.2.2 x1 (x2 + (1 : Int32)))) ∧
    (((F 74 0) = (F 46 3)) →
      K x2 (F, L, r)))
set_option maxHeartbeats 4000000 in
set_option maxRecDepth 100000 in
theorem tX10_pullRun_b15_body {B15 : (Nat → Nat → Int32) → (Nat → Nat → Int64) → (Nat → Nat → Nat) → Int32 → Int32 → Prop} {K : Int32 → cS → Prop} (C : CallFix p m c cX10_pullRun 3 s args wsX10_pullRun RX10) (hR : Rti .int p l e rmX10_pullRun s m args below meth c cX10_pullRun D A (cT cI cL cF cM) (cWu h cI cL cF cM) K Q) (hB15 : ∀ (F : Nat → Nat → Int32) (L : Nat → Nat → Int64) (r : Nat → Nat → Nat) (x1 : Int32) (x2 : Int32) (H : Heap) (locs : List Loc) (ls : Array Slot), B15 F L r x1 x2 → Wd D A s (cT cI cL cF cM) (cW h cI cL cF cM F L r) H locs → lv_has ls 3 [(0, .ref (h 0)), (1, .int x1), (2, .int x2)] → W p l e rmX10_pullRun s m args below meth c H locs 0 0 Q (F0 m 15 ls [])) {F : Nat → Nat → Int32} {L : Nat → Nat → Int64} {r : Nat → Nat → Nat} {x1 : Int32} {x2 : Int32} (hh : wpX10_pullRun_b15_body B15 F L r x1 x2 K) {H : Heap} {locs : List Loc} {ls : Array Slot} (hw : Wd D A s (cT cI cL cF cM) (cW h cI cL cF cM F L r) H locs) (hl : lv_has ls 3 [(0, .ref (h 0)), (1, .int x1), (2, .int x2)]) : W p l e rmX10_pullRun s m args below meth c H locs 0 0 Q (F0 m 15 ls []) := by
  unfold wpX10_pullRun_b15_body at hh
  refine lv_iload_n C.1 C.2.1 dX10_pullRun_15 rfl (lv_at hl 2 rfl) ?_
  refine lv_iload_n C.1 C.2.1 dX10_pullRun_16 rfl (lv_at hl 1 rfl) ?_
  refine lv_icmp_ge (tgt := 64) C.1 C.2.1 dX10_pullRun_17 (by decide) (fun c17 => ?_) (fun c17 => ?_)
  · replace hh := hh.1 c17
    refine lv_aload_n C.1 C.2.1 dX10_pullRun_64 rfl (lv_at hl 0 rfl) ?_
    refine c_get C hw (inC inW10) (kd_lt kp0 (by decide)) (ce10 kp0) rfl 6 (by decide) (wc w_576) (v := .ref (h 74)) rfl dX10_pullRun_65 ?_
    refine c_get C hw (inC inW3) (kd_lt kp74 (by decide)) (ce3 kp74) rfl 0 (by decide) (wc w_393) (v := .int (F 74 0)) rfl dX10_pullRun_68 ?_
    refine lv_aload_n C.1 C.2.1 dX10_pullRun_71 rfl (lv_at hl 0 rfl) ?_
    refine c_get C hw (inC inW10) (kd_lt kp0 (by decide)) (ce10 kp0) rfl 5 (by decide) (wc w_575) (v := .ref (h 46)) rfl dX10_pullRun_72 ?_
    refine c_get C hw (inC inW1) (kd_lt kp46 (by decide)) (ce1 kp46) rfl 3 (by decide) (wc w_362) (v := .int (F 46 3)) rfl dX10_pullRun_75 ?_
    refine lv_icmp_ne (tgt := 85) C.1 C.2.1 dX10_pullRun_78 (by decide) (fun c78 => ?_) (fun c78 => ?_)
    · replace hh := hh.1 c78
      refine lv_bipush (v := (-2 : Int32)) C.1 C.2.1 dX10_pullRun_85 (by decide) ?_
      exact tX10_pullRun_b87 C hR hh hw (lv_sub hl [0] rfl)
    · replace hh := hh.2 c78
      refine lv_iload_n C.1 C.2.1 dX10_pullRun_81 rfl (lv_at hl 1 rfl) ?_
      refine lv_goto (tgt := 87) C.1 C.2.1 dX10_pullRun_82 (by decide) ?_
      exact tX10_pullRun_b87 C hR hh hw (lv_sub hl [0] rfl)
  · replace hh := hh.2 c17
    refine lv_aload_n C.1 C.2.1 dX10_pullRun_20 rfl (lv_at hl 0 rfl) ?_
    refine c_get C hw (inC inW10) (kd_lt kp0 (by decide)) (ce10 kp0) rfl 6 (by decide) (wc w_576) (v := .ref (h 74)) rfl dX10_pullRun_21 ?_
    refine c_get C hw (inC inW3) (kd_lt kp74 (by decide)) (ce3 kp74) rfl 0 (by decide) (wc w_393) (v := .int (F 74 0)) rfl dX10_pullRun_24 ?_
    refine lv_aload_n C.1 C.2.1 dX10_pullRun_27 rfl (lv_at hl 0 rfl) ?_
    refine c_get C hw (inC inW10) (kd_lt kp0 (by decide)) (ce10 kp0) rfl 5 (by decide) (wc w_575) (v := .ref (h 46)) rfl dX10_pullRun_28 ?_
    refine c_get C hw (inC inW1) (kd_lt kp46 (by decide)) (ce1 kp46) rfl 3 (by decide) (wc w_362) (v := .int (F 46 3)) rfl dX10_pullRun_31 ?_
    refine lv_icmp_ne (tgt := 39) C.1 C.2.1 dX10_pullRun_34 (by decide) (fun c34 => ?_) (fun c34 => ?_)
    · replace hh := hh.1 c34
      refine lv_aload_n C.1 C.2.1 dX10_pullRun_39 rfl (lv_at hl 0 rfl) ?_
      refine c_get C hw (inC inW10) (kd_lt kp0 (by decide)) (ce10 kp0) rfl 7 (by decide) (wc w_577) (v := .ref (h 43)) rfl dX10_pullRun_40 ?_
      refine lv_aload_n C.1 C.2.1 dX10_pullRun_43 rfl (lv_at hl 0 rfl) ?_
      refine c_get C hw (inC inW10) (kd_lt kp0 (by decide)) (ce10 kp0) rfl 4 (by decide) (wc w_574) (v := .ref (h (r 0 4))) rfl dX10_pullRun_44 ?_
      refine lv_aload_n C.1 C.2.1 dX10_pullRun_47 rfl (lv_at hl 0 rfl) ?_
      refine c_get C hw (inC inW10) (kd_lt kp0 (by decide)) (ce10 kp0) rfl 6 (by decide) (wc w_576) (v := .ref (h 74)) rfl dX10_pullRun_48 ?_
      refine lv_aload_n C.1 C.2.1 dX10_pullRun_51 rfl (lv_at hl 0 rfl) ?_
      refine c_get C hw (inC inW10) (kd_lt kp0 (by decide)) (ce10 kp0) rfl 5 (by decide) (wc w_575) (v := .ref (h 46)) rfl dX10_pullRun_52 ?_
      obtain ⟨hk0, hh⟩ := hh
      refine c_Vv C hw (ctX0_step l D h cI cL cF cM 43 (r 0 4) 74 46 kp43 hk0 kp74 kp46 F L r hh) (cwV 3 C.2.2.2.2 (gd_V w_1163 w_1164 w_1165 w_122 w_1166) rfl rfl rfl cdX0_step ⟨Nat.le_of_ble_eq_true rfl, Nat.le_of_ble_eq_true rfl⟩) rfl (kd_lt kp43 (by decide)) (ce0 kp43) rfl hl.1 (Nat.le_of_ble_eq_true rfl) dX10_pullRun_55 ⟨Nat.zero_le _, Nat.zero_le _⟩ (fun u55 H locs hh hw => ?_) rfl
      refine lv_iinc (v := x2 + (1 : Int32)) (lv' := [(2, .int (x2 + (1 : Int32))), (0, .ref (h 0)), (1, .int x1)]) C.1 C.2.1 dX10_pullRun_58 hl (k := 2) rfl rfl (by decide) rfl (fun ls hl => ?_)
      refine lv_goto (tgt := 15) C.1 C.2.1 dX10_pullRun_61 (by decide) ?_
      exact hB15 _ _ _ _ _ _ _ _ hh hw (lv_sub hl [1, 2, 0] rfl)
    · replace hh := hh.2 c34
      refine lv_iload_n C.1 C.2.1 dX10_pullRun_37 rfl (lv_at hl 2 rfl) ?_
      exact hR _ _ _ (F, L, r) _ _ dX10_pullRun_38 rfl hh hw
def wpX10_pullRun_b15 (n_ : Nat) (F : Nat → Nat → Int32) (L : Nat → Nat → Int64) (r : Nat → Nat → Nat) (x1 : Int32) (x2 : Int32) (K : Int32 → cS → Prop) : Prop := match n_ with
  | 0 => False
  | n + 1 => wpX10_pullRun_b15_body (fun F L r x1 x2 => wpX10_pullRun_b15 n F L r x1 x2 K) F L r x1 x2 K
theorem tX10_pullRun_b15 {K : Int32 → cS → Prop} (C : CallFix p m c cX10_pullRun 3 s args wsX10_pullRun RX10) (hR : Rti .int p l e rmX10_pullRun s m args below meth c cX10_pullRun D A (cT cI cL cF cM) (cWu h cI cL cF cM) K Q) (n : Nat) : ∀ (F : Nat → Nat → Int32) (L : Nat → Nat → Int64) (r : Nat → Nat → Nat) (x1 : Int32) (x2 : Int32) (H : Heap) (locs : List Loc) (ls : Array Slot), wpX10_pullRun_b15 n F L r x1 x2 K → Wd D A s (cT cI cL cF cM) (cW h cI cL cF cM F L r) H locs → lv_has ls 3 [(0, .ref (h 0)), (1, .int x1), (2, .int x2)] → W p l e rmX10_pullRun s m args below meth c H locs 0 0 Q (F0 m 15 ls []) := by
  induction n with
  | zero => intro F L r x1 x2 H locs ls hh; exact hh.elim
  | succ n ih => intro F L r x1 x2 H locs ls hh hw hl; exact tX10_pullRun_b15_body C hR ih hh hw hl
def wpX10_pullRun_b0 (F : Nat → Nat → Int32) (L : Nat → Nat → Int64) (r : Nat → Nat → Nat) (x1 : Int32) (K : Int32 → cS → Prop) : Prop :=
  ((x1 < 0) →
    wpX10_pullRun_b11 F L r K) ∧
  (¬ (x1 < 0) →
    ((x1 ≤ (5000 : Int32)) →
      ∃ n, wpX10_pullRun_b15 n F L r x1 (0 : Int32) K) ∧
    (¬ (x1 ≤ (5000 : Int32)) →
      wpX10_pullRun_b11 F L r K))
set_option maxHeartbeats 4000000 in
set_option maxRecDepth 100000 in
theorem tX10_pullRun_b0 {K : Int32 → cS → Prop} (C : CallFix p m c cX10_pullRun 3 s args wsX10_pullRun RX10) (hR : Rti .int p l e rmX10_pullRun s m args below meth c cX10_pullRun D A (cT cI cL cF cM) (cWu h cI cL cF cM) K Q) {F : Nat → Nat → Int32} {L : Nat → Nat → Int64} {r : Nat → Nat → Nat} {x1 : Int32} (hh : wpX10_pullRun_b0 F L r x1 K) {H : Heap} {locs : List Loc} {ls : Array Slot} (hw : Wd D A s (cT cI cL cF cM) (cW h cI cL cF cM F L r) H locs) (hl : lv_has ls 3 [(0, .ref (h 0)), (1, .int x1)]) : W p l e rmX10_pullRun s m args below meth c H locs 0 0 Q (F0 m 0 ls []) := by
  unfold wpX10_pullRun_b0 at hh
  refine lv_iload_n C.1 C.2.1 dX10_pullRun_0 rfl (lv_at hl 1 rfl) ?_
  refine lv_if_lt (tgt := 11) C.1 C.2.1 dX10_pullRun_1 (by decide) (fun c1 => ?_) (fun c1 => ?_)
  · replace hh := hh.1 c1
    exact tX10_pullRun_b11 C hR hh hw (lv_sub hl [0] rfl)
  · replace hh := hh.2 c1
    refine lv_iload_n C.1 C.2.1 dX10_pullRun_4 rfl (lv_at hl 1 rfl) ?_
    refine lv_sipush (v := (5000 : Int32)) C.1 C.2.1 dX10_pullRun_5 (by decide) ?_
    refine lv_icmp_le (tgt := 13) C.1 C.2.1 dX10_pullRun_8 (by decide) (fun c8 => ?_) (fun c8 => ?_)
    · replace hh := hh.1 c8
      refine lv_iconst (v := (0 : Int32)) C.1 C.2.1 dX10_pullRun_13 (by decide) ?_
      refine lv_istore_n (lv' := [(2, .int (0 : Int32)), (0, .ref (h 0)), (1, .int x1)]) C.1 C.2.1 dX10_pullRun_14 rfl hl (by decide) rfl (fun ls hl => ?_)
      obtain ⟨n, hh⟩ := hh
      exact tX10_pullRun_b15 C hR n _ _ _ _ _ _ _ _ hh hw (lv_sub hl [1, 2, 0] rfl)
    · replace hh := hh.2 c8
      exact tX10_pullRun_b11 C hR hh hw (lv_sub hl [0] rfl)
def wpX10_pullRun (F : Nat → Nat → Int32) (L : Nat → Nat → Int64) (r : Nat → Nat → Nat) (x1 : Int32) (K : Int32 → cS → Prop) : Prop := wpX10_pullRun_b0 F L r x1 K
theorem ctX10_pullRun (l : Launch) (D : va_G) (h : Nat → Nat) (cI cL cF cM : ClassId) (F : Nat → Nat → Int32) (L : Nat → Nat → Int64) (r : Nat → Nat → Nat) (x1 : Int32) {K : Int32 → cS → Prop} (hh : wpX10_pullRun F L r x1 K) : Ci l yX10_pullRun wsX10_pullRun rmX10_pullRun [.ref (h 0), .int x1] D (cT cI cL cF cM) (cWu h cI cL cF cM) (F, L, r) K := by
  refine Ci_of (cc := cX10_pullRun) (maxL := 3) (by decide) rfl (Nat.le_of_ble_eq_true rfl) ?_
  intro p e s m below meth c A Q C hw hR ls hl
  exact tX10_pullRun_b0 C hR hh hw hl
theorem cdX10_pullRun : yX10_pullRun.cls = RX10 ∧ yX10_pullRun.cls ≠ "java/lang/invoke/MethodHandle" ∧ yX10_pullRun.cls ≠ "java/lang/invoke/VarHandle" ∧ (parseMethodDescriptor yX10_pullRun.desc).map (fun d => d.parameters.length) = some 1 := by decide +kernel
abbrev rmX10_relays : Room := { frames := 0, cells := 0, slots := 0, locals := 0 }
def wpX10_relays_b0 (F : Nat → Nat → Int32) (L : Nat → Nat → Int64) (r : Nat → Nat → Nat) (K : Int32 → cS → Prop) : Prop :=
  K (F 43 0) (F, L, r)
set_option maxHeartbeats 4000000 in
set_option maxRecDepth 100000 in
theorem tX10_relays_b0 {K : Int32 → cS → Prop} (C : CallFix p m c cX10_relays 1 s args wsX10_relays RX10) (hR : Rti .int p l e rmX10_relays s m args below meth c cX10_relays D A (cT cI cL cF cM) (cWu h cI cL cF cM) K Q) {F : Nat → Nat → Int32} {L : Nat → Nat → Int64} {r : Nat → Nat → Nat} (hh : wpX10_relays_b0 F L r K) {H : Heap} {locs : List Loc} {ls : Array Slot} (hw : Wd D A s (cT cI cL cF cM) (cW h cI cL cF cM F L r) H locs) (hl : lv_has ls 1 [(0, .ref (h 0))]) : W p l e rmX10_relays s m args below meth c H locs 0 0 Q (F0 m 0 ls []) := by
  unfold wpX10_relays_b0 at hh
  refine lv_aload_n C.1 C.2.1 dX10_relays_0 rfl (lv_at hl 0 rfl) ?_
  refine c_get C hw (inC inW10) (kd_lt kp0 (by decide)) (ce10 kp0) rfl 7 (by decide) (wc w_577) (v := .ref (h 43)) rfl dX10_relays_1 ?_
  refine c_get C hw (inC inW0) (kd_lt kp43 (by decide)) (ce0 kp43) rfl 0 (by decide) (wc w_440) (v := .int (F 43 0)) rfl dX10_relays_4 ?_
  exact hR _ _ _ (F, L, r) _ _ dX10_relays_7 rfl hh hw
def wpX10_relays (F : Nat → Nat → Int32) (L : Nat → Nat → Int64) (r : Nat → Nat → Nat) (K : Int32 → cS → Prop) : Prop := wpX10_relays_b0 F L r K
theorem ctX10_relays (l : Launch) (D : va_G) (h : Nat → Nat) (cI cL cF cM : ClassId) (F : Nat → Nat → Int32) (L : Nat → Nat → Int64) (r : Nat → Nat → Nat) {K : Int32 → cS → Prop} (hh : wpX10_relays F L r K) : Ci l yX10_relays wsX10_relays rmX10_relays [.ref (h 0)] D (cT cI cL cF cM) (cWu h cI cL cF cM) (F, L, r) K := by
  refine Ci_of (cc := cX10_relays) (maxL := 1) (by decide) rfl (Nat.le_of_ble_eq_true rfl) ?_
  intro p e s m below meth c A Q C hw hR ls hl
  exact tX10_relays_b0 C hR hh hw hl
theorem cdX10_relays : yX10_relays.cls = RX10 ∧ yX10_relays.cls ≠ "java/lang/invoke/MethodHandle" ∧ yX10_relays.cls ≠ "java/lang/invoke/VarHandle" ∧ (parseMethodDescriptor yX10_relays.desc).map (fun d => d.parameters.length) = some 0 := by decide +kernel
abbrev rmX0_firstRace : Room := { frames := 0, cells := 0, slots := 0, locals := 0 }
def wpX0_firstRace_b81 (B21 : (Nat → Nat → Int32) → (Nat → Nat → Int64) → (Nat → Nat → Nat) → Int32 → Int32 → Prop) (B34 : (Nat → Nat → Int32) → (Nat → Nat → Int64) → (Nat → Nat → Nat) → Int32 → Int32 → Int32 → Prop) (a0 : Nat) (a1 : Nat) (F : Nat → Nat → Int32) (L : Nat → Nat → Int64) (r : Nat → Nat → Nat) (x2 : Int32) (x3 : Int32) (x4 : Int32) (K : Int32 → cS → Prop) : Prop :=
  B34 F L r x2 x3 (x4 + (1 : Int32))
set_option maxHeartbeats 4000000 in
set_option maxRecDepth 100000 in
theorem tX0_firstRace_b81 {a0 : Nat} {a1 : Nat} {B21 : (Nat → Nat → Int32) → (Nat → Nat → Int64) → (Nat → Nat → Nat) → Int32 → Int32 → Prop} {B34 : (Nat → Nat → Int32) → (Nat → Nat → Int64) → (Nat → Nat → Nat) → Int32 → Int32 → Int32 → Prop} {K : Int32 → cS → Prop} (C : CallFix p m c cX0_firstRace 7 s args wsX0_firstRace RX0) (hR : Rti .int p l e rmX0_firstRace s m args below meth c cX0_firstRace D A (cT cI cL cF cM) (cWu h cI cL cF cM) K Q) (ha0 : kd a0 = 0) (ha1 : kd a1 = 4) (hB21 : ∀ (F : Nat → Nat → Int32) (L : Nat → Nat → Int64) (r : Nat → Nat → Nat) (x2 : Int32) (x3 : Int32) (H : Heap) (locs : List Loc) (ls : Array Slot), B21 F L r x2 x3 → Wd D A s (cT cI cL cF cM) (cW h cI cL cF cM F L r) H locs → lv_has ls 7 [(0, .ref (h a0)), (1, .ref (h a1)), (2, .int x2), (3, .int x3)] → W p l e rmX0_firstRace s m args below meth c H locs 0 0 Q (F0 m 21 ls [])) (hB34 : ∀ (F : Nat → Nat → Int32) (L : Nat → Nat → Int64) (r : Nat → Nat → Nat) (x2 : Int32) (x3 : Int32) (x4 : Int32) (H : Heap) (locs : List Loc) (ls : Array Slot), B34 F L r x2 x3 x4 → Wd D A s (cT cI cL cF cM) (cW h cI cL cF cM F L r) H locs → lv_has ls 7 [(0, .ref (h a0)), (1, .ref (h a1)), (2, .int x2), (3, .int x3), (4, .int x4)] → W p l e rmX0_firstRace s m args below meth c H locs 0 0 Q (F0 m 34 ls [])) {F : Nat → Nat → Int32} {L : Nat → Nat → Int64} {r : Nat → Nat → Nat} {x2 : Int32} {x3 : Int32} {x4 : Int32} (hh : wpX0_firstRace_b81 B21 B34 a0 a1 F L r x2 x3 x4 K) {H : Heap} {locs : List Loc} {ls : Array Slot} (hw : Wd D A s (cT cI cL cF cM) (cW h cI cL cF cM F L r) H locs) (hl : lv_has ls 7 [(0, .ref (h a0)), (1, .ref (h a1)), (2, .int x2), (3, .int x3), (4, .int x4)]) : W p l e rmX0_firstRace s m args below meth c H locs 0 0 Q (F0 m 81 ls []) := by
  unfold wpX0_firstRace_b81 at hh
  refine lv_iinc (v := x4 + (1 : Int32)) (lv' := [(4, .int (x4 + (1 : Int32))), (0, .ref (h a0)), (1, .ref (h a1)), (2, .int x2), (3, .int x3)]) C.1 C.2.1 dX0_firstRace_81 hl (k := 4) rfl rfl (by decide) rfl (fun ls hl => ?_)
  refine lv_goto (tgt := 34) C.1 C.2.1 dX0_firstRace_84 (by decide) ?_
  exact hB34 _ _ _ _ _ _ _ _ _ hh hw (lv_sub hl [1, 2, 3, 4, 0] rfl)
def wpX0_firstRace_b34_body (B21 : (Nat → Nat → Int32) → (Nat → Nat → Int64) → (Nat → Nat → Nat) → Int32 → Int32 → Prop) (B34 : (Nat → Nat → Int32) → (Nat → Nat → Int64) → (Nat → Nat → Nat) → Int32 → Int32 → Int32 → Prop) (a0 : Nat) (a1 : Nat) (F : Nat → Nat → Int32) (L : Nat → Nat → Int64) (r : Nat → Nat → Nat) (x2 : Int32) (x3 : Int32) (x4 : Int32) (K : Int32 → cS → Prop) : Prop :=
  (((F a1 0) ≤ x4) →
    B21 F L r x2 (x3 + (1 : Int32))) ∧
  (¬ ((F a1 0) ≤ x4) →
    (¬ ((x2 &&& ((jshl (1 : Int32) x3) ||| (jshl (1 : Int32) x4))) = ((jshl (1 : Int32) x3) ||| (jshl (1 : Int32) x4))) →
      wpX0_firstRace_b81 B21 B34 a0 a1 F L r x2 x3 x4 K) ∧
    (((x2 &&& ((jshl (1 : Int32) x3) ||| (jshl (1 : Int32) x4))) = ((jshl (1 : Int32) x3) ||| (jshl (1 : Int32) x4))) →
      False))
set_option maxHeartbeats 4000000 in
set_option maxRecDepth 100000 in
theorem tX0_firstRace_b34_body {a0 : Nat} {a1 : Nat} {B21 : (Nat → Nat → Int32) → (Nat → Nat → Int64) → (Nat → Nat → Nat) → Int32 → Int32 → Prop} {B34 : (Nat → Nat → Int32) → (Nat → Nat → Int64) → (Nat → Nat → Nat) → Int32 → Int32 → Int32 → Prop} {K : Int32 → cS → Prop} (C : CallFix p m c cX0_firstRace 7 s args wsX0_firstRace RX0) (hR : Rti .int p l e rmX0_firstRace s m args below meth c cX0_firstRace D A (cT cI cL cF cM) (cWu h cI cL cF cM) K Q) (ha0 : kd a0 = 0) (ha1 : kd a1 = 4) (hB21 : ∀ (F : Nat → Nat → Int32) (L : Nat → Nat → Int64) (r : Nat → Nat → Nat) (x2 : Int32) (x3 : Int32) (H : Heap) (locs : List Loc) (ls : Array Slot), B21 F L r x2 x3 → Wd D A s (cT cI cL cF cM) (cW h cI cL cF cM F L r) H locs → lv_has ls 7 [(0, .ref (h a0)), (1, .ref (h a1)), (2, .int x2), (3, .int x3)] → W p l e rmX0_firstRace s m args below meth c H locs 0 0 Q (F0 m 21 ls [])) (hB34 : ∀ (F : Nat → Nat → Int32) (L : Nat → Nat → Int64) (r : Nat → Nat → Nat) (x2 : Int32) (x3 : Int32) (x4 : Int32) (H : Heap) (locs : List Loc) (ls : Array Slot), B34 F L r x2 x3 x4 → Wd D A s (cT cI cL cF cM) (cW h cI cL cF cM F L r) H locs → lv_has ls 7 [(0, .ref (h a0)), (1, .ref (h a1)), (2, .int x2), (3, .int x3), (4, .int x4)] → W p l e rmX0_firstRace s m args below meth c H locs 0 0 Q (F0 m 34 ls [])) {F : Nat → Nat → Int32} {L : Nat → Nat → Int64} {r : Nat → Nat → Nat} {x2 : Int32} {x3 : Int32} {x4 : Int32} (hh : wpX0_firstRace_b34_body B21 B34 a0 a1 F L r x2 x3 x4 K) {H : Heap} {locs : List Loc} {ls : Array Slot} (hw : Wd D A s (cT cI cL cF cM) (cW h cI cL cF cM F L r) H locs) (hl : lv_has ls 7 [(0, .ref (h a0)), (1, .ref (h a1)), (2, .int x2), (3, .int x3), (4, .int x4)]) : W p l e rmX0_firstRace s m args below meth c H locs 0 0 Q (F0 m 34 ls []) := by
  unfold wpX0_firstRace_b34_body at hh
  refine lv_iload C.1 C.2.1 dX0_firstRace_34 (lv_at hl 4 rfl) ?_
  refine lv_aload_n C.1 C.2.1 dX0_firstRace_36 rfl (lv_at hl 1 rfl) ?_
  refine c_get C hw (inC inW4) (kd_lt ha1 (by decide)) (ce4 ha1) rfl 0 (by decide) (wc w_282) (v := .int (F a1 0)) rfl dX0_firstRace_37 ?_
  refine lv_icmp_ge (tgt := 87) C.1 C.2.1 dX0_firstRace_40 (by decide) (fun c40 => ?_) (fun c40 => ?_)
  · replace hh := hh.1 c40
    refine lv_iinc (v := x3 + (1 : Int32)) (lv' := [(3, .int (x3 + (1 : Int32))), (0, .ref (h a0)), (1, .ref (h a1)), (2, .int x2), (4, .int x4)]) C.1 C.2.1 dX0_firstRace_87 hl (k := 3) rfl rfl (by decide) rfl (fun ls hl => ?_)
    refine lv_goto (tgt := 21) C.1 C.2.1 dX0_firstRace_90 (by decide) ?_
    exact hB21 _ _ _ _ _ _ _ _ hh hw (lv_sub hl [1, 2, 3, 0] rfl)
  · replace hh := hh.2 c40
    refine lv_iconst (v := (1 : Int32)) C.1 C.2.1 dX0_firstRace_43 (by decide) ?_
    refine lv_iload_n C.1 C.2.1 dX0_firstRace_44 rfl (lv_at hl 3 rfl) ?_
    refine g_ishl C dX0_firstRace_45 ?_
    refine lv_iconst (v := (1 : Int32)) C.1 C.2.1 dX0_firstRace_46 (by decide) ?_
    refine lv_iload C.1 C.2.1 dX0_firstRace_47 (lv_at hl 4 rfl) ?_
    refine g_ishl C dX0_firstRace_49 ?_
    refine lv_ior C.1 C.2.1 dX0_firstRace_50 ?_
    refine lv_istore (lv' := [(5, .int ((jshl (1 : Int32) x3) ||| (jshl (1 : Int32) x4))), (0, .ref (h a0)), (1, .ref (h a1)), (2, .int x2), (3, .int x3), (4, .int x4)]) C.1 C.2.1 dX0_firstRace_51 hl (by decide) rfl (fun ls hl => ?_)
    refine lv_iload_n C.1 C.2.1 dX0_firstRace_53 rfl (lv_at hl 3 rfl) ?_
    refine lv_iload C.1 C.2.1 dX0_firstRace_54 (lv_at hl 0 rfl) ?_
    refine lv_iand C.1 C.2.1 dX0_firstRace_56 ?_
    refine lv_iload C.1 C.2.1 dX0_firstRace_57 (lv_at hl 0 rfl) ?_
    refine lv_icmp_ne (tgt := 81) C.1 C.2.1 dX0_firstRace_59 (by decide) (fun c59 => ?_) (fun c59 => ?_)
    · replace hh := hh.1 c59
      exact tX0_firstRace_b81 C hR ha0 ha1 hB21 hB34 hh hw (lv_sub hl [1, 2, 3, 4, 5] rfl)
    · replace hh := hh.2 c59
      refine lv_aload_n C.1 C.2.1 dX0_firstRace_62 rfl (lv_at hl 1 rfl) ?_
      refine lv_aload_n C.1 C.2.1 dX0_firstRace_63 rfl (lv_at hl 2 rfl) ?_
      refine lv_iload_n C.1 C.2.1 dX0_firstRace_64 rfl (lv_at hl 4 rfl) ?_
      refine lv_iload C.1 C.2.1 dX0_firstRace_65 (lv_at hl 5 rfl) ?_
      exact hh.elim
def wpX0_firstRace_b34 (B21 : (Nat → Nat → Int32) → (Nat → Nat → Int64) → (Nat → Nat → Nat) → Int32 → Int32 → Prop) (a0 : Nat) (a1 : Nat) (n_ : Nat) (F : Nat → Nat → Int32) (L : Nat → Nat → Int64) (r : Nat → Nat → Nat) (x2 : Int32) (x3 : Int32) (x4 : Int32) (K : Int32 → cS → Prop) : Prop := match n_ with
  | 0 => False
  | n + 1 => wpX0_firstRace_b34_body B21 (fun F L r x2 x3 x4 => wpX0_firstRace_b34 B21 a0 a1 n F L r x2 x3 x4 K) a0 a1 F L r x2 x3 x4 K
theorem tX0_firstRace_b34 {a0 : Nat} {a1 : Nat} {B21 : (Nat → Nat → Int32) → (Nat → Nat → Int64) → (Nat → Nat → Nat) → Int32 → Int32 → Prop} {K : Int32 → cS → Prop} (C : CallFix p m c cX0_firstRace 7 s args wsX0_firstRace RX0) (hR : Rti .int p l e rmX0_firstRace s m args below meth c cX0_firstRace D A (cT cI cL cF cM) (cWu h cI cL cF cM) K Q) (ha0 : kd a0 = 0) (ha1 : kd a1 = 4) (hB21 : ∀ (F : Nat → Nat → Int32) (L : Nat → Nat → Int64) (r : Nat → Nat → Nat) (x2 : Int32) (x3 : Int32) (H : Heap) (locs : List Loc) (ls : Array Slot), B21 F L r x2 x3 → Wd D A s (cT cI cL cF cM) (cW h cI cL cF cM F L r) H locs → lv_has ls 7 [(0, .ref (h a0)), (1, .ref (h a1)), (2, .int x2), (3, .int x3)] → W p l e rmX0_firstRace s m args below meth c H locs 0 0 Q (F0 m 21 ls [])) (n : Nat) : ∀ (F : Nat → Nat → Int32) (L : Nat → Nat → Int64) (r : Nat → Nat → Nat) (x2 : Int32) (x3 : Int32) (x4 : Int32) (H : Heap) (locs : List Loc) (ls : Array Slot), wpX0_firstRace_b34 B21 a0 a1 n F L r x2 x3 x4 K → Wd D A s (cT cI cL cF cM) (cW h cI cL cF cM F L r) H locs → lv_has ls 7 [(0, .ref (h a0)), (1, .ref (h a1)), (2, .int x2), (3, .int x3), (4, .int x4)] → W p l e rmX0_firstRace s m args below meth c H locs 0 0 Q (F0 m 34 ls []) := by
  induction n with
  | zero => intro F L r x2 x3 x4 H locs ls hh; exact hh.elim
  | succ n ih => intro F L r x2 x3 x4 H locs ls hh hw hl; exact tX0_firstRace_b34_body C hR ha0 ha1 hB21 ih hh hw hl
def wpX0_firstRace_b21_body (B21 : (Nat → Nat → Int32) → (Nat → Nat → Int64) → (Nat → Nat → Nat) → Int32 → Int32 → Prop) (a0 : Nat) (a1 : Nat) (F : Nat → Nat → Int32) (L : Nat → Nat → Int64) (r : Nat → Nat → Nat) (x2 : Int32) (x3 : Int32) (K : Int32 → cS → Prop) : Prop :=
  (((F a1 0) ≤ x3) →
    K (-1 : Int32) (F, L, r)) ∧
  (¬ ((F a1 0) ≤ x3) →
    ∃ n, wpX0_firstRace_b34 B21 a0 a1 n F L r x2 x3 (x3 + (1 : Int32)) K)
set_option maxHeartbeats 4000000 in
set_option maxRecDepth 100000 in
theorem tX0_firstRace_b21_body {a0 : Nat} {a1 : Nat} {B21 : (Nat → Nat → Int32) → (Nat → Nat → Int64) → (Nat → Nat → Nat) → Int32 → Int32 → Prop} {K : Int32 → cS → Prop} (C : CallFix p m c cX0_firstRace 7 s args wsX0_firstRace RX0) (hR : Rti .int p l e rmX0_firstRace s m args below meth c cX0_firstRace D A (cT cI cL cF cM) (cWu h cI cL cF cM) K Q) (ha0 : kd a0 = 0) (ha1 : kd a1 = 4) (hB21 : ∀ (F : Nat → Nat → Int32) (L : Nat → Nat → Int64) (r : Nat → Nat → Nat) (x2 : Int32) (x3 : Int32) (H : Heap) (locs : List Loc) (ls : Array Slot), B21 F L r x2 x3 → Wd D A s (cT cI cL cF cM) (cW h cI cL cF cM F L r) H locs → lv_has ls 7 [(0, .ref (h a0)), (1, .ref (h a1)), (2, .int x2), (3, .int x3)] → W p l e rmX0_firstRace s m args below meth c H locs 0 0 Q (F0 m 21 ls [])) {F : Nat → Nat → Int32} {L : Nat → Nat → Int64} {r : Nat → Nat → Nat} {x2 : Int32} {x3 : Int32} (hh : wpX0_firstRace_b21_body B21 a0 a1 F L r x2 x3 K) {H : Heap} {locs : List Loc} {ls : Array Slot} (hw : Wd D A s (cT cI cL cF cM) (cW h cI cL cF cM F L r) H locs) (hl : lv_has ls 7 [(0, .ref (h a0)), (1, .ref (h a1)), (2, .int x2), (3, .int x3)]) : W p l e rmX0_firstRace s m args below meth c H locs 0 0 Q (F0 m 21 ls []) := by
  unfold wpX0_firstRace_b21_body at hh
  refine lv_iload_n C.1 C.2.1 dX0_firstRace_21 rfl (lv_at hl 3 rfl) ?_
  refine lv_aload_n C.1 C.2.1 dX0_firstRace_22 rfl (lv_at hl 1 rfl) ?_
  refine c_get C hw (inC inW4) (kd_lt ha1 (by decide)) (ce4 ha1) rfl 0 (by decide) (wc w_282) (v := .int (F a1 0)) rfl dX0_firstRace_23 ?_
  refine lv_icmp_ge (tgt := 93) C.1 C.2.1 dX0_firstRace_26 (by decide) (fun c26 => ?_) (fun c26 => ?_)
  · replace hh := hh.1 c26
    refine lv_iconst (v := (-1 : Int32)) C.1 C.2.1 dX0_firstRace_93 (by decide) ?_
    exact hR _ _ _ (F, L, r) _ _ dX0_firstRace_94 rfl hh hw
  · replace hh := hh.2 c26
    refine lv_iload_n C.1 C.2.1 dX0_firstRace_29 rfl (lv_at hl 3 rfl) ?_
    refine lv_iconst (v := (1 : Int32)) C.1 C.2.1 dX0_firstRace_30 (by decide) ?_
    refine lv_iadd C.1 C.2.1 dX0_firstRace_31 ?_
    refine lv_istore (lv' := [(4, .int (x3 + (1 : Int32))), (0, .ref (h a0)), (1, .ref (h a1)), (2, .int x2), (3, .int x3)]) C.1 C.2.1 dX0_firstRace_32 hl (by decide) rfl (fun ls hl => ?_)
    obtain ⟨n, hh⟩ := hh
    exact tX0_firstRace_b34 C hR ha0 ha1 hB21 n _ _ _ _ _ _ _ _ _ hh hw (lv_sub hl [1, 2, 3, 4, 0] rfl)
def wpX0_firstRace_b21 (a0 : Nat) (a1 : Nat) (n_ : Nat) (F : Nat → Nat → Int32) (L : Nat → Nat → Int64) (r : Nat → Nat → Nat) (x2 : Int32) (x3 : Int32) (K : Int32 → cS → Prop) : Prop := match n_ with
  | 0 => False
  | n + 1 => wpX0_firstRace_b21_body (fun F L r x2 x3 => wpX0_firstRace_b21 a0 a1 n F L r x2 x3 K) a0 a1 F L r x2 x3 K
theorem tX0_firstRace_b21 {a0 : Nat} {a1 : Nat} {K : Int32 → cS → Prop} (C : CallFix p m c cX0_firstRace 7 s args wsX0_firstRace RX0) (hR : Rti .int p l e rmX0_firstRace s m args below meth c cX0_firstRace D A (cT cI cL cF cM) (cWu h cI cL cF cM) K Q) (ha0 : kd a0 = 0) (ha1 : kd a1 = 4) (n : Nat) : ∀ (F : Nat → Nat → Int32) (L : Nat → Nat → Int64) (r : Nat → Nat → Nat) (x2 : Int32) (x3 : Int32) (H : Heap) (locs : List Loc) (ls : Array Slot), wpX0_firstRace_b21 a0 a1 n F L r x2 x3 K → Wd D A s (cT cI cL cF cM) (cW h cI cL cF cM F L r) H locs → lv_has ls 7 [(0, .ref (h a0)), (1, .ref (h a1)), (2, .int x2), (3, .int x3)] → W p l e rmX0_firstRace s m args below meth c H locs 0 0 Q (F0 m 21 ls []) := by
  induction n with
  | zero => intro F L r x2 x3 H locs ls hh; exact hh.elim
  | succ n ih => intro F L r x2 x3 H locs ls hh hw hl; exact tX0_firstRace_b21_body C hR ha0 ha1 ih hh hw hl
def wpX0_firstRace_b0 (a0 : Nat) (a1 : Nat) (F : Nat → Nat → Int32) (L : Nat → Nat → Int64) (r : Nat → Nat → Nat) (K : Int32 → cS → Prop) : Prop :=
  (¬ ((F a0 3) = 0) →
    ∃ n, wpX0_firstRace_b21 a0 a1 n F L r ((F a0 4) ^^^ (F a0 5)) (0 : Int32) K) ∧
  (((F a0 3) = 0) →
    K (-1 : Int32) (F, L, r))
set_option maxHeartbeats 4000000 in
set_option maxRecDepth 100000 in
theorem tX0_firstRace_b0 {a0 : Nat} {a1 : Nat} {K : Int32 → cS → Prop} (C : CallFix p m c cX0_firstRace 7 s args wsX0_firstRace RX0) (hR : Rti .int p l e rmX0_firstRace s m args below meth c cX0_firstRace D A (cT cI cL cF cM) (cWu h cI cL cF cM) K Q) (ha0 : kd a0 = 0) (ha1 : kd a1 = 4) {F : Nat → Nat → Int32} {L : Nat → Nat → Int64} {r : Nat → Nat → Nat} (hh : wpX0_firstRace_b0 a0 a1 F L r K) {H : Heap} {locs : List Loc} {ls : Array Slot} (hw : Wd D A s (cT cI cL cF cM) (cW h cI cL cF cM F L r) H locs) (hl : lv_has ls 7 [(0, .ref (h a0)), (1, .ref (h a1))]) : W p l e rmX0_firstRace s m args below meth c H locs 0 0 Q (F0 m 0 ls []) := by
  unfold wpX0_firstRace_b0 at hh
  refine lv_aload_n C.1 C.2.1 dX0_firstRace_0 rfl (lv_at hl 0 rfl) ?_
  refine c_get C hw (inC inW0) (kd_lt ha0 (by decide)) (ce0 ha0) rfl 3 (by decide) (wc w_444) (v := .int (F a0 3)) rfl dX0_firstRace_1 ?_
  refine lv_if_ne (tgt := 9) C.1 C.2.1 dX0_firstRace_4 (by decide) (fun c4 => ?_) (fun c4 => ?_)
  · replace hh := hh.1 c4
    refine lv_aload_n C.1 C.2.1 dX0_firstRace_9 rfl (lv_at hl 0 rfl) ?_
    refine c_get C hw (inC inW0) (kd_lt ha0 (by decide)) (ce0 ha0) rfl 4 (by decide) (wc w_445) (v := .int (F a0 4)) rfl dX0_firstRace_10 ?_
    refine lv_aload_n C.1 C.2.1 dX0_firstRace_13 rfl (lv_at hl 0 rfl) ?_
    refine c_get C hw (inC inW0) (kd_lt ha0 (by decide)) (ce0 ha0) rfl 5 (by decide) (wc w_446) (v := .int (F a0 5)) rfl dX0_firstRace_14 ?_
    refine lv_ixor C.1 C.2.1 dX0_firstRace_17 ?_
    refine lv_istore_n (lv' := [(2, .int ((F a0 4) ^^^ (F a0 5))), (0, .ref (h a0)), (1, .ref (h a1))]) C.1 C.2.1 dX0_firstRace_18 rfl hl (by decide) rfl (fun ls hl => ?_)
    refine lv_iconst (v := (0 : Int32)) C.1 C.2.1 dX0_firstRace_19 (by decide) ?_
    refine lv_istore_n (lv' := [(3, .int (0 : Int32)), (2, .int ((F a0 4) ^^^ (F a0 5))), (0, .ref (h a0)), (1, .ref (h a1))]) C.1 C.2.1 dX0_firstRace_20 rfl hl (by decide) rfl (fun ls hl => ?_)
    obtain ⟨n, hh⟩ := hh
    exact tX0_firstRace_b21 C hR ha0 ha1 n _ _ _ _ _ _ _ _ hh hw (lv_sub hl [2, 3, 1, 0] rfl)
  · replace hh := hh.2 c4
    refine lv_iconst (v := (-1 : Int32)) C.1 C.2.1 dX0_firstRace_7 (by decide) ?_
    exact hR _ _ _ (F, L, r) _ _ dX0_firstRace_8 rfl hh hw
def wpX0_firstRace (a0 : Nat) (a1 : Nat) (F : Nat → Nat → Int32) (L : Nat → Nat → Int64) (r : Nat → Nat → Nat) (K : Int32 → cS → Prop) : Prop := wpX0_firstRace_b0 a0 a1 F L r K
theorem ctX0_firstRace (l : Launch) (D : va_G) (h : Nat → Nat) (cI cL cF cM : ClassId) (a0 : Nat) (a1 : Nat) (ha0 : kd a0 = 0) (ha1 : kd a1 = 4) (F : Nat → Nat → Int32) (L : Nat → Nat → Int64) (r : Nat → Nat → Nat) {K : Int32 → cS → Prop} (hh : wpX0_firstRace a0 a1 F L r K) : Ci l yX0_firstRace wsX0_firstRace rmX0_firstRace [.ref (h a0), .ref (h a1)] D (cT cI cL cF cM) (cWu h cI cL cF cM) (F, L, r) K := by
  refine Ci_of (cc := cX0_firstRace) (maxL := 7) (by decide) rfl (Nat.le_of_ble_eq_true rfl) ?_
  intro p e s m below meth c A Q C hw hR ls hl
  exact tX0_firstRace_b0 C hR ha0 ha1 hh hw hl
theorem cdX0_firstRace : yX0_firstRace.cls = RX0 ∧ yX0_firstRace.cls ≠ "java/lang/invoke/MethodHandle" ∧ yX0_firstRace.cls ≠ "java/lang/invoke/VarHandle" ∧ (parseMethodDescriptor yX0_firstRace.desc).map (fun d => d.parameters.length) = some 1 := by decide +kernel
abbrev rmX10_race : Room := { frames := 1, cells := 0, slots := 0, locals := 26 }
def wpX10_race_b0 (F : Nat → Nat → Int32) (L : Nat → Nat → Int64) (r : Nat → Nat → Nat) (K : Int32 → cS → Prop) : Prop :=
  kd (r 0 4) = 4 ∧ wpX0_firstRace 43 (r 0 4) F L r (fun r8 u8 =>
    K r8 (u8.1, u8.2.1, u8.2.2))
set_option maxHeartbeats 4000000 in
set_option maxRecDepth 100000 in
theorem tX10_race_b0 {K : Int32 → cS → Prop} (C : CallFix p m c cX10_race 1 s args wsX10_race RX10) (hR : Rti .int p l e rmX10_race s m args below meth c cX10_race D A (cT cI cL cF cM) (cWu h cI cL cF cM) K Q) {F : Nat → Nat → Int32} {L : Nat → Nat → Int64} {r : Nat → Nat → Nat} (hh : wpX10_race_b0 F L r K) {H : Heap} {locs : List Loc} {ls : Array Slot} (hw : Wd D A s (cT cI cL cF cM) (cW h cI cL cF cM F L r) H locs) (hl : lv_has ls 1 [(0, .ref (h 0))]) : W p l e rmX10_race s m args below meth c H locs 0 0 Q (F0 m 0 ls []) := by
  unfold wpX10_race_b0 at hh
  refine lv_aload_n C.1 C.2.1 dX10_race_0 rfl (lv_at hl 0 rfl) ?_
  refine c_get C hw (inC inW10) (kd_lt kp0 (by decide)) (ce10 kp0) rfl 7 (by decide) (wc w_577) (v := .ref (h 43)) rfl dX10_race_1 ?_
  refine lv_aload_n C.1 C.2.1 dX10_race_4 rfl (lv_at hl 0 rfl) ?_
  refine c_get C hw (inC inW10) (kd_lt kp0 (by decide)) (ce10 kp0) rfl 4 (by decide) (wc w_574) (v := .ref (h (r 0 4))) rfl dX10_race_5 ?_
  obtain ⟨hk0, hh⟩ := hh
  refine c_Vi C hw (ctX0_firstRace l D h cI cL cF cM 43 (r 0 4) kp43 hk0 F L r hh) (cwV 1 C.2.2.2.2 (gd_V w_1202 w_1203 w_1204 w_122 w_1205) rfl rfl rfl cdX0_firstRace ⟨Nat.le_of_ble_eq_true rfl, Nat.le_of_ble_eq_true rfl⟩) rfl (kd_lt kp43 (by decide)) (ce0 kp43) rfl hl.1 (Nat.le_of_ble_eq_true rfl) dX10_race_8 ⟨Nat.zero_le _, Nat.zero_le _⟩ (fun r8 u8 H locs hh hw => ?_) rfl
  exact hR _ _ _ (u8.1, u8.2.1, u8.2.2) _ _ dX10_race_11 rfl hh hw
def wpX10_race (F : Nat → Nat → Int32) (L : Nat → Nat → Int64) (r : Nat → Nat → Nat) (K : Int32 → cS → Prop) : Prop := wpX10_race_b0 F L r K
theorem ctX10_race (l : Launch) (D : va_G) (h : Nat → Nat) (cI cL cF cM : ClassId) (F : Nat → Nat → Int32) (L : Nat → Nat → Int64) (r : Nat → Nat → Nat) {K : Int32 → cS → Prop} (hh : wpX10_race F L r K) : Ci l yX10_race wsX10_race rmX10_race [.ref (h 0)] D (cT cI cL cF cM) (cWu h cI cL cF cM) (F, L, r) K := by
  refine Ci_of (cc := cX10_race) (maxL := 1) (by decide) rfl (Nat.le_of_ble_eq_true rfl) ?_
  intro p e s m below meth c A Q C hw hR ls hl
  exact tX10_race_b0 C hR hh hw hl
theorem cdX10_race : yX10_race.cls = RX10 ∧ yX10_race.cls ≠ "java/lang/invoke/MethodHandle" ∧ yX10_race.cls ≠ "java/lang/invoke/VarHandle" ∧ (parseMethodDescriptor yX10_race.desc).map (fun d => d.parameters.length) = some 0 := by decide +kernel
abbrev rmX10_stick : Room := { frames := 0, cells := 0, slots := 0, locals := 0 }
def wpX10_stick_b24 (F : Nat → Nat → Int32) (L : Nat → Nat → Int64) (r : Nat → Nat → Nat) (K : Int32 → cS → Prop) : Prop :=
  K (0 : Int32) (F, L, r)
set_option maxHeartbeats 4000000 in
set_option maxRecDepth 100000 in
theorem tX10_stick_b24 {K : Int32 → cS → Prop} (C : CallFix p m c cX10_stick 3 s args wsX10_stick RX10) (hR : Rti .boolean p l e rmX10_stick s m args below meth c cX10_stick D A (cT cI cL cF cM) (cWu h cI cL cF cM) K Q) {F : Nat → Nat → Int32} {L : Nat → Nat → Int64} {r : Nat → Nat → Nat} (hh : wpX10_stick_b24 F L r K) {H : Heap} {locs : List Loc} {ls : Array Slot} (hw : Wd D A s (cT cI cL cF cM) (cW h cI cL cF cM F L r) H locs) (hl : lv_has ls 3 [(0, .ref (h 0))]) : W p l e rmX10_stick s m args below meth c H locs 0 0 Q (F0 m 24 ls []) := by
  unfold wpX10_stick_b24 at hh
  refine lv_iconst (v := (0 : Int32)) C.1 C.2.1 dX10_stick_24 (by decide) ?_
  exact hR _ _ _ (F, L, r) _ _ dX10_stick_25 rfl hh hw
def wpX10_stick_b57 (F : Nat → Nat → Int32) (L : Nat → Nat → Int64) (r : Nat → Nat → Nat) (k1 : Int32) (k2 : Int32) (K : Int32 → cS → Prop) : Prop :=
  False
set_option maxHeartbeats 4000000 in
set_option maxRecDepth 100000 in
theorem tX10_stick_b57 {K : Int32 → cS → Prop} (C : CallFix p m c cX10_stick 3 s args wsX10_stick RX10) (hR : Rti .boolean p l e rmX10_stick s m args below meth c cX10_stick D A (cT cI cL cF cM) (cWu h cI cL cF cM) K Q) {F : Nat → Nat → Int32} {L : Nat → Nat → Int64} {r : Nat → Nat → Nat} {k1 : Int32} {k2 : Int32} (hh : wpX10_stick_b57 F L r k1 k2 K) {H : Heap} {locs : List Loc} {ls : Array Slot} (hw : Wd D A s (cT cI cL cF cM) (cW h cI cL cF cM F L r) H locs) (hl : lv_has ls 3 [(0, .ref (h 0))]) : W p l e rmX10_stick s m args below meth c H locs 0 0 Q (F0 m 57 ls [.int k2, .int k1, .ref (h 43)]) := by
  unfold wpX10_stick_b57 at hh
  exact hh.elim
def wpX10_stick_b0 (F : Nat → Nat → Int32) (L : Nat → Nat → Int64) (r : Nat → Nat → Nat) (x1 : Int32) (x2 : Int32) (K : Int32 → cS → Prop) : Prop :=
  ((x1 < 0) →
    wpX10_stick_b24 F L r K) ∧
  (¬ (x1 < 0) →
    kd (r 0 4) = 4 ∧ (((F (r 0 4) 0) ≤ x1) →
      wpX10_stick_b24 F L r K) ∧
    (¬ ((F (r 0 4) 0) ≤ x1) →
      ((x2 < 0) →
        wpX10_stick_b24 F L r K) ∧
      (¬ (x2 < 0) →
        ((x2 ≤ (2 : Int32)) →
          (¬ (x2 = (2 : Int32)) →
            (¬ (x2 = (1 : Int32)) →
              wpX10_stick_b57 F L r x1 (0 : Int32) K) ∧
            ((x2 = (1 : Int32)) →
              wpX10_stick_b57 F L r x1 (1 : Int32) K)) ∧
          ((x2 = (2 : Int32)) →
            False)) ∧
        (¬ (x2 ≤ (2 : Int32)) →
          wpX10_stick_b24 F L r K))))
set_option maxHeartbeats 4000000 in
set_option maxRecDepth 100000 in
theorem tX10_stick_b0 {K : Int32 → cS → Prop} (C : CallFix p m c cX10_stick 3 s args wsX10_stick RX10) (hR : Rti .boolean p l e rmX10_stick s m args below meth c cX10_stick D A (cT cI cL cF cM) (cWu h cI cL cF cM) K Q) {F : Nat → Nat → Int32} {L : Nat → Nat → Int64} {r : Nat → Nat → Nat} {x1 : Int32} {x2 : Int32} (hh : wpX10_stick_b0 F L r x1 x2 K) {H : Heap} {locs : List Loc} {ls : Array Slot} (hw : Wd D A s (cT cI cL cF cM) (cW h cI cL cF cM F L r) H locs) (hl : lv_has ls 3 [(0, .ref (h 0)), (1, .int x1), (2, .int x2)]) : W p l e rmX10_stick s m args below meth c H locs 0 0 Q (F0 m 0 ls []) := by
  unfold wpX10_stick_b0 at hh
  refine lv_iload_n C.1 C.2.1 dX10_stick_0 rfl (lv_at hl 1 rfl) ?_
  refine lv_if_lt (tgt := 24) C.1 C.2.1 dX10_stick_1 (by decide) (fun c1 => ?_) (fun c1 => ?_)
  · replace hh := hh.1 c1
    exact tX10_stick_b24 C hR hh hw (lv_sub hl [0] rfl)
  · replace hh := hh.2 c1
    refine lv_iload_n C.1 C.2.1 dX10_stick_4 rfl (lv_at hl 1 rfl) ?_
    refine lv_aload_n C.1 C.2.1 dX10_stick_5 rfl (lv_at hl 0 rfl) ?_
    refine c_get C hw (inC inW10) (kd_lt kp0 (by decide)) (ce10 kp0) rfl 4 (by decide) (wc w_574) (v := .ref (h (r 0 4))) rfl dX10_stick_6 ?_
    obtain ⟨hk0, hh⟩ := hh
    refine c_get C hw (inC inW4) (kd_lt hk0 (by decide)) (ce4 hk0) rfl 0 (by decide) (wc w_279) (v := .int (F (r 0 4) 0)) rfl dX10_stick_9 ?_
    refine lv_icmp_ge (tgt := 24) C.1 C.2.1 dX10_stick_12 (by decide) (fun c12 => ?_) (fun c12 => ?_)
    · replace hh := hh.1 c12
      exact tX10_stick_b24 C hR hh hw (lv_sub hl [0] rfl)
    · replace hh := hh.2 c12
      refine lv_iload_n C.1 C.2.1 dX10_stick_15 rfl (lv_at hl 2 rfl) ?_
      refine lv_if_lt (tgt := 24) C.1 C.2.1 dX10_stick_16 (by decide) (fun c16 => ?_) (fun c16 => ?_)
      · replace hh := hh.1 c16
        exact tX10_stick_b24 C hR hh hw (lv_sub hl [0] rfl)
      · replace hh := hh.2 c16
        refine lv_iload_n C.1 C.2.1 dX10_stick_19 rfl (lv_at hl 2 rfl) ?_
        refine lv_iconst (v := (2 : Int32)) C.1 C.2.1 dX10_stick_20 (by decide) ?_
        refine lv_icmp_le (tgt := 26) C.1 C.2.1 dX10_stick_21 (by decide) (fun c21 => ?_) (fun c21 => ?_)
        · replace hh := hh.1 c21
          refine lv_iload_n C.1 C.2.1 dX10_stick_26 rfl (lv_at hl 2 rfl) ?_
          refine lv_iconst (v := (2 : Int32)) C.1 C.2.1 dX10_stick_27 (by decide) ?_
          refine lv_icmp_ne (tgt := 42) C.1 C.2.1 dX10_stick_28 (by decide) (fun c28 => ?_) (fun c28 => ?_)
          · replace hh := hh.1 c28
            refine lv_aload_n C.1 C.2.1 dX10_stick_42 rfl (lv_at hl 0 rfl) ?_
            refine c_get C hw (inC inW10) (kd_lt kp0 (by decide)) (ce10 kp0) rfl 7 (by decide) (wc w_577) (v := .ref (h 43)) rfl dX10_stick_43 ?_
            refine lv_iload_n C.1 C.2.1 dX10_stick_46 rfl (lv_at hl 1 rfl) ?_
            refine lv_iload_n C.1 C.2.1 dX10_stick_47 rfl (lv_at hl 2 rfl) ?_
            refine lv_iconst (v := (1 : Int32)) C.1 C.2.1 dX10_stick_48 (by decide) ?_
            refine lv_icmp_ne (tgt := 56) C.1 C.2.1 dX10_stick_49 (by decide) (fun c49 => ?_) (fun c49 => ?_)
            · replace hh := hh.1 c49
              refine lv_iconst (v := (0 : Int32)) C.1 C.2.1 dX10_stick_56 (by decide) ?_
              exact tX10_stick_b57 C hR hh hw (lv_sub hl [0] rfl)
            · replace hh := hh.2 c49
              refine lv_iconst (v := (1 : Int32)) C.1 C.2.1 dX10_stick_52 (by decide) ?_
              refine lv_goto (tgt := 57) C.1 C.2.1 dX10_stick_53 (by decide) ?_
              exact tX10_stick_b57 C hR hh hw (lv_sub hl [0] rfl)
          · replace hh := hh.2 c28
            refine lv_aload_n C.1 C.2.1 dX10_stick_31 rfl (lv_at hl 0 rfl) ?_
            refine c_get C hw (inC inW10) (kd_lt kp0 (by decide)) (ce10 kp0) rfl 7 (by decide) (wc w_577) (v := .ref (h 43)) rfl dX10_stick_32 ?_
            refine lv_iload_n C.1 C.2.1 dX10_stick_35 rfl (lv_at hl 1 rfl) ?_
            exact hh.elim
        · replace hh := hh.2 c21
          exact tX10_stick_b24 C hR hh hw (lv_sub hl [0] rfl)
def wpX10_stick (F : Nat → Nat → Int32) (L : Nat → Nat → Int64) (r : Nat → Nat → Nat) (x1 : Int32) (x2 : Int32) (K : Int32 → cS → Prop) : Prop := wpX10_stick_b0 F L r x1 x2 K
theorem ctX10_stick (l : Launch) (D : va_G) (h : Nat → Nat) (cI cL cF cM : ClassId) (F : Nat → Nat → Int32) (L : Nat → Nat → Int64) (r : Nat → Nat → Nat) (x1 : Int32) (x2 : Int32) {K : Int32 → cS → Prop} (hh : wpX10_stick F L r x1 x2 K) : Ci l yX10_stick wsX10_stick rmX10_stick [.ref (h 0), .int x1, .int x2] D (cT cI cL cF cM) (cWu h cI cL cF cM) (F, L, r) K := by
  refine Ci_of (cc := cX10_stick) (maxL := 3) (by decide) rfl (Nat.le_of_ble_eq_true rfl) ?_
  intro p e s m below meth c A Q C hw hR ls hl
  exact tX10_stick_b0 C hR hh hw hl
theorem cdX10_stick : yX10_stick.cls = RX10 ∧ yX10_stick.cls ≠ "java/lang/invoke/MethodHandle" ∧ yX10_stick.cls ≠ "java/lang/invoke/VarHandle" ∧ (parseMethodDescriptor yX10_stick.desc).map (fun d => d.parameters.length) = some 2 := by decide +kernel
abbrev rmX10_stuck : Room := { frames := 0, cells := 0, slots := 0, locals := 0 }
def wpX10_stuck_b0 (F : Nat → Nat → Int32) (L : Nat → Nat → Int64) (r : Nat → Nat → Nat) (K : Int32 → cS → Prop) : Prop :=
  K (F 43 1) (F, L, r)
set_option maxHeartbeats 4000000 in
set_option maxRecDepth 100000 in
theorem tX10_stuck_b0 {K : Int32 → cS → Prop} (C : CallFix p m c cX10_stuck 1 s args wsX10_stuck RX10) (hR : Rti .int p l e rmX10_stuck s m args below meth c cX10_stuck D A (cT cI cL cF cM) (cWu h cI cL cF cM) K Q) {F : Nat → Nat → Int32} {L : Nat → Nat → Int64} {r : Nat → Nat → Nat} (hh : wpX10_stuck_b0 F L r K) {H : Heap} {locs : List Loc} {ls : Array Slot} (hw : Wd D A s (cT cI cL cF cM) (cW h cI cL cF cM F L r) H locs) (hl : lv_has ls 1 [(0, .ref (h 0))]) : W p l e rmX10_stuck s m args below meth c H locs 0 0 Q (F0 m 0 ls []) := by
  unfold wpX10_stuck_b0 at hh
  refine lv_aload_n C.1 C.2.1 dX10_stuck_0 rfl (lv_at hl 0 rfl) ?_
  refine c_get C hw (inC inW10) (kd_lt kp0 (by decide)) (ce10 kp0) rfl 7 (by decide) (wc w_577) (v := .ref (h 43)) rfl dX10_stuck_1 ?_
  refine c_get C hw (inC inW0) (kd_lt kp43 (by decide)) (ce0 kp43) rfl 1 (by decide) (wc w_442) (v := .int (F 43 1)) rfl dX10_stuck_4 ?_
  exact hR _ _ _ (F, L, r) _ _ dX10_stuck_7 rfl hh hw
def wpX10_stuck (F : Nat → Nat → Int32) (L : Nat → Nat → Int64) (r : Nat → Nat → Nat) (K : Int32 → cS → Prop) : Prop := wpX10_stuck_b0 F L r K
theorem ctX10_stuck (l : Launch) (D : va_G) (h : Nat → Nat) (cI cL cF cM : ClassId) (F : Nat → Nat → Int32) (L : Nat → Nat → Int64) (r : Nat → Nat → Nat) {K : Int32 → cS → Prop} (hh : wpX10_stuck F L r K) : Ci l yX10_stuck wsX10_stuck rmX10_stuck [.ref (h 0)] D (cT cI cL cF cM) (cWu h cI cL cF cM) (F, L, r) K := by
  refine Ci_of (cc := cX10_stuck) (maxL := 1) (by decide) rfl (Nat.le_of_ble_eq_true rfl) ?_
  intro p e s m below meth c A Q C hw hR ls hl
  exact tX10_stuck_b0 C hR hh hw hl
theorem cdX10_stuck : yX10_stuck.cls = RX10 ∧ yX10_stuck.cls ≠ "java/lang/invoke/MethodHandle" ∧ yX10_stuck.cls ≠ "java/lang/invoke/VarHandle" ∧ (parseMethodDescriptor yX10_stuck.desc).map (fun d => d.parameters.length) = some 0 := by decide +kernel
abbrev rmX2_isLength : Room := { frames := 0, cells := 0, slots := 0, locals := 0 }
def wpX2_isLength_b17 (k0 : Int32) (K : Int32 → Unit → Prop) : Prop :=
  isB k0 ∧ K k0 ()
set_option maxHeartbeats 4000000 in
set_option maxRecDepth 100000 in
theorem tX2_isLength_b17 {K : Int32 → Unit → Prop} (C : CallFix p m c cX2_isLength 1 s args wsX2_isLength RX2) (hR : Rti .boolean p l e rmX2_isLength s m args below meth c cX2_isLength D A [] (fun _ : Unit => []) K Q) {k0 : Int32} (hh : wpX2_isLength_b17 k0 K) {H : Heap} {locs : List Loc} {ls : Array Slot} (hw : Wd D A s [] [] H locs) (hl : lv_has ls 1 []) : W p l e rmX2_isLength s m args below meth c H locs 0 0 Q (F0 m 17 ls [.int k0]) := by
  unfold wpX2_isLength_b17 at hh
  obtain ⟨hb17, hh⟩ := hh
  exact hR _ _ _ () _ _ dX2_isLength_17 (isB_nar hb17) hh hw
def wpX2_isLength_b16 (K : Int32 → Unit → Prop) : Prop :=
  wpX2_isLength_b17 (0 : Int32) K
set_option maxHeartbeats 4000000 in
set_option maxRecDepth 100000 in
theorem tX2_isLength_b16 {K : Int32 → Unit → Prop} (C : CallFix p m c cX2_isLength 1 s args wsX2_isLength RX2) (hR : Rti .boolean p l e rmX2_isLength s m args below meth c cX2_isLength D A [] (fun _ : Unit => []) K Q) (hh : wpX2_isLength_b16  K) {H : Heap} {locs : List Loc} {ls : Array Slot} (hw : Wd D A s [] [] H locs) (hl : lv_has ls 1 []) : W p l e rmX2_isLength s m args below meth c H locs 0 0 Q (F0 m 16 ls []) := by
  unfold wpX2_isLength_b16 at hh
  refine lv_iconst (v := (0 : Int32)) C.1 C.2.1 dX2_isLength_16 (by decide) ?_
  exact tX2_isLength_b17 C hR hh hw hl
def wpX2_isLength_b0 (x0 : Int32) (K : Int32 → Unit → Prop) : Prop :=
  ((x0 < (1 : Int32)) →
    wpX2_isLength_b16  K) ∧
  (¬ (x0 < (1 : Int32)) →
    (((500 : Int32) < x0) →
      wpX2_isLength_b16  K) ∧
    (¬ ((500 : Int32) < x0) →
      wpX2_isLength_b17 (1 : Int32) K))
set_option maxHeartbeats 4000000 in
set_option maxRecDepth 100000 in
theorem tX2_isLength_b0 {K : Int32 → Unit → Prop} (C : CallFix p m c cX2_isLength 1 s args wsX2_isLength RX2) (hR : Rti .boolean p l e rmX2_isLength s m args below meth c cX2_isLength D A [] (fun _ : Unit => []) K Q) {x0 : Int32} (hh : wpX2_isLength_b0 x0 K) {H : Heap} {locs : List Loc} {ls : Array Slot} (hw : Wd D A s [] [] H locs) (hl : lv_has ls 1 [(0, .int x0)]) : W p l e rmX2_isLength s m args below meth c H locs 0 0 Q (F0 m 0 ls []) := by
  unfold wpX2_isLength_b0 at hh
  refine lv_iload_n C.1 C.2.1 dX2_isLength_0 rfl (lv_at hl 0 rfl) ?_
  refine lv_iconst (v := (1 : Int32)) C.1 C.2.1 dX2_isLength_1 (by decide) ?_
  refine lv_icmp_lt (tgt := 16) C.1 C.2.1 dX2_isLength_2 (by decide) (fun c2 => ?_) (fun c2 => ?_)
  · replace hh := hh.1 c2
    exact tX2_isLength_b16 C hR hh hw (lv_sub hl [] rfl)
  · replace hh := hh.2 c2
    refine lv_iload_n C.1 C.2.1 dX2_isLength_5 rfl (lv_at hl 0 rfl) ?_
    refine lv_sipush (v := (500 : Int32)) C.1 C.2.1 dX2_isLength_6 (by decide) ?_
    refine lv_icmp_gt (tgt := 16) C.1 C.2.1 dX2_isLength_9 (by decide) (fun c9 => ?_) (fun c9 => ?_)
    · replace hh := hh.1 c9
      exact tX2_isLength_b16 C hR hh hw (lv_sub hl [] rfl)
    · replace hh := hh.2 c9
      refine lv_iconst (v := (1 : Int32)) C.1 C.2.1 dX2_isLength_12 (by decide) ?_
      refine lv_goto (tgt := 17) C.1 C.2.1 dX2_isLength_13 (by decide) ?_
      exact tX2_isLength_b17 C hR hh hw (lv_sub hl [] rfl)
def wpX2_isLength (x0 : Int32) (K : Int32 → Unit → Prop) : Prop := wpX2_isLength_b0  x0 K
theorem ctX2_isLength (l : Launch) (D : va_G) (x0 : Int32) {K : Int32 → Unit → Prop} (hh : wpX2_isLength x0 K) : Ci l yX2_isLength wsX2_isLength rmX2_isLength [.int x0] D [] (fun _ : Unit => []) () K := by
  refine Ci_of (cc := cX2_isLength) (maxL := 1) (by decide) rfl (Nat.le_of_ble_eq_true rfl) ?_
  intro p e s m below meth c A Q C hw hR ls hl
  exact tX2_isLength_b0 C hR hh hw hl
theorem cdX2_isLength : yX2_isLength.cls ≠ "java/lang/invoke/MethodHandle" ∧ yX2_isLength.cls ≠ "java/lang/invoke/VarHandle" ∧ (parseMethodDescriptor yX2_isLength.desc).map (fun d => d.parameters.length) = some 1 := by decide +kernel
end
