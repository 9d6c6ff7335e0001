section
variable {p : Program} {l : Launch} {e : Env} {s : State} {m : MethodId} {args : Array Value} {below : List Frame} {meth : Method} {c : Code} {D : va_G} {A : Nat → Prop} {h : Nat → Nat} {cI cL cF cM : ClassId} {Q : State → Prop}
abbrev rmX1_far : Room := { frames := 1, cells := 0, slots := 0, locals := 22 }
def wpX1_far_b7_body (B7 : (Nat → Nat → Int32) → (Nat → Nat → Int64) → (Nat → Nat → Nat) → Int64 → Int32 → Prop) (a0 : Nat) (F : Nat → Nat → Int32) (L : Nat → Nat → Int64) (r : Nat → Nat → Nat) (x2 : Int64) (x4 : Int32) (K : Int32 → cS → Prop) : Prop :=
  (((F a0 2) ≤ x4) →
    K (-1 : Int32) (F, L, r)) ∧
  (¬ ((F a0 2) ≤ x4) →
    (((lg_cmp ((jlushr x2 (F a0 3)) &&& (1 : Int64)) (0 : Int64)) = 0) →
      wpX1_spread a0 F L r x2 (fun r34 u34 =>
        B7 u34.1 u34.2.1 u34.2.2 r34 (x4 + (1 : Int32)))) ∧
    (¬ ((lg_cmp ((jlushr x2 (F a0 3)) &&& (1 : Int64)) (0 : Int64)) = 0) →
      K x4 (F, L, r)))
set_option maxHeartbeats 4000000 in
set_option maxRecDepth 100000 in
theorem tX1_far_b7_body {a0 : Nat} {B7 : (Nat → Nat → Int32) → (Nat → Nat → Int64) → (Nat → Nat → Nat) → Int64 → Int32 → Prop} {K : Int32 → cS → Prop} (C : CallFix p m c cX1_far 5 s args wsX1_far RX1) (hR : Rti .int p l e rmX1_far s m args below meth c cX1_far D A (cT cI cL cF cM) (cWu h cI cL cF cM) K Q) (ha0 : kd a0 = 1) (hB7 : ∀ (F : Nat → Nat → Int32) (L : Nat → Nat → Int64) (r : Nat → Nat → Nat) (x2 : Int64) (x4 : Int32) (H : Heap) (locs : List Loc) (ls : Array Slot), B7 F L r x2 x4 → Wd D A s (cT cI cL cF cM) (cW h cI cL cF cM F L r) H locs → lv_has ls 5 [(0, .ref (h a0)), (2, .long x2), (4, .int x4)] → W p l e rmX1_far s m args below meth c H locs 0 0 Q (F0 m 7 ls [])) {F : Nat → Nat → Int32} {L : Nat → Nat → Int64} {r : Nat → Nat → Nat} {x2 : Int64} {x4 : Int32} (hh : wpX1_far_b7_body B7 a0 F L r x2 x4 K) {H : Heap} {locs : List Loc} {ls : Array Slot} (hw : Wd D A s (cT cI cL cF cM) (cW h cI cL cF cM F L r) H locs) (hl : lv_has ls 5 [(0, .ref (h a0)), (2, .long x2), (4, .int x4)]) : W p l e rmX1_far s m args below meth c H locs 0 0 Q (F0 m 7 ls []) := by
  unfold wpX1_far_b7_body at hh
  refine lv_iload C.1 C.2.1 dX1_far_7 (lv_at hl 2 rfl) ?_
  refine lv_aload_n C.1 C.2.1 dX1_far_9 rfl (lv_at hl 0 rfl) ?_
  refine c_get C hw (inC inW1) (kd_lt ha0 (by decide)) (ce1 ha0) rfl 2 (by decide) (wc w_358) (v := .int (F a0 2)) rfl dX1_far_10 ?_
  refine lv_icmp_ge (tgt := 44) C.1 C.2.1 dX1_far_13 (by decide) (fun c13 => ?_) (fun c13 => ?_)
  · replace hh := hh.1 c13
    refine lv_iconst (v := (-1 : Int32)) C.1 C.2.1 dX1_far_44 (by decide) ?_
    exact hR _ _ _ (F, L, r) _ _ dX1_far_45 rfl hh hw
  · replace hh := hh.2 c13
    refine lv_lload_n C.1 C.2.1 dX1_far_16 rfl (lv_at hl 1 rfl) ?_
    refine lv_aload_n C.1 C.2.1 dX1_far_17 rfl (lv_at hl 0 rfl) ?_
    refine c_get C hw (inC inW1) (kd_lt ha0 (by decide)) (ce1 ha0) rfl 3 (by decide) (wc w_361) (v := .int (F a0 3)) rfl dX1_far_18 ?_
    refine lv_lushr (v := jlushr x2 (F a0 3)) C.1 C.2.1 dX1_far_21 rfl ?_
    refine lv_lconst (v := (1 : Int64)) C.1 C.2.1 dX1_far_22 (by decide) ?_
    refine lv_land C.1 C.2.1 dX1_far_23 ?_
    refine lv_lconst (v := (0 : Int64)) C.1 C.2.1 dX1_far_24 (by decide) ?_
    refine W.lcmp C.1 C.2.1 dX1_far_25 ?_
    refine lv_if_eq (tgt := 32) C.1 C.2.1 dX1_far_26 (by decide) (fun c26 => ?_) (fun c26 => ?_)
    · replace hh := hh.1 c26
      refine lv_aload_n C.1 C.2.1 dX1_far_32 rfl (lv_at hl 0 rfl) ?_
      refine lv_lload_n C.1 C.2.1 dX1_far_33 rfl (lv_at hl 1 rfl) ?_
      refine c_Vl C hw (ctX1_spread l D h cI cL cF cM a0 ha0 F L r x2 hh) (cwV 1 C.2.2.2.2 (gd_V w_1056 w_1058 w_36 w_120 w_1059) rfl rfl rfl cdX1_spread ⟨Nat.le_of_ble_eq_true rfl, Nat.le_of_ble_eq_true rfl⟩) rfl (kd_lt ha0 (by decide)) (ce1 ha0) rfl hl.1 (Nat.le_of_ble_eq_true rfl) dX1_far_34 ⟨Nat.zero_le _, Nat.zero_le _⟩ (fun r34 u34 H locs hh hw => ?_) rfl
      refine lv_lstore_n (lv' := [(2, .long r34), (0, .ref (h a0)), (4, .int x4)]) C.1 C.2.1 dX1_far_37 rfl hl (by decide) rfl (fun ls hl => ?_)
      refine lv_iinc (v := x4 + (1 : Int32)) (lv' := [(4, .int (x4 + (1 : Int32))), (2, .long r34), (0, .ref (h a0))]) C.1 C.2.1 dX1_far_38 hl (k := 2) rfl rfl (by decide) rfl (fun ls hl => ?_)
      refine lv_goto (tgt := 7) C.1 C.2.1 dX1_far_41 (by decide) ?_
      exact hB7 _ _ _ _ _ _ _ _ hh hw (lv_sub hl [2, 1, 0] rfl)
    · replace hh := hh.2 c26
      refine lv_iload C.1 C.2.1 dX1_far_29 (lv_at hl 2 rfl) ?_
      exact hR _ _ _ (F, L, r) _ _ dX1_far_31 rfl hh hw
def wpX1_far_b7 (a0 : Nat) (n_ : Nat) (F : Nat → Nat → Int32) (L : Nat → Nat → Int64) (r : Nat → Nat → Nat) (x2 : Int64) (x4 : Int32) (K : Int32 → cS → Prop) : Prop := match n_ with
  | 0 => False
  | n + 1 => wpX1_far_b7_body (fun F L r x2 x4 => wpX1_far_b7 a0 n F L r x2 x4 K) a0 F L r x2 x4 K
theorem tX1_far_b7 {a0 : Nat} {K : Int32 → cS → Prop} (C : CallFix p m c cX1_far 5 s args wsX1_far RX1) (hR : Rti .int p l e rmX1_far s m args below meth c cX1_far D A (cT cI cL cF cM) (cWu h cI cL cF cM) K Q) (ha0 : kd a0 = 1) (n : Nat) : ∀ (F : Nat → Nat → Int32) (L : Nat → Nat → Int64) (r : Nat → Nat → Nat) (x2 : Int64) (x4 : Int32) (H : Heap) (locs : List Loc) (ls : Array Slot), wpX1_far_b7 a0 n F L r x2 x4 K → Wd D A s (cT cI cL cF cM) (cW h cI cL cF cM F L r) H locs → lv_has ls 5 [(0, .ref (h a0)), (2, .long x2), (4, .int x4)] → W p l e rmX1_far s m args below meth c H locs 0 0 Q (F0 m 7 ls []) := by
  induction n with
  | zero => intro F L r x2 x4 H locs ls hh; exact hh.elim
  | succ n ih => intro F L r x2 x4 H locs ls hh hw hl; exact tX1_far_b7_body C hR ha0 ih hh hw hl
def wpX1_far_b0 (a0 : Nat) (F : Nat → Nat → Int32) (L : Nat → Nat → Int64) (r : Nat → Nat → Nat) (x1 : Int32) (K : Int32 → cS → Prop) : Prop :=
  ∃ n, wpX1_far_b7 a0 n F L r (jlshl (1 : Int64) x1) (0 : Int32) K
set_option maxHeartbeats 4000000 in
set_option maxRecDepth 100000 in
theorem tX1_far_b0 {a0 : Nat} {K : Int32 → cS → Prop} (C : CallFix p m c cX1_far 5 s args wsX1_far RX1) (hR : Rti .int p l e rmX1_far s m args below meth c cX1_far D A (cT cI cL cF cM) (cWu h cI cL cF cM) K Q) (ha0 : kd a0 = 1) {F : Nat → Nat → Int32} {L : Nat → Nat → Int64} {r : Nat → Nat → Nat} {x1 : Int32} (hh : wpX1_far_b0 a0 F L r x1 K) {H : Heap} {locs : List Loc} {ls : Array Slot} (hw : Wd D A s (cT cI cL cF cM) (cW h cI cL cF cM F L r) H locs) (hl : lv_has ls 5 [(0, .ref (h a0)), (1, .int x1)]) : W p l e rmX1_far s m args below meth c H locs 0 0 Q (F0 m 0 ls []) := by
  unfold wpX1_far_b0 at hh
  refine lv_lconst (v := (1 : Int64)) C.1 C.2.1 dX1_far_0 (by decide) ?_
  refine lv_iload_n C.1 C.2.1 dX1_far_1 rfl (lv_at hl 1 rfl) ?_
  refine lv_lshl (v := jlshl (1 : Int64) x1) C.1 C.2.1 dX1_far_2 rfl ?_
  refine lv_lstore_n (lv' := [(2, .long (jlshl (1 : Int64) x1)), (0, .ref (h a0)), (1, .int x1)]) C.1 C.2.1 dX1_far_3 rfl hl (by decide) rfl (fun ls hl => ?_)
  refine lv_iconst (v := (0 : Int32)) C.1 C.2.1 dX1_far_4 (by decide) ?_
  refine lv_istore (lv' := [(4, .int (0 : Int32)), (2, .long (jlshl (1 : Int64) x1)), (0, .ref (h a0)), (1, .int x1)]) C.1 C.2.1 dX1_far_5 hl (by decide) rfl (fun ls hl => ?_)
  obtain ⟨n, hh⟩ := hh
  exact tX1_far_b7 C hR ha0 n _ _ _ _ _ _ _ _ hh hw (lv_sub hl [2, 1, 0] rfl)
def wpX1_far (a0 : Nat) (F : Nat → Nat → Int32) (L : Nat → Nat → Int64) (r : Nat → Nat → Nat) (x1 : Int32) (K : Int32 → cS → Prop) : Prop := wpX1_far_b0 a0 F L r x1 K
theorem ctX1_far (l : Launch) (D : va_G) (h : Nat → Nat) (cI cL cF cM : ClassId) (a0 : Nat) (ha0 : kd a0 = 1) (F : Nat → Nat → Int32) (L : Nat → Nat → Int64) (r : Nat → Nat → Nat) (x1 : Int32) {K : Int32 → cS → Prop} (hh : wpX1_far a0 F L r x1 K) : Ci l yX1_far wsX1_far rmX1_far [.ref (h a0), .int x1] D (cT cI cL cF cM) (cWu h cI cL cF cM) (F, L, r) K := by
  refine Ci_of (cc := cX1_far) (maxL := 5) (by decide) rfl (Nat.le_of_ble_eq_true rfl) ?_
  intro p e s m below meth c A Q C hw hR ls hl
  exact tX1_far_b0 C hR ha0 hh hw hl
theorem cdX1_far : yX1_far.cls = RX1 ∧ yX1_far.cls ≠ "java/lang/invoke/MethodHandle" ∧ yX1_far.cls ≠ "java/lang/invoke/VarHandle" ∧ (parseMethodDescriptor yX1_far.desc).map (fun d => d.parameters.length) = some 1 := by decide +kernel
abbrev rmX10_look : Room := { frames := 2, cells := 0, slots := 0, locals := 46 }
def wpX10_look_b0 (F : Nat → Nat → Int32) (L : Nat → Nat → Int64) (r : Nat → Nat → Nat) (x1 : Int32) (x2 : Int32) (K : Int32 → cS → Prop) : Prop :=
  wpX1_has 46 F L r x1 (fun r5 u5 =>
    (¬ (r5 = 0) →
    (x2 = (0 : Int32) →
      wpX3_wayOf 74 u5.1 u5.2.1 u5.2.2 x1 (fun r57 u57 =>
          K r57 (u57.1, u57.2.1, u57.2.2))) ∧
    (x2 = (1 : Int32) →
      wpX3_yesesOf 74 u5.1 u5.2.1 u5.2.2 x1 (fun r66 u66 =>
          K r66 (u66.1, u66.2.1, u66.2.2))) ∧
    (x2 = (2 : Int32) →
      wpX1_wallsOf 46 u5.1 u5.2.1 u5.2.2 x1 (fun r75 u75 =>
          K r75 (u75.1, u75.2.1, u75.2.2))) ∧
    (x2 = (3 : Int32) →
      wpX1_far 46 u5.1 u5.2.1 u5.2.2 x1 (fun r84 u84 =>
          K r84 (u84.1, u84.2.1, u84.2.2))) ∧
    ((x2).toInt < 0 ∨ 3 < (x2).toInt →
      False)) ∧
  ((r5 = 0) →
    False))
set_option maxHeartbeats 4000000 in
set_option maxRecDepth 100000 in
theorem tX10_look_b0 {K : Int32 → cS → Prop} (C : CallFix p m c cX10_look 3 s args wsX10_look RX10) (hR : Rti .int p l e rmX10_look s m args below meth c cX10_look D A (cT cI cL cF cM) (cWu h cI cL cF cM) K Q) {F : Nat → Nat → Int32} {L : Nat → Nat → Int64} {r : Nat → Nat → Nat} {x1 : Int32} {x2 : Int32} (hh : wpX10_look_b0 F L r x1 x2 K) {H : Heap} {locs : List Loc} {ls : Array Slot} (hw : Wd D A s (cT cI cL cF cM) (cW h cI cL cF cM F L r) H locs) (hl : lv_has ls 3 [(0, .ref (h 0)), (1, .int x1), (2, .int x2)]) : W p l e rmX10_look s m args below meth c H locs 0 0 Q (F0 m 0 ls []) := by
  unfold wpX10_look_b0 at hh
  refine lv_aload_n C.1 C.2.1 dX10_look_0 rfl (lv_at hl 0 rfl) ?_
  refine c_get C hw (inC inW10) (kd_lt kp0 (by decide)) (ce10 kp0) rfl 5 (by decide) (wc w_575) (v := .ref (h 46)) rfl dX10_look_1 ?_
  refine lv_iload_n C.1 C.2.1 dX10_look_4 rfl (lv_at hl 1 rfl) ?_
  refine c_Vi C hw (ctX1_has l D h cI cL cF cM 46 kp46 F L r x1 hh) (cwV 1 C.2.2.2.2 (gd_V w_937 w_938 w_939 w_120 w_940) rfl rfl rfl cdX1_has ⟨Nat.le_of_ble_eq_true rfl, Nat.le_of_ble_eq_true rfl⟩) rfl (kd_lt kp46 (by decide)) (ce1 kp46) rfl hl.1 (Nat.le_of_ble_eq_true rfl) dX10_look_5 ⟨Nat.zero_le _, Nat.zero_le _⟩ (fun r5 u5 H locs hh hw => ?_) rfl
  refine lv_if_ne (tgt := 21) C.1 C.2.1 dX10_look_8 (by decide) (fun c8 => ?_) (fun c8 => ?_)
  · replace hh := hh.1 c8
    refine lv_iload_n C.1 C.2.1 dX10_look_21 rfl (lv_at hl 2 rfl) ?_
    refine sw_in (x := x2) (lo := 0) (hi := 3) (fun hlo hhi => ?_) (fun ho => ?_)
    · have hv : (x2).toInt = 0 ∨ (x2).toInt = 1 ∨ (x2).toInt = 2 ∨ (x2).toInt = 3 := by omega
      rcases hv with hv | hv | hv | hv
      · replace hh := hh.1 (sw_eq hv (by decide))
        refine lv_tableIn (off := 30) (tgt := 52) C.1 C.2.1 dX10_look_22 hlo hhi (by rw [hv]; rfl) (by decide) ?_
        refine lv_aload_n C.1 C.2.1 dX10_look_52 rfl (lv_at hl 0 rfl) ?_
        refine c_get C hw (inC inW10) (kd_lt kp0 (by decide)) (ce10 kp0) rfl 6 (by decide) (wc w_576) (v := .ref (h 74)) rfl dX10_look_53 ?_
        refine lv_iload_n C.1 C.2.1 dX10_look_56 rfl (lv_at hl 1 rfl) ?_
        refine c_Vi C hw (ctX3_wayOf l D h cI cL cF cM 74 kp74 u5.1 u5.2.1 u5.2.2 x1 hh) (cwV 1 C.2.2.2.2 (gd_V w_1157 w_1006 w_1007 w_121 w_1008) rfl rfl rfl cdX3_wayOf ⟨Nat.le_of_ble_eq_true rfl, Nat.le_of_ble_eq_true rfl⟩) rfl (kd_lt kp74 (by decide)) (ce3 kp74) rfl hl.1 (Nat.le_of_ble_eq_true rfl) dX10_look_57 ⟨Nat.zero_le _, Nat.zero_le _⟩ (fun r57 u57 H locs hh hw => ?_) rfl
        exact hR _ _ _ (u57.1, u57.2.1, u57.2.2) _ _ dX10_look_60 rfl hh hw
      · replace hh := hh.2.1 (sw_eq hv (by decide))
        refine lv_tableIn (off := 39) (tgt := 61) C.1 C.2.1 dX10_look_22 hlo hhi (by rw [hv]; rfl) (by decide) ?_
        refine lv_aload_n C.1 C.2.1 dX10_look_61 rfl (lv_at hl 0 rfl) ?_
        refine c_get C hw (inC inW10) (kd_lt kp0 (by decide)) (ce10 kp0) rfl 6 (by decide) (wc w_576) (v := .ref (h 74)) rfl dX10_look_62 ?_
        refine lv_iload_n C.1 C.2.1 dX10_look_65 rfl (lv_at hl 1 rfl) ?_
        refine c_Vi C hw (ctX3_yesesOf l D h cI cL cF cM 74 kp74 u5.1 u5.2.1 u5.2.2 x1 hh) (cwV 1 C.2.2.2.2 (gd_V w_1415 w_1001 w_1002 w_121 w_1003) rfl rfl rfl cdX3_yesesOf ⟨Nat.le_of_ble_eq_true rfl, Nat.le_of_ble_eq_true rfl⟩) rfl (kd_lt kp74 (by decide)) (ce3 kp74) rfl hl.1 (Nat.le_of_ble_eq_true rfl) dX10_look_66 ⟨Nat.zero_le _, Nat.zero_le _⟩ (fun r66 u66 H locs hh hw => ?_) rfl
        exact hR _ _ _ (u66.1, u66.2.1, u66.2.2) _ _ dX10_look_69 rfl hh hw
      · replace hh := hh.2.2.1 (sw_eq hv (by decide))
        refine lv_tableIn (off := 48) (tgt := 70) C.1 C.2.1 dX10_look_22 hlo hhi (by rw [hv]; rfl) (by decide) ?_
        refine lv_aload_n C.1 C.2.1 dX10_look_70 rfl (lv_at hl 0 rfl) ?_
        refine c_get C hw (inC inW10) (kd_lt kp0 (by decide)) (ce10 kp0) rfl 5 (by decide) (wc w_575) (v := .ref (h 46)) rfl dX10_look_71 ?_
        refine lv_iload_n C.1 C.2.1 dX10_look_74 rfl (lv_at hl 1 rfl) ?_
        refine c_Vi C hw (ctX1_wallsOf l D h cI cL cF cM 46 kp46 u5.1 u5.2.1 u5.2.2 x1 hh) (cwV 1 C.2.2.2.2 (gd_V w_1416 w_1417 w_1418 w_120 w_1419) rfl rfl rfl cdX1_wallsOf ⟨Nat.le_of_ble_eq_true rfl, Nat.le_of_ble_eq_true rfl⟩) rfl (kd_lt kp46 (by decide)) (ce1 kp46) rfl hl.1 (Nat.le_of_ble_eq_true rfl) dX10_look_75 ⟨Nat.zero_le _, Nat.zero_le _⟩ (fun r75 u75 H locs hh hw => ?_) rfl
        exact hR _ _ _ (u75.1, u75.2.1, u75.2.2) _ _ dX10_look_78 rfl hh hw
      · replace hh := hh.2.2.2.1 (sw_eq hv (by decide))
        refine lv_tableIn (off := 57) (tgt := 79) C.1 C.2.1 dX10_look_22 hlo hhi (by rw [hv]; rfl) (by decide) ?_
        refine lv_aload_n C.1 C.2.1 dX10_look_79 rfl (lv_at hl 0 rfl) ?_
        refine c_get C hw (inC inW10) (kd_lt kp0 (by decide)) (ce10 kp0) rfl 5 (by decide) (wc w_575) (v := .ref (h 46)) rfl dX10_look_80 ?_
        refine lv_iload_n C.1 C.2.1 dX10_look_83 rfl (lv_at hl 1 rfl) ?_
        refine c_Vi C hw (ctX1_far l D h cI cL cF cM 46 kp46 u5.1 u5.2.1 u5.2.2 x1 hh) (cwV 1 C.2.2.2.2 (gd_V w_1420 w_1421 w_1422 w_120 w_1423) rfl rfl rfl cdX1_far ⟨Nat.le_of_ble_eq_true rfl, Nat.le_of_ble_eq_true rfl⟩) rfl (kd_lt kp46 (by decide)) (ce1 kp46) rfl hl.1 (Nat.le_of_ble_eq_true rfl) dX10_look_84 ⟨Nat.zero_le _, Nat.zero_le _⟩ (fun r84 u84 H locs hh hw => ?_) rfl
        exact hR _ _ _ (u84.1, u84.2.1, u84.2.2) _ _ dX10_look_87 rfl hh hw
    · replace hh := hh.2.2.2.2 ho
      refine lv_tableOut (tgt := 88) C.1 C.2.1 dX10_look_22 ho (by decide) ?_
      exact hh.elim
  · replace hh := hh.2 c8
    exact hh.elim
def wpX10_look (F : Nat → Nat → Int32) (L : Nat → Nat → Int64) (r : Nat → Nat → Nat) (x1 : Int32) (x2 : Int32) (K : Int32 → cS → Prop) : Prop := wpX10_look_b0 F L r x1 x2 K
theorem ctX10_look (l : Launch) (D : va_G) (h : Nat → Nat) (cI cL cF cM : ClassId) (F : Nat → Nat → Int32) (L : Nat → Nat → Int64) (r : Nat → Nat → Nat) (x1 : Int32) (x2 : Int32) {K : Int32 → cS → Prop} (hh : wpX10_look F L r x1 x2 K) : Ci l yX10_look wsX10_look rmX10_look [.ref (h 0), .int x1, .int x2] D (cT cI cL cF cM) (cWu h cI cL cF cM) (F, L, r) K := by
  refine Ci_of (cc := cX10_look) (maxL := 3) (by decide) rfl (Nat.le_of_ble_eq_true rfl) ?_
  intro p e s m below meth c A Q C hw hR ls hl
  exact tX10_look_b0 C hR hh hw hl
theorem cdX10_look : yX10_look.cls = RX10 ∧ yX10_look.cls ≠ "java/lang/invoke/MethodHandle" ∧ yX10_look.cls ≠ "java/lang/invoke/VarHandle" ∧ (parseMethodDescriptor yX10_look.desc).map (fun d => d.parameters.length) = some 2 := by decide +kernel
abbrev rmX1_reach : Room := { frames := 1, cells := 0, slots := 0, locals := 22 }
def wpX1_reach_b9_body (B9 : (Nat → Nat → Int32) → (Nat → Nat → Int64) → (Nat → Nat → Nat) → Int64 → Int32 → Prop) (a0 : Nat) (F : Nat → Nat → Int32) (L : Nat → Nat → Int64) (r : Nat → Nat → Nat) (x1 : Int64) (x3 : Int32) (K : Int64 → cS → Prop) : Prop :=
  (((F a0 2) ≤ x3) →
    K x1 (F, L, r)) ∧
  (¬ ((F a0 2) ≤ x3) →
    wpX1_spread a0 F L r x1 (fun r19 u19 =>
      B9 u19.1 u19.2.1 u19.2.2 r19 (x3 + (1 : Int32))))
set_option maxHeartbeats 4000000 in
set_option maxRecDepth 100000 in
theorem tX1_reach_b9_body {a0 : Nat} {B9 : (Nat → Nat → Int32) → (Nat → Nat → Int64) → (Nat → Nat → Nat) → Int64 → Int32 → Prop} {K : Int64 → cS → Prop} (C : CallFix p m c cX1_reach 4 s args wsX1_reach RX1) (hR : Rtl p l e rmX1_reach s m args below meth c cX1_reach D A (cT cI cL cF cM) (cWu h cI cL cF cM) K Q) (ha0 : kd a0 = 1) (hB9 : ∀ (F : Nat → Nat → Int32) (L : Nat → Nat → Int64) (r : Nat → Nat → Nat) (x1 : Int64) (x3 : Int32) (H : Heap) (locs : List Loc) (ls : Array Slot), B9 F L r x1 x3 → Wd D A s (cT cI cL cF cM) (cW h cI cL cF cM F L r) H locs → lv_has ls 4 [(0, .ref (h a0)), (1, .long x1), (3, .int x3)] → W p l e rmX1_reach s m args below meth c H locs 0 0 Q (F0 m 9 ls [])) {F : Nat → Nat → Int32} {L : Nat → Nat → Int64} {r : Nat → Nat → Nat} {x1 : Int64} {x3 : Int32} (hh : wpX1_reach_b9_body B9 a0 F L r x1 x3 K) {H : Heap} {locs : List Loc} {ls : Array Slot} (hw : Wd D A s (cT cI cL cF cM) (cW h cI cL cF cM F L r) H locs) (hl : lv_has ls 4 [(0, .ref (h a0)), (1, .long x1), (3, .int x3)]) : W p l e rmX1_reach s m args below meth c H locs 0 0 Q (F0 m 9 ls []) := by
  unfold wpX1_reach_b9_body at hh
  refine lv_iload_n C.1 C.2.1 dX1_reach_9 rfl (lv_at hl 2 rfl) ?_
  refine lv_aload_n C.1 C.2.1 dX1_reach_10 rfl (lv_at hl 0 rfl) ?_
  refine c_get C hw (inC inW1) (kd_lt ha0 (by decide)) (ce1 ha0) rfl 2 (by decide) (wc w_358) (v := .int (F a0 2)) rfl dX1_reach_11 ?_
  refine lv_icmp_ge (tgt := 29) C.1 C.2.1 dX1_reach_14 (by decide) (fun c14 => ?_) (fun c14 => ?_)
  · replace hh := hh.1 c14
    refine lv_lload_n C.1 C.2.1 dX1_reach_29 rfl (lv_at hl 1 rfl) ?_
    exact hR _ _ _ (F, L, r) _ _ dX1_reach_30 hh hw
  · replace hh := hh.2 c14
    refine lv_aload_n C.1 C.2.1 dX1_reach_17 rfl (lv_at hl 0 rfl) ?_
    refine lv_lload_n C.1 C.2.1 dX1_reach_18 rfl (lv_at hl 1 rfl) ?_
    refine c_Vl C hw (ctX1_spread l D h cI cL cF cM a0 ha0 F L r x1 hh) (cwV 1 C.2.2.2.2 (gd_V w_1056 w_1058 w_36 w_120 w_1059) rfl rfl rfl cdX1_spread ⟨Nat.le_of_ble_eq_true rfl, Nat.le_of_ble_eq_true rfl⟩) rfl (kd_lt ha0 (by decide)) (ce1 ha0) rfl hl.1 (Nat.le_of_ble_eq_true rfl) dX1_reach_19 ⟨Nat.zero_le _, Nat.zero_le _⟩ (fun r19 u19 H locs hh hw => ?_) rfl
    refine lv_lstore_n (lv' := [(1, .long r19), (0, .ref (h a0)), (3, .int x3)]) C.1 C.2.1 dX1_reach_22 rfl hl (by decide) rfl (fun ls hl => ?_)
    refine lv_iinc (v := x3 + (1 : Int32)) (lv' := [(3, .int (x3 + (1 : Int32))), (1, .long r19), (0, .ref (h a0))]) C.1 C.2.1 dX1_reach_23 hl (k := 2) rfl rfl (by decide) rfl (fun ls hl => ?_)
    refine lv_goto (tgt := 9) C.1 C.2.1 dX1_reach_26 (by decide) ?_
    exact hB9 _ _ _ _ _ _ _ _ hh hw (lv_sub hl [2, 1, 0] rfl)
def wpX1_reach_b9 (a0 : Nat) (n_ : Nat) (F : Nat → Nat → Int32) (L : Nat → Nat → Int64) (r : Nat → Nat → Nat) (x1 : Int64) (x3 : Int32) (K : Int64 → cS → Prop) : Prop := match n_ with
  | 0 => False
  | n + 1 => wpX1_reach_b9_body (fun F L r x1 x3 => wpX1_reach_b9 a0 n F L r x1 x3 K) a0 F L r x1 x3 K
theorem tX1_reach_b9 {a0 : Nat} {K : Int64 → cS → Prop} (C : CallFix p m c cX1_reach 4 s args wsX1_reach RX1) (hR : Rtl p l e rmX1_reach s m args below meth c cX1_reach D A (cT cI cL cF cM) (cWu h cI cL cF cM) K Q) (ha0 : kd a0 = 1) (n : Nat) : ∀ (F : Nat → Nat → Int32) (L : Nat → Nat → Int64) (r : Nat → Nat → Nat) (x1 : Int64) (x3 : Int32) (H : Heap) (locs : List Loc) (ls : Array Slot), wpX1_reach_b9 a0 n F L r x1 x3 K → Wd D A s (cT cI cL cF cM) (cW h cI cL cF cM F L r) H locs → lv_has ls 4 [(0, .ref (h a0)), (1, .long x1), (3, .int x3)] → W p l e rmX1_reach s m args below meth c H locs 0 0 Q (F0 m 9 ls []) := by
  induction n with
  | zero => intro F L r x1 x3 H locs ls hh; exact hh.elim
  | succ n ih => intro F L r x1 x3 H locs ls hh hw hl; exact tX1_reach_b9_body C hR ha0 ih hh hw hl
def wpX1_reach_b0 (a0 : Nat) (F : Nat → Nat → Int32) (L : Nat → Nat → Int64) (r : Nat → Nat → Nat) (K : Int64 → cS → Prop) : Prop :=
  ∃ n, wpX1_reach_b9 a0 n F L r (jlshl (1 : Int64) (F a0 3)) (1 : Int32) K
set_option maxHeartbeats 4000000 in
set_option maxRecDepth 100000 in
theorem tX1_reach_b0 {a0 : Nat} {K : Int64 → cS → Prop} (C : CallFix p m c cX1_reach 4 s args wsX1_reach RX1) (hR : Rtl p l e rmX1_reach s m args below meth c cX1_reach D A (cT cI cL cF cM) (cWu h cI cL cF cM) K Q) (ha0 : kd a0 = 1) {F : Nat → Nat → Int32} {L : Nat → Nat → Int64} {r : Nat → Nat → Nat} (hh : wpX1_reach_b0 a0 F L r K) {H : Heap} {locs : List Loc} {ls : Array Slot} (hw : Wd D A s (cT cI cL cF cM) (cW h cI cL cF cM F L r) H locs) (hl : lv_has ls 4 [(0, .ref (h a0))]) : W p l e rmX1_reach s m args below meth c H locs 0 0 Q (F0 m 0 ls []) := by
  unfold wpX1_reach_b0 at hh
  refine lv_lconst (v := (1 : Int64)) C.1 C.2.1 dX1_reach_0 (by decide) ?_
  refine lv_aload_n C.1 C.2.1 dX1_reach_1 rfl (lv_at hl 0 rfl) ?_
  refine c_get C hw (inC inW1) (kd_lt ha0 (by decide)) (ce1 ha0) rfl 3 (by decide) (wc w_361) (v := .int (F a0 3)) rfl dX1_reach_2 ?_
  refine lv_lshl (v := jlshl (1 : Int64) (F a0 3)) C.1 C.2.1 dX1_reach_5 rfl ?_
  refine lv_lstore_n (lv' := [(1, .long (jlshl (1 : Int64) (F a0 3))), (0, .ref (h a0))]) C.1 C.2.1 dX1_reach_6 rfl hl (by decide) rfl (fun ls hl => ?_)
  refine lv_iconst (v := (1 : Int32)) C.1 C.2.1 dX1_reach_7 (by decide) ?_
  refine lv_istore_n (lv' := [(3, .int (1 : Int32)), (1, .long (jlshl (1 : Int64) (F a0 3))), (0, .ref (h a0))]) C.1 C.2.1 dX1_reach_8 rfl hl (by decide) rfl (fun ls hl => ?_)
  obtain ⟨n, hh⟩ := hh
  exact tX1_reach_b9 C hR ha0 n _ _ _ _ _ _ _ _ hh hw (lv_sub hl [2, 1, 0] rfl)
def wpX1_reach (a0 : Nat) (F : Nat → Nat → Int32) (L : Nat → Nat → Int64) (r : Nat → Nat → Nat) (K : Int64 → cS → Prop) : Prop := wpX1_reach_b0 a0 F L r K
theorem ctX1_reach (l : Launch) (D : va_G) (h : Nat → Nat) (cI cL cF cM : ClassId) (a0 : Nat) (ha0 : kd a0 = 1) (F : Nat → Nat → Int32) (L : Nat → Nat → Int64) (r : Nat → Nat → Nat) {K : Int64 → cS → Prop} (hh : wpX1_reach a0 F L r K) : Cl l yX1_reach wsX1_reach rmX1_reach [.ref (h a0)] D (cT cI cL cF cM) (cWu h cI cL cF cM) (F, L, r) K := by
  refine Cl_of (cc := cX1_reach) (maxL := 4) (by decide) rfl (Nat.le_of_ble_eq_true rfl) ?_
  intro p e s m below meth c A Q C hw hR ls hl
  exact tX1_reach_b0 C hR ha0 hh hw hl
theorem cdX1_reach : yX1_reach.cls = RX1 ∧ yX1_reach.cls ≠ "java/lang/invoke/MethodHandle" ∧ yX1_reach.cls ≠ "java/lang/invoke/VarHandle" ∧ (parseMethodDescriptor yX1_reach.desc).map (fun d => d.parameters.length) = some 0 := by decide +kernel
abbrev rmX10_scoutRun : Room := { frames := 4, cells := 0, slots := 0, locals := 93 }
def wpX10_scoutRun_b23 (F : Nat → Nat → Int32) (L : Nat → Nat → Int64) (r : Nat → Nat → Nat) (K : Int32 → cS → Prop) : Prop :=
  kd (r 0 3) = 6 ∧ wpX3_arrive 84 (r 0 3) 46 (pt F 84 7 (0 : Int32)) L r (2000 : Int32) (fun r46 u46 =>
    K r46 (u46.1, u46.2.1, u46.2.2))
set_option maxHeartbeats 4000000 in
set_option maxRecDepth 100000 in
theorem tX10_scoutRun_b23 {K : Int32 → cS → Prop} (C : CallFix p m c cX10_scoutRun 3 s args wsX10_scoutRun RX10) (hR : Rti .int p l e rmX10_scoutRun s m args below meth c cX10_scoutRun D A (cT cI cL cF cM) (cWu h cI cL cF cM) K Q) {F : Nat → Nat → Int32} {L : Nat → Nat → Int64} {r : Nat → Nat → Nat} (hh : wpX10_scoutRun_b23 F L r K) {H : Heap} {locs : List Loc} {ls : Array Slot} (hw : Wd D A s (cT cI cL cF cM) (cW h cI cL cF cM F L r) H locs) (hl : lv_has ls 3 [(0, .ref (h 0))]) : W p l e rmX10_scoutRun s m args below meth c H locs 0 0 Q (F0 m 23 ls []) := by
  unfold wpX10_scoutRun_b23 at hh
  refine lv_aload_n C.1 C.2.1 dX10_scoutRun_23 rfl (lv_at hl 0 rfl) ?_
  refine c_get C hw (inC inW10) (kd_lt kp0 (by decide)) (ce10 kp0) rfl 12 (by decide) (wc w_582) (v := .ref (h 84)) rfl dX10_scoutRun_24 ?_
  refine lv_iconst (v := (0 : Int32)) C.1 C.2.1 dX10_scoutRun_27 (by decide) ?_
  refine c_puti C hw (inC inW3) tyX3 tyX3_ok nmX3 (kd_lt kp84 (by decide)) (ce3 kp84) rfl 7 (by decide) (wc w_408) rfl (ty := .int) (by decide +kernel) rfl rfl (Nat.le_of_ble_eq_true rfl) rfl dX10_scoutRun_28 (fun H locs hw => ?_)
  refine lv_aload_n C.1 C.2.1 dX10_scoutRun_31 rfl (lv_at hl 0 rfl) ?_
  refine c_get C hw (inC inW10) (kd_lt kp0 (by decide)) (ce10 kp0) rfl 12 (by decide) (wc w_582) (v := .ref (h 84)) rfl dX10_scoutRun_32 ?_
  refine lv_aload_n C.1 C.2.1 dX10_scoutRun_35 rfl (lv_at hl 0 rfl) ?_
  refine c_get C hw (inC inW10) (kd_lt kp0 (by decide)) (ce10 kp0) rfl 3 (by decide) (wc w_573) (v := .ref (h (r 0 3))) rfl dX10_scoutRun_36 ?_
  refine lv_aload_n C.1 C.2.1 dX10_scoutRun_39 rfl (lv_at hl 0 rfl) ?_
  refine c_get C hw (inC inW10) (kd_lt kp0 (by decide)) (ce10 kp0) rfl 5 (by decide) (wc w_575) (v := .ref (h 46)) rfl dX10_scoutRun_40 ?_
  refine lv_sipush (v := (2000 : Int32)) C.1 C.2.1 dX10_scoutRun_43 (by decide) ?_
  obtain ⟨hk0, hh⟩ := hh
  refine c_Vi C hw (ctX3_arrive l D h cI cL cF cM 84 (r 0 3) 46 kp84 hk0 kp46 (pt F 84 7 (0 : Int32)) L r (2000 : Int32) hh) (cwV 3 C.2.2.2.2 (gd_V w_1039 w_1040 w_1041 w_121 w_1042) rfl rfl rfl cdX3_arrive ⟨Nat.le_of_ble_eq_true rfl, Nat.le_of_ble_eq_true rfl⟩) rfl (kd_lt kp84 (by decide)) (ce3 kp84) rfl hl.1 (Nat.le_of_ble_eq_true rfl) dX10_scoutRun_46 ⟨Nat.zero_le _, Nat.zero_le _⟩ (fun r46 u46 H locs hh hw => ?_) rfl
  exact hR _ _ _ (u46.1, u46.2.1, u46.2.2) _ _ dX10_scoutRun_49 rfl hh hw
def wpX10_scoutRun_b0 (F : Nat → Nat → Int32) (L : Nat → Nat → Int64) (r : Nat → Nat → Nat) (x1 : Int32) (x2 : Int32) (K : Int32 → cS → Prop) : Prop :=
  ((x2 = 0) →
    wpX3_setDown 84 F L r x1 (fun u20 =>
      wpX10_scoutRun_b23 u20.1 u20.2.1 u20.2.2 K)) ∧
  (¬ (x2 = 0) →
    wpX3_setDownWiped 84 F L r x1 (fun u9 =>
      wpX10_scoutRun_b23 u9.1 u9.2.1 u9.2.2 K))
set_option maxHeartbeats 4000000 in
set_option maxRecDepth 100000 in
theorem tX10_scoutRun_b0 {K : Int32 → cS → Prop} (C : CallFix p m c cX10_scoutRun 3 s args wsX10_scoutRun RX10) (hR : Rti .int p l e rmX10_scoutRun s m args below meth c cX10_scoutRun D A (cT cI cL cF cM) (cWu h cI cL cF cM) K Q) {F : Nat → Nat → Int32} {L : Nat → Nat → Int64} {r : Nat → Nat → Nat} {x1 : Int32} {x2 : Int32} (hh : wpX10_scoutRun_b0 F L r x1 x2 K) {H : Heap} {locs : List Loc} {ls : Array Slot} (hw : Wd D A s (cT cI cL cF cM) (cW h cI cL cF cM F L r) H locs) (hl : lv_has ls 3 [(0, .ref (h 0)), (1, .int x1), (2, .int x2)]) : W p l e rmX10_scoutRun s m args below meth c H locs 0 0 Q (F0 m 0 ls []) := by
  unfold wpX10_scoutRun_b0 at hh
  refine lv_iload_n C.1 C.2.1 dX10_scoutRun_0 rfl (lv_at hl 2 rfl) ?_
  refine lv_if_eq (tgt := 15) C.1 C.2.1 dX10_scoutRun_1 (by decide) (fun c1 => ?_) (fun c1 => ?_)
  · replace hh := hh.1 c1
    refine lv_aload_n C.1 C.2.1 dX10_scoutRun_15 rfl (lv_at hl 0 rfl) ?_
    refine c_get C hw (inC inW10) (kd_lt kp0 (by decide)) (ce10 kp0) rfl 12 (by decide) (wc w_582) (v := .ref (h 84)) rfl dX10_scoutRun_16 ?_
    refine lv_iload_n C.1 C.2.1 dX10_scoutRun_19 rfl (lv_at hl 1 rfl) ?_
    refine c_Vv C hw (ctX3_setDown l D h cI cL cF cM 84 kp84 F L r x1 hh) (cwV 1 C.2.2.2.2 (gd_V w_1064 w_918 w_919 w_121 w_920) rfl rfl rfl cdX3_setDown ⟨Nat.le_of_ble_eq_true rfl, Nat.le_of_ble_eq_true rfl⟩) rfl (kd_lt kp84 (by decide)) (ce3 kp84) rfl hl.1 (Nat.le_of_ble_eq_true rfl) dX10_scoutRun_20 ⟨Nat.zero_le _, Nat.zero_le _⟩ (fun u20 H locs hh hw => ?_) rfl
    exact tX10_scoutRun_b23 C hR hh hw (lv_sub hl [0] rfl)
  · replace hh := hh.2 c1
    refine lv_aload_n C.1 C.2.1 dX10_scoutRun_4 rfl (lv_at hl 0 rfl) ?_
    refine c_get C hw (inC inW10) (kd_lt kp0 (by decide)) (ce10 kp0) rfl 12 (by decide) (wc w_582) (v := .ref (h 84)) rfl dX10_scoutRun_5 ?_
    refine lv_iload_n C.1 C.2.1 dX10_scoutRun_8 rfl (lv_at hl 1 rfl) ?_
    refine c_Vv C hw (ctX3_setDownWiped l D h cI cL cF cM 84 kp84 F L r x1 hh) (cwV 1 C.2.2.2.2 (gd_V w_913 w_914 w_915 w_121 w_916) rfl rfl rfl cdX3_setDownWiped ⟨Nat.le_of_ble_eq_true rfl, Nat.le_of_ble_eq_true rfl⟩) rfl (kd_lt kp84 (by decide)) (ce3 kp84) rfl hl.1 (Nat.le_of_ble_eq_true rfl) dX10_scoutRun_9 ⟨Nat.zero_le _, Nat.zero_le _⟩ (fun u9 H locs hh hw => ?_) rfl
    refine lv_goto (tgt := 23) C.1 C.2.1 dX10_scoutRun_12 (by decide) ?_
    exact tX10_scoutRun_b23 C hR hh hw (lv_sub hl [0] rfl)
def wpX10_scoutRun (F : Nat → Nat → Int32) (L : Nat → Nat → Int64) (r : Nat → Nat → Nat) (x1 : Int32) (x2 : Int32) (K : Int32 → cS → Prop) : Prop := wpX10_scoutRun_b0 F L r x1 x2 K
theorem ctX10_scoutRun (l : Launch) (D : va_G) (h : Nat → Nat) (cI cL cF cM : ClassId) (F : Nat → Nat → Int32) (L : Nat → Nat → Int64) (r : Nat → Nat → Nat) (x1 : Int32) (x2 : Int32) {K : Int32 → cS → Prop} (hh : wpX10_scoutRun F L r x1 x2 K) : Ci l yX10_scoutRun wsX10_scoutRun rmX10_scoutRun [.ref (h 0), .int x1, .int x2] D (cT cI cL cF cM) (cWu h cI cL cF cM) (F, L, r) K := by
  refine Ci_of (cc := cX10_scoutRun) (maxL := 3) (by decide) rfl (Nat.le_of_ble_eq_true rfl) ?_
  intro p e s m below meth c A Q C hw hR ls hl
  exact tX10_scoutRun_b0 C hR hh hw hl
theorem cdX10_scoutRun : yX10_scoutRun.cls = RX10 ∧ yX10_scoutRun.cls ≠ "java/lang/invoke/MethodHandle" ∧ yX10_scoutRun.cls ≠ "java/lang/invoke/VarHandle" ∧ (parseMethodDescriptor yX10_scoutRun.desc).map (fun d => d.parameters.length) = some 2 := by decide +kernel
abbrev rmX10_comes : Room := { frames := 5, cells := 0, slots := 0, locals := 115 }
def wpX10_comes_b9 (F : Nat → Nat → Int32) (L : Nat → Nat → Int64) (r : Nat → Nat → Nat) (K : Int32 → cS → Prop) : Prop :=
  K (-1 : Int32) (F, L, r)
set_option maxHeartbeats 4000000 in
set_option maxRecDepth 100000 in
theorem tX10_comes_b9 {K : Int32 → cS → Prop} (C : CallFix p m c cX10_comes 7 s args wsX10_comes RX10) (hR : Rti .int p l e rmX10_comes s m args below meth c cX10_comes D A (cT cI cL cF cM) (cWu h cI cL cF cM) K Q) {F : Nat → Nat → Int32} {L : Nat → Nat → Int64} {r : Nat → Nat → Nat} (hh : wpX10_comes_b9 F L r K) {H : Heap} {locs : List Loc} {ls : Array Slot} (hw : Wd D A s (cT cI cL cF cM) (cW h cI cL cF cM F L r) H locs) (hl : lv_has ls 7 [(0, .ref (h 0))]) : W p l e rmX10_comes s m args below meth c H locs 0 0 Q (F0 m 9 ls []) := by
  unfold wpX10_comes_b9 at hh
  refine lv_iconst (v := (-1 : Int32)) C.1 C.2.1 dX10_comes_9 (by decide) ?_
  exact hR _ _ _ (F, L, r) _ _ dX10_comes_10 rfl hh hw
def wpX10_comes_b93 (F : Nat → Nat → Int32) (L : Nat → Nat → Int64) (r : Nat → Nat → Nat) (k0 : Int32) (K : Int32 → cS → Prop) : Prop :=
  K k0 (F, L, r)
set_option maxHeartbeats 4000000 in
set_option maxRecDepth 100000 in
theorem tX10_comes_b93 {K : Int32 → cS → Prop} (C : CallFix p m c cX10_comes 7 s args wsX10_comes RX10) (hR : Rti .int p l e rmX10_comes s m args below meth c cX10_comes D A (cT cI cL cF cM) (cWu h cI cL cF cM) K Q) {F : Nat → Nat → Int32} {L : Nat → Nat → Int64} {r : Nat → Nat → Nat} {k0 : Int32} (hh : wpX10_comes_b93 F L r k0 K) {H : Heap} {locs : List Loc} {ls : Array Slot} (hw : Wd D A s (cT cI cL cF cM) (cW h cI cL cF cM F L r) H locs) (hl : lv_has ls 7 [(0, .ref (h 0))]) : W p l e rmX10_comes s m args below meth c H locs 0 0 Q (F0 m 93 ls [.int k0]) := by
  unfold wpX10_comes_b93 at hh
  exact hR _ _ _ (F, L, r) _ _ dX10_comes_93 rfl hh hw
def wpX10_comes_b76 (B28 : (Nat → Nat → Int32) → (Nat → Nat → Int64) → (Nat → Nat → Nat) → Int32 → Int64 → Int32 → Int32 → Int32 → Prop) (F : Nat → Nat → Int32) (L : Nat → Nat → Int64) (r : Nat → Nat → Nat) (x1 : Int32) (x2 : Int64) (x4 : Int32) (x5 : Int32) (x6 : Int32) (K : Int32 → cS → Prop) : Prop :=
  B28 F L r x1 x2 x4 x5 (x6 + (1 : Int32))
set_option maxHeartbeats 4000000 in
set_option maxRecDepth 100000 in
theorem tX10_comes_b76 {B28 : (Nat → Nat → Int32) → (Nat → Nat → Int64) → (Nat → Nat → Nat) → Int32 → Int64 → Int32 → Int32 → Int32 → Prop} {K : Int32 → cS → Prop} (C : CallFix p m c cX10_comes 7 s args wsX10_comes RX10) (hR : Rti .int p l e rmX10_comes s m args below meth c cX10_comes D A (cT cI cL cF cM) (cWu h cI cL cF cM) K Q) (hB28 : ∀ (F : Nat → Nat → Int32) (L : Nat → Nat → Int64) (r : Nat → Nat → Nat) (x1 : Int32) (x2 : Int64) (x4 : Int32) (x5 : Int32) (x6 : Int32) (H : Heap) (locs : List Loc) (ls : Array Slot), B28 F L r x1 x2 x4 x5 x6 → Wd D A s (cT cI cL cF cM) (cW h cI cL cF cM F L r) H locs → lv_has ls 7 [(0, .ref (h 0)), (1, .int x1), (2, .long x2), (4, .int x4), (5, .int x5), (6, .int x6)] → W p l e rmX10_comes s m args below meth c H locs 0 0 Q (F0 m 28 ls [])) {F : Nat → Nat → Int32} {L : Nat → Nat → Int64} {r : Nat → Nat → Nat} {x1 : Int32} {x2 : Int64} {x4 : Int32} {x5 : Int32} {x6 : Int32} (hh : wpX10_comes_b76 B28 F L r x1 x2 x4 x5 x6 K) {H : Heap} {locs : List Loc} {ls : Array Slot} (hw : Wd D A s (cT cI cL cF cM) (cW h cI cL cF cM F L r) H locs) (hl : lv_has ls 7 [(0, .ref (h 0)), (1, .int x1), (2, .long x2), (4, .int x4), (5, .int x5), (6, .int x6)]) : W p l e rmX10_comes s m args below meth c H locs 0 0 Q (F0 m 76 ls []) := by
  unfold wpX10_comes_b76 at hh
  refine lv_iinc (v := x6 + (1 : Int32)) (lv' := [(6, .int (x6 + (1 : Int32))), (0, .ref (h 0)), (1, .int x1), (2, .long x2), (4, .int x4), (5, .int x5)]) C.1 C.2.1 dX10_comes_76 hl (k := 5) rfl rfl (by decide) rfl (fun ls hl => ?_)
  refine lv_goto (tgt := 28) C.1 C.2.1 dX10_comes_79 (by decide) ?_
  exact hB28 _ _ _ _ _ _ _ _ _ _ _ hh hw (lv_sub hl [1, 2, 3, 4, 5, 0] rfl)
def wpX10_comes_b28_body (B28 : (Nat → Nat → Int32) → (Nat → Nat → Int64) → (Nat → Nat → Nat) → Int32 → Int64 → Int32 → Int32 → Int32 → Prop) (F : Nat → Nat → Int32) (L : Nat → Nat → Int64) (r : Nat → Nat → Nat) (x1 : Int32) (x2 : Int64) (x4 : Int32) (x5 : Int32) (x6 : Int32) (K : Int32 → cS → Prop) : Prop :=
  (((F 46 2) ≤ x6) →
    (¬ (x1 = 0) →
      wpX10_comes_b93 F L r x5 K) ∧
    ((x1 = 0) →
      wpX10_comes_b93 F L r x4 K)) ∧
  (¬ ((F 46 2) ≤ x6) →
    (((lg_cmp ((jlushr x2 x6) &&& (1 : Int64)) (0 : Int64)) = 0) →
      wpX10_comes_b76 B28 F L r x1 x2 x4 x5 x6 K) ∧
    (¬ ((lg_cmp ((jlushr x2 x6) &&& (1 : Int64)) (0 : Int64)) = 0) →
      wpX10_scoutRun F L r x6 (1 : Int32) (fun r55 u55 =>
        (¬ (r55 = (-2 : Int32)) →
        wpX10_comes_b76 B28 u55.1 u55.2.1 u55.2.2 x1 x2 x4 x5 x6 K) ∧
      ((r55 = (-2 : Int32)) →
        (¬ (x5 = (-1 : Int32)) →
          wpX10_comes_b76 B28 u55.1 u55.2.1 u55.2.2 x1 x2 (x4 + (1 : Int32)) x5 x6 K) ∧
        ((x5 = (-1 : Int32)) →
          wpX10_comes_b76 B28 u55.1 u55.2.1 u55.2.2 x1 x2 (x4 + (1 : Int32)) x6 x6 K)))))
set_option maxHeartbeats 4000000 in
set_option maxRecDepth 100000 in
theorem tX10_comes_b28_body {B28 : (Nat → Nat → Int32) → (Nat → Nat → Int64) → (Nat → Nat → Nat) → Int32 → Int64 → Int32 → Int32 → Int32 → Prop} {K : Int32 → cS → Prop} (C : CallFix p m c cX10_comes 7 s args wsX10_comes RX10) (hR : Rti .int p l e rmX10_comes s m args below meth c cX10_comes D A (cT cI cL cF cM) (cWu h cI cL cF cM) K Q) (hB28 : ∀ (F : Nat → Nat → Int32) (L : Nat → Nat → Int64) (r : Nat → Nat → Nat) (x1 : Int32) (x2 : Int64) (x4 : Int32) (x5 : Int32) (x6 : Int32) (H : Heap) (locs : List Loc) (ls : Array Slot), B28 F L r x1 x2 x4 x5 x6 → Wd D A s (cT cI cL cF cM) (cW h cI cL cF cM F L r) H locs → lv_has ls 7 [(0, .ref (h 0)), (1, .int x1), (2, .long x2), (4, .int x4), (5, .int x5), (6, .int x6)] → W p l e rmX10_comes s m args below meth c H locs 0 0 Q (F0 m 28 ls [])) {F : Nat → Nat → Int32} {L : Nat → Nat → Int64} {r : Nat → Nat → Nat} {x1 : Int32} {x2 : Int64} {x4 : Int32} {x5 : Int32} {x6 : Int32} (hh : wpX10_comes_b28_body B28 F L r x1 x2 x4 x5 x6 K) {H : Heap} {locs : List Loc} {ls : Array Slot} (hw : Wd D A s (cT cI cL cF cM) (cW h cI cL cF cM F L r) H locs) (hl : lv_has ls 7 [(0, .ref (h 0)), (1, .int x1), (2, .long x2), (4, .int x4), (5, .int x5), (6, .int x6)]) : W p l e rmX10_comes s m args below meth c H locs 0 0 Q (F0 m 28 ls []) := by
  unfold wpX10_comes_b28_body at hh
  refine lv_iload C.1 C.2.1 dX10_comes_28 (lv_at hl 5 rfl) ?_
  refine lv_aload_n C.1 C.2.1 dX10_comes_30 rfl (lv_at hl 0 rfl) ?_
  refine c_get C hw (inC inW10) (kd_lt kp0 (by decide)) (ce10 kp0) rfl 5 (by decide) (wc w_575) (v := .ref (h 46)) rfl dX10_comes_31 ?_
  refine c_get C hw (inC inW1) (kd_lt kp46 (by decide)) (ce1 kp46) rfl 2 (by decide) (wc w_360) (v := .int (F 46 2)) rfl dX10_comes_34 ?_
  refine lv_icmp_ge (tgt := 82) C.1 C.2.1 dX10_comes_37 (by decide) (fun c37 => ?_) (fun c37 => ?_)
  · replace hh := hh.1 c37
    refine lv_iload_n C.1 C.2.1 dX10_comes_82 rfl (lv_at hl 1 rfl) ?_
    refine lv_if_ne (tgt := 91) C.1 C.2.1 dX10_comes_83 (by decide) (fun c83 => ?_) (fun c83 => ?_)
    · replace hh := hh.1 c83
      refine lv_iload C.1 C.2.1 dX10_comes_91 (lv_at hl 4 rfl) ?_
      exact tX10_comes_b93 C hR hh hw (lv_sub hl [0] rfl)
    · replace hh := hh.2 c83
      refine lv_iload C.1 C.2.1 dX10_comes_86 (lv_at hl 3 rfl) ?_
      refine lv_goto (tgt := 93) C.1 C.2.1 dX10_comes_88 (by decide) ?_
      exact tX10_comes_b93 C hR hh hw (lv_sub hl [0] rfl)
  · replace hh := hh.2 c37
    refine lv_lload_n C.1 C.2.1 dX10_comes_40 rfl (lv_at hl 2 rfl) ?_
    refine lv_iload C.1 C.2.1 dX10_comes_41 (lv_at hl 5 rfl) ?_
    refine lv_lushr (v := jlushr x2 x6) C.1 C.2.1 dX10_comes_43 rfl ?_
    refine lv_lconst (v := (1 : Int64)) C.1 C.2.1 dX10_comes_44 (by decide) ?_
    refine lv_land C.1 C.2.1 dX10_comes_45 ?_
    refine lv_lconst (v := (0 : Int64)) C.1 C.2.1 dX10_comes_46 (by decide) ?_
    refine W.lcmp C.1 C.2.1 dX10_comes_47 ?_
    refine lv_if_eq (tgt := 76) C.1 C.2.1 dX10_comes_48 (by decide) (fun c48 => ?_) (fun c48 => ?_)
    · replace hh := hh.1 c48
      exact tX10_comes_b76 C hR hB28 hh hw hl
    · replace hh := hh.2 c48
      refine lv_aload_n C.1 C.2.1 dX10_comes_51 rfl (lv_at hl 0 rfl) ?_
      refine lv_iload C.1 C.2.1 dX10_comes_52 (lv_at hl 5 rfl) ?_
      refine lv_iconst (v := (1 : Int32)) C.1 C.2.1 dX10_comes_54 (by decide) ?_
      refine c_Vi C hw (ctX10_scoutRun l D h cI cL cF cM F L r x6 (1 : Int32) hh) (cwV 2 C.2.2.2.2 (gd_V w_1060 w_1062 w_37 w_114 w_1063) rfl rfl rfl cdX10_scoutRun ⟨Nat.le_of_ble_eq_true rfl, Nat.le_of_ble_eq_true rfl⟩) rfl (kd_lt kp0 (by decide)) (ce10 kp0) rfl hl.1 (Nat.le_of_ble_eq_true rfl) dX10_comes_55 ⟨Nat.zero_le _, Nat.zero_le _⟩ (fun r55 u55 H locs hh hw => ?_) rfl
      refine lv_bipush (v := (-2 : Int32)) C.1 C.2.1 dX10_comes_58 (by decide) ?_
      refine lv_icmp_ne (tgt := 76) C.1 C.2.1 dX10_comes_60 (by decide) (fun c60 => ?_) (fun c60 => ?_)
      · replace hh := hh.1 c60
        exact tX10_comes_b76 C hR hB28 hh hw hl
      · replace hh := hh.2 c60
        refine lv_iinc (v := x4 + (1 : Int32)) (lv' := [(4, .int (x4 + (1 : Int32))), (0, .ref (h 0)), (1, .int x1), (2, .long x2), (5, .int x5), (6, .int x6)]) C.1 C.2.1 dX10_comes_63 hl (k := 3) rfl rfl (by decide) rfl (fun ls hl => ?_)
        refine lv_iload C.1 C.2.1 dX10_comes_66 (lv_at hl 4 rfl) ?_
        refine lv_iconst (v := (-1 : Int32)) C.1 C.2.1 dX10_comes_68 (by decide) ?_
        refine lv_icmp_ne (tgt := 76) C.1 C.2.1 dX10_comes_69 (by decide) (fun c69 => ?_) (fun c69 => ?_)
        · replace hh := hh.1 c69
          exact tX10_comes_b76 C hR hB28 hh hw (lv_sub hl [1, 2, 3, 0, 4, 5] rfl)
        · replace hh := hh.2 c69
          refine lv_iload C.1 C.2.1 dX10_comes_72 (lv_at hl 5 rfl) ?_
          refine lv_istore (lv' := [(5, .int x6), (4, .int (x4 + (1 : Int32))), (0, .ref (h 0)), (1, .int x1), (2, .long x2), (6, .int x6)]) C.1 C.2.1 dX10_comes_74 hl (by decide) rfl (fun ls hl => ?_)
          exact tX10_comes_b76 C hR hB28 hh hw (lv_sub hl [2, 3, 4, 1, 0, 5] rfl)
def wpX10_comes_b28 (n_ : Nat) (F : Nat → Nat → Int32) (L : Nat → Nat → Int64) (r : Nat → Nat → Nat) (x1 : Int32) (x2 : Int64) (x4 : Int32) (x5 : Int32) (x6 : Int32) (K : Int32 → cS → Prop) : Prop := match n_ with
  | 0 => False
  | n + 1 => wpX10_comes_b28_body (fun F L r x1 x2 x4 x5 x6 => wpX10_comes_b28 n F L r x1 x2 x4 x5 x6 K) F L r x1 x2 x4 x5 x6 K
theorem tX10_comes_b28 {K : Int32 → cS → Prop} (C : CallFix p m c cX10_comes 7 s args wsX10_comes RX10) (hR : Rti .int p l e rmX10_comes s m args below meth c cX10_comes D A (cT cI cL cF cM) (cWu h cI cL cF cM) K Q) (n : Nat) : ∀ (F : Nat → Nat → Int32) (L : Nat → Nat → Int64) (r : Nat → Nat → Nat) (x1 : Int32) (x2 : Int64) (x4 : Int32) (x5 : Int32) (x6 : Int32) (H : Heap) (locs : List Loc) (ls : Array Slot), wpX10_comes_b28 n F L r x1 x2 x4 x5 x6 K → Wd D A s (cT cI cL cF cM) (cW h cI cL cF cM F L r) H locs → lv_has ls 7 [(0, .ref (h 0)), (1, .int x1), (2, .long x2), (4, .int x4), (5, .int x5), (6, .int x6)] → W p l e rmX10_comes s m args below meth c H locs 0 0 Q (F0 m 28 ls []) := by
  induction n with
  | zero => intro F L r x1 x2 x4 x5 x6 H locs ls hh; exact hh.elim
  | succ n ih => intro F L r x1 x2 x4 x5 x6 H locs ls hh hw hl; exact tX10_comes_b28_body C hR ih hh hw hl
def wpX10_comes_b0 (F : Nat → Nat → Int32) (L : Nat → Nat → Int64) (r : Nat → Nat → Nat) (x1 : Int32) (K : Int32 → cS → Prop) : Prop :=
  ((x1 < 0) →
    wpX10_comes_b9 F L r K) ∧
  (¬ (x1 < 0) →
    ((x1 ≤ (1 : Int32)) →
      wpX1_reach 46 F L r (fun r15 u15 =>
        ∃ n, wpX10_comes_b28 n u15.1 u15.2.1 u15.2.2 x1 r15 (0 : Int32) (-1 : Int32) (0 : Int32) K)) ∧
    (¬ (x1 ≤ (1 : Int32)) →
      wpX10_comes_b9 F L r K))
set_option maxHeartbeats 4000000 in
set_option maxRecDepth 100000 in
theorem tX10_comes_b0 {K : Int32 → cS → Prop} (C : CallFix p m c cX10_comes 7 s args wsX10_comes RX10) (hR : Rti .int p l e rmX10_comes s m args below meth c cX10_comes D A (cT cI cL cF cM) (cWu h cI cL cF cM) K Q) {F : Nat → Nat → Int32} {L : Nat → Nat → Int64} {r : Nat → Nat → Nat} {x1 : Int32} (hh : wpX10_comes_b0 F L r x1 K) {H : Heap} {locs : List Loc} {ls : Array Slot} (hw : Wd D A s (cT cI cL cF cM) (cW h cI cL cF cM F L r) H locs) (hl : lv_has ls 7 [(0, .ref (h 0)), (1, .int x1)]) : W p l e rmX10_comes s m args below meth c H locs 0 0 Q (F0 m 0 ls []) := by
  unfold wpX10_comes_b0 at hh
  refine lv_iload_n C.1 C.2.1 dX10_comes_0 rfl (lv_at hl 1 rfl) ?_
  refine lv_if_lt (tgt := 9) C.1 C.2.1 dX10_comes_1 (by decide) (fun c1 => ?_) (fun c1 => ?_)
  · replace hh := hh.1 c1
    exact tX10_comes_b9 C hR hh hw (lv_sub hl [0] rfl)
  · replace hh := hh.2 c1
    refine lv_iload_n C.1 C.2.1 dX10_comes_4 rfl (lv_at hl 1 rfl) ?_
    refine lv_iconst (v := (1 : Int32)) C.1 C.2.1 dX10_comes_5 (by decide) ?_
    refine lv_icmp_le (tgt := 11) C.1 C.2.1 dX10_comes_6 (by decide) (fun c6 => ?_) (fun c6 => ?_)
    · replace hh := hh.1 c6
      refine lv_aload_n C.1 C.2.1 dX10_comes_11 rfl (lv_at hl 0 rfl) ?_
      refine c_get C hw (inC inW10) (kd_lt kp0 (by decide)) (ce10 kp0) rfl 5 (by decide) (wc w_575) (v := .ref (h 46)) rfl dX10_comes_12 ?_
      refine c_Vl C hw (ctX1_reach l D h cI cL cF cM 46 kp46 F L r hh) (cwV 0 C.2.2.2.2 (gd_V w_1052 w_1053 w_1054 w_120 w_1055) rfl rfl rfl cdX1_reach ⟨Nat.le_of_ble_eq_true rfl, Nat.le_of_ble_eq_true rfl⟩) rfl (kd_lt kp46 (by decide)) (ce1 kp46) rfl hl.1 (Nat.le_of_ble_eq_true rfl) dX10_comes_15 ⟨Nat.zero_le _, Nat.zero_le _⟩ (fun r15 u15 H locs hh hw => ?_) rfl
      refine lv_lstore_n (lv' := [(2, .long r15), (0, .ref (h 0)), (1, .int x1)]) C.1 C.2.1 dX10_comes_18 rfl hl (by decide) rfl (fun ls hl => ?_)
      refine lv_iconst (v := (0 : Int32)) C.1 C.2.1 dX10_comes_19 (by decide) ?_
      refine lv_istore (lv' := [(4, .int (0 : Int32)), (2, .long r15), (0, .ref (h 0)), (1, .int x1)]) C.1 C.2.1 dX10_comes_20 hl (by decide) rfl (fun ls hl => ?_)
      refine lv_iconst (v := (-1 : Int32)) C.1 C.2.1 dX10_comes_22 (by decide) ?_
      refine lv_istore (lv' := [(5, .int (-1 : Int32)), (4, .int (0 : Int32)), (2, .long r15), (0, .ref (h 0)), (1, .int x1)]) C.1 C.2.1 dX10_comes_23 hl (by decide) rfl (fun ls hl => ?_)
      refine lv_iconst (v := (0 : Int32)) C.1 C.2.1 dX10_comes_25 (by decide) ?_
      refine lv_istore (lv' := [(6, .int (0 : Int32)), (5, .int (-1 : Int32)), (4, .int (0 : Int32)), (2, .long r15), (0, .ref (h 0)), (1, .int x1)]) C.1 C.2.1 dX10_comes_26 hl (by decide) rfl (fun ls hl => ?_)
      obtain ⟨n, hh⟩ := hh
      exact tX10_comes_b28 C hR n _ _ _ _ _ _ _ _ _ _ _ hh hw (lv_sub hl [4, 5, 3, 2, 1, 0] rfl)
    · replace hh := hh.2 c6
      exact tX10_comes_b9 C hR hh hw (lv_sub hl [0] rfl)
def wpX10_comes (F : Nat → Nat → Int32) (L : Nat → Nat → Int64) (r : Nat → Nat → Nat) (x1 : Int32) (K : Int32 → cS → Prop) : Prop := wpX10_comes_b0 F L r x1 K
theorem ctX10_comes (l : Launch) (D : va_G) (h : Nat → Nat) (cI cL cF cM : ClassId) (F : Nat → Nat → Int32) (L : Nat → Nat → Int64) (r : Nat → Nat → Nat) (x1 : Int32) {K : Int32 → cS → Prop} (hh : wpX10_comes F L r x1 K) : Ci l yX10_comes wsX10_comes rmX10_comes [.ref (h 0), .int x1] D (cT cI cL cF cM) (cWu h cI cL cF cM) (F, L, r) K := by
  refine Ci_of (cc := cX10_comes) (maxL := 7) (by decide) rfl (Nat.le_of_ble_eq_true rfl) ?_
  intro p e s m below meth c A Q C hw hR ls hl
  exact tX10_comes_b0 C hR hh hw hl
theorem cdX10_comes : yX10_comes.cls = RX10 ∧ yX10_comes.cls ≠ "java/lang/invoke/MethodHandle" ∧ yX10_comes.cls ≠ "java/lang/invoke/VarHandle" ∧ (parseMethodDescriptor yX10_comes.desc).map (fun d => d.parameters.length) = some 1 := by decide +kernel
abbrev rmX10_second : Room := { frames := 5, cells := 0, slots := 0, locals := 115 }
def wpX10_second_b20 (F : Nat → Nat → Int32) (L : Nat → Nat → Int64) (r : Nat → Nat → Nat) (K : Int32 → cS → Prop) : Prop :=
  K (-1 : Int32) (F, L, r)
set_option maxHeartbeats 4000000 in
set_option maxRecDepth 100000 in
theorem tX10_second_b20 {K : Int32 → cS → Prop} (C : CallFix p m c cX10_second 5 s args wsX10_second RX10) (hR : Rti .int p l e rmX10_second s m args below meth c cX10_second D A (cT cI cL cF cM) (cWu h cI cL cF cM) K Q) {F : Nat → Nat → Int32} {L : Nat → Nat → Int64} {r : Nat → Nat → Nat} (hh : wpX10_second_b20 F L r K) {H : Heap} {locs : List Loc} {ls : Array Slot} (hw : Wd D A s (cT cI cL cF cM) (cW h cI cL cF cM F L r) H locs) (hl : lv_has ls 5 [(0, .ref (h 0))]) : W p l e rmX10_second s m args below meth c H locs 0 0 Q (F0 m 20 ls []) := by
  unfold wpX10_second_b20 at hh
  refine lv_iconst (v := (-1 : Int32)) C.1 C.2.1 dX10_second_20 (by decide) ?_
  exact hR _ _ _ (F, L, r) _ _ dX10_second_21 rfl hh hw
def wpX10_second_b89 (F : Nat → Nat → Int32) (L : Nat → Nat → Int64) (r : Nat → Nat → Nat) (k0 : Int32) (K : Int32 → cS → Prop) : Prop :=
  K k0 (F, L, r)
set_option maxHeartbeats 4000000 in
set_option maxRecDepth 100000 in
theorem tX10_second_b89 {K : Int32 → cS → Prop} (C : CallFix p m c cX10_second 5 s args wsX10_second RX10) (hR : Rti .int p l e rmX10_second s m args below meth c cX10_second D A (cT cI cL cF cM) (cWu h cI cL cF cM) K Q) {F : Nat → Nat → Int32} {L : Nat → Nat → Int64} {r : Nat → Nat → Nat} {k0 : Int32} (hh : wpX10_second_b89 F L r k0 K) {H : Heap} {locs : List Loc} {ls : Array Slot} (hw : Wd D A s (cT cI cL cF cM) (cW h cI cL cF cM F L r) H locs) (hl : lv_has ls 5 [(0, .ref (h 0))]) : W p l e rmX10_second s m args below meth c H locs 0 0 Q (F0 m 89 ls [.int k0]) := by
  unfold wpX10_second_b89 at hh
  exact hR _ _ _ (F, L, r) _ _ dX10_second_89 rfl hh hw
def wpX10_second_b64 (F : Nat → Nat → Int32) (L : Nat → Nat → Int64) (r : Nat → Nat → Nat) (x2 : Int32) (x3 : Int32) (K : Int32 → cS → Prop) : Prop :=
  (¬ (x3 = (-2 : Int32)) →
    (((2 : Int32) ≤ x2) →
      wpX10_second_b89 F L r (F 84 7) K) ∧
    (¬ ((2 : Int32) ≤ x2) →
      wpX10_second_b89 F L r x3 K)) ∧
  ((x3 = (-2 : Int32)) →
    K (-2 : Int32) (F, L, r))
set_option maxHeartbeats 4000000 in
set_option maxRecDepth 100000 in
theorem tX10_second_b64 {K : Int32 → cS → Prop} (C : CallFix p m c cX10_second 5 s args wsX10_second RX10) (hR : Rti .int p l e rmX10_second s m args below meth c cX10_second D A (cT cI cL cF cM) (cWu h cI cL cF cM) K Q) {F : Nat → Nat → Int32} {L : Nat → Nat → Int64} {r : Nat → Nat → Nat} {x2 : Int32} {x3 : Int32} (hh : wpX10_second_b64 F L r x2 x3 K) {H : Heap} {locs : List Loc} {ls : Array Slot} (hw : Wd D A s (cT cI cL cF cM) (cW h cI cL cF cM F L r) H locs) (hl : lv_has ls 5 [(0, .ref (h 0)), (2, .int x2), (3, .int x3)]) : W p l e rmX10_second s m args below meth c H locs 0 0 Q (F0 m 64 ls []) := by
  unfold wpX10_second_b64 at hh
  refine lv_iload_n C.1 C.2.1 dX10_second_64 rfl (lv_at hl 2 rfl) ?_
  refine lv_bipush (v := (-2 : Int32)) C.1 C.2.1 dX10_second_65 (by decide) ?_
  refine lv_icmp_ne (tgt := 73) C.1 C.2.1 dX10_second_67 (by decide) (fun c67 => ?_) (fun c67 => ?_)
  · replace hh := hh.1 c67
    refine lv_iload_n C.1 C.2.1 dX10_second_73 rfl (lv_at hl 1 rfl) ?_
    refine lv_iconst (v := (2 : Int32)) C.1 C.2.1 dX10_second_74 (by decide) ?_
    refine lv_icmp_ge (tgt := 82) C.1 C.2.1 dX10_second_75 (by decide) (fun c75 => ?_) (fun c75 => ?_)
    · replace hh := hh.1 c75
      refine lv_aload_n C.1 C.2.1 dX10_second_82 rfl (lv_at hl 0 rfl) ?_
      refine c_get C hw (inC inW10) (kd_lt kp0 (by decide)) (ce10 kp0) rfl 12 (by decide) (wc w_582) (v := .ref (h 84)) rfl dX10_second_83 ?_
      refine c_get C hw (inC inW3) (kd_lt kp84 (by decide)) (ce3 kp84) rfl 7 (by decide) (wc w_408) (v := .int (F 84 7)) rfl dX10_second_86 ?_
      exact tX10_second_b89 C hR hh hw (lv_sub hl [0] rfl)
    · replace hh := hh.2 c75
      refine lv_iload_n C.1 C.2.1 dX10_second_78 rfl (lv_at hl 2 rfl) ?_
      refine lv_goto (tgt := 89) C.1 C.2.1 dX10_second_79 (by decide) ?_
      exact tX10_second_b89 C hR hh hw (lv_sub hl [0] rfl)
  · replace hh := hh.2 c67
    refine lv_bipush (v := (-2 : Int32)) C.1 C.2.1 dX10_second_70 (by decide) ?_
    exact hR _ _ _ (F, L, r) _ _ dX10_second_72 rfl hh hw
def wpX10_second_b44 (F : Nat → Nat → Int32) (L : Nat → Nat → Int64) (r : Nat → Nat → Nat) (k0 : Int32) (x1 : Int32) (x2 : Int32) (x3 : Int32) (K : Int32 → cS → Prop) : Prop :=
  ((k0 = 0) →
    wpX10_second_b64 F L r x2 x3 K) ∧
  (¬ (k0 = 0) →
    ((x3 = (-2 : Int32)) →
      wpX10_second_b64 F L r x2 x3 K) ∧
    (¬ (x3 = (-2 : Int32)) →
      wpX10_scoutRun F L r x1 (0 : Int32) (fun r60 u60 =>
        wpX10_second_b64 u60.1 u60.2.1 u60.2.2 x2 r60 K)))
set_option maxHeartbeats 4000000 in
set_option maxRecDepth 100000 in
theorem tX10_second_b44 {K : Int32 → cS → Prop} (C : CallFix p m c cX10_second 5 s args wsX10_second RX10) (hR : Rti .int p l e rmX10_second s m args below meth c cX10_second D A (cT cI cL cF cM) (cWu h cI cL cF cM) K Q) {F : Nat → Nat → Int32} {L : Nat → Nat → Int64} {r : Nat → Nat → Nat} {k0 : Int32} {x1 : Int32} {x2 : Int32} {x3 : Int32} (hh : wpX10_second_b44 F L r k0 x1 x2 x3 K) {H : Heap} {locs : List Loc} {ls : Array Slot} (hw : Wd D A s (cT cI cL cF cM) (cW h cI cL cF cM F L r) H locs) (hl : lv_has ls 5 [(0, .ref (h 0)), (1, .int x1), (2, .int x2), (3, .int x3)]) : W p l e rmX10_second s m args below meth c H locs 0 0 Q (F0 m 44 ls [.int k0]) := by
  unfold wpX10_second_b44 at hh
  refine lv_istore (lv' := [(4, .int k0), (0, .ref (h 0)), (1, .int x1), (2, .int x2), (3, .int x3)]) C.1 C.2.1 dX10_second_44 hl (by decide) rfl (fun ls hl => ?_)
  refine lv_iload C.1 C.2.1 dX10_second_46 (lv_at hl 0 rfl) ?_
  refine lv_if_eq (tgt := 64) C.1 C.2.1 dX10_second_48 (by decide) (fun c48 => ?_) (fun c48 => ?_)
  · replace hh := hh.1 c48
    exact tX10_second_b64 C hR hh hw (lv_sub hl [1, 3, 4] rfl)
  · replace hh := hh.2 c48
    refine lv_iload_n C.1 C.2.1 dX10_second_51 rfl (lv_at hl 4 rfl) ?_
    refine lv_bipush (v := (-2 : Int32)) C.1 C.2.1 dX10_second_52 (by decide) ?_
    refine lv_icmp_eq (tgt := 64) C.1 C.2.1 dX10_second_54 (by decide) (fun c54 => ?_) (fun c54 => ?_)
    · replace hh := hh.1 c54
      exact tX10_second_b64 C hR hh hw (lv_sub hl [1, 3, 4] rfl)
    · replace hh := hh.2 c54
      refine lv_aload_n C.1 C.2.1 dX10_second_57 rfl (lv_at hl 1 rfl) ?_
      refine lv_iload_n C.1 C.2.1 dX10_second_58 rfl (lv_at hl 2 rfl) ?_
      refine lv_iconst (v := (0 : Int32)) C.1 C.2.1 dX10_second_59 (by decide) ?_
      refine c_Vi C hw (ctX10_scoutRun l D h cI cL cF cM F L r x1 (0 : Int32) hh) (cwV 2 C.2.2.2.2 (gd_V w_1060 w_1062 w_37 w_114 w_1063) rfl rfl rfl cdX10_scoutRun ⟨Nat.le_of_ble_eq_true rfl, Nat.le_of_ble_eq_true rfl⟩) rfl (kd_lt kp0 (by decide)) (ce10 kp0) rfl hl.1 (Nat.le_of_ble_eq_true rfl) dX10_second_60 ⟨Nat.zero_le _, Nat.zero_le _⟩ (fun r60 u60 H locs hh hw => ?_) rfl
      refine lv_istore_n (lv' := [(3, .int r60), (4, .int k0), (0, .ref (h 0)), (1, .int x1), (2, .int x2)]) C.1 C.2.1 dX10_second_63 rfl hl (by decide) rfl (fun ls hl => ?_)
      exact tX10_second_b64 C hR hh hw (lv_sub hl [2, 4, 0] rfl)
def wpX10_second_b39 (F : Nat → Nat → Int32) (L : Nat → Nat → Int64) (r : Nat → Nat → Nat) (x1 : Int32) (x2 : Int32) (x3 : Int32) (K : Int32 → cS → Prop) : Prop :=
  wpX10_second_b44 F L r (1 : Int32) x1 x2 x3 K
set_option maxHeartbeats 4000000 in
set_option maxRecDepth 100000 in
theorem tX10_second_b39 {K : Int32 → cS → Prop} (C : CallFix p m c cX10_second 5 s args wsX10_second RX10) (hR : Rti .int p l e rmX10_second s m args below meth c cX10_second D A (cT cI cL cF cM) (cWu h cI cL cF cM) K Q) {F : Nat → Nat → Int32} {L : Nat → Nat → Int64} {r : Nat → Nat → Nat} {x1 : Int32} {x2 : Int32} {x3 : Int32} (hh : wpX10_second_b39 F L r x1 x2 x3 K) {H : Heap} {locs : List Loc} {ls : Array Slot} (hw : Wd D A s (cT cI cL cF cM) (cW h cI cL cF cM F L r) H locs) (hl : lv_has ls 5 [(0, .ref (h 0)), (1, .int x1), (2, .int x2), (3, .int x3)]) : W p l e rmX10_second s m args below meth c H locs 0 0 Q (F0 m 39 ls []) := by
  unfold wpX10_second_b39 at hh
  refine lv_iconst (v := (1 : Int32)) C.1 C.2.1 dX10_second_39 (by decide) ?_
  refine lv_goto (tgt := 44) C.1 C.2.1 dX10_second_40 (by decide) ?_
  exact tX10_second_b44 C hR hh hw hl
def wpX10_second_b0 (F : Nat → Nat → Int32) (L : Nat → Nat → Int64) (r : Nat → Nat → Nat) (x1 : Int32) (x2 : Int32) (K : Int32 → cS → Prop) : Prop :=
  wpX1_has 46 F L r x1 (fun r5 u5 =>
    ((r5 = 0) →
    wpX10_second_b20 u5.1 u5.2.1 u5.2.2 K) ∧
  (¬ (r5 = 0) →
    ((x2 < 0) →
      wpX10_second_b20 u5.1 u5.2.1 u5.2.2 K) ∧
    (¬ (x2 < 0) →
      ((x2 ≤ (3 : Int32)) →
        wpX10_scoutRun u5.1 u5.2.1 u5.2.2 x1 (1 : Int32) (fun r25 u25 =>
          ((x2 = (1 : Int32)) →
          wpX10_second_b39 u25.1 u25.2.1 u25.2.2 x1 x2 r25 K) ∧
        (¬ (x2 = (1 : Int32)) →
          (¬ (x2 = (3 : Int32)) →
            wpX10_second_b44 u25.1 u25.2.1 u25.2.2 (0 : Int32) x1 x2 r25 K) ∧
          ((x2 = (3 : Int32)) →
            wpX10_second_b39 u25.1 u25.2.1 u25.2.2 x1 x2 r25 K)))) ∧
      (¬ (x2 ≤ (3 : Int32)) →
        wpX10_second_b20 u5.1 u5.2.1 u5.2.2 K))))
set_option maxHeartbeats 4000000 in
set_option maxRecDepth 100000 in
theorem tX10_second_b0 {K : Int32 → cS → Prop} (C : CallFix p m c cX10_second 5 s args wsX10_second RX10) (hR : Rti .int p l e rmX10_second s m args below meth c cX10_second D A (cT cI cL cF cM) (cWu h cI cL cF cM) K Q) {F : Nat → Nat → Int32} {L : Nat → Nat → Int64} {r : Nat → Nat → Nat} {x1 : Int32} {x2 : Int32} (hh : wpX10_second_b0 F L r x1 x2 K) {H : Heap} {locs : List Loc} {ls : Array Slot} (hw : Wd D A s (cT cI cL cF cM) (cW h cI cL cF cM F L r) H locs) (hl : lv_has ls 5 [(0, .ref (h 0)), (1, .int x1), (2, .int x2)]) : W p l e rmX10_second s m args below meth c H locs 0 0 Q (F0 m 0 ls []) := by
  unfold wpX10_second_b0 at hh
  refine lv_aload_n C.1 C.2.1 dX10_second_0 rfl (lv_at hl 0 rfl) ?_
  refine c_get C hw (inC inW10) (kd_lt kp0 (by decide)) (ce10 kp0) rfl 5 (by decide) (wc w_575) (v := .ref (h 46)) rfl dX10_second_1 ?_
  refine lv_iload_n C.1 C.2.1 dX10_second_4 rfl (lv_at hl 1 rfl) ?_
  refine c_Vi C hw (ctX1_has l D h cI cL cF cM 46 kp46 F L r x1 hh) (cwV 1 C.2.2.2.2 (gd_V w_937 w_938 w_939 w_120 w_940) rfl rfl rfl cdX1_has ⟨Nat.le_of_ble_eq_true rfl, Nat.le_of_ble_eq_true rfl⟩) rfl (kd_lt kp46 (by decide)) (ce1 kp46) rfl hl.1 (Nat.le_of_ble_eq_true rfl) dX10_second_5 ⟨Nat.zero_le _, Nat.zero_le _⟩ (fun r5 u5 H locs hh hw => ?_) rfl
  refine lv_if_eq (tgt := 20) C.1 C.2.1 dX10_second_8 (by decide) (fun c8 => ?_) (fun c8 => ?_)
  · replace hh := hh.1 c8
    exact tX10_second_b20 C hR hh hw (lv_sub hl [0] rfl)
  · replace hh := hh.2 c8
    refine lv_iload_n C.1 C.2.1 dX10_second_11 rfl (lv_at hl 2 rfl) ?_
    refine lv_if_lt (tgt := 20) C.1 C.2.1 dX10_second_12 (by decide) (fun c12 => ?_) (fun c12 => ?_)
    · replace hh := hh.1 c12
      exact tX10_second_b20 C hR hh hw (lv_sub hl [0] rfl)
    · replace hh := hh.2 c12
      refine lv_iload_n C.1 C.2.1 dX10_second_15 rfl (lv_at hl 2 rfl) ?_
      refine lv_iconst (v := (3 : Int32)) C.1 C.2.1 dX10_second_16 (by decide) ?_
      refine lv_icmp_le (tgt := 22) C.1 C.2.1 dX10_second_17 (by decide) (fun c17 => ?_) (fun c17 => ?_)
      · replace hh := hh.1 c17
        refine lv_aload_n C.1 C.2.1 dX10_second_22 rfl (lv_at hl 0 rfl) ?_
        refine lv_iload_n C.1 C.2.1 dX10_second_23 rfl (lv_at hl 1 rfl) ?_
        refine lv_iconst (v := (1 : Int32)) C.1 C.2.1 dX10_second_24 (by decide) ?_
        refine c_Vi C hw (ctX10_scoutRun l D h cI cL cF cM u5.1 u5.2.1 u5.2.2 x1 (1 : Int32) hh) (cwV 2 C.2.2.2.2 (gd_V w_1060 w_1062 w_37 w_114 w_1063) rfl rfl rfl cdX10_scoutRun ⟨Nat.le_of_ble_eq_true rfl, Nat.le_of_ble_eq_true rfl⟩) rfl (kd_lt kp0 (by decide)) (ce10 kp0) rfl hl.1 (Nat.le_of_ble_eq_true rfl) dX10_second_25 ⟨Nat.zero_le _, Nat.zero_le _⟩ (fun r25 u25 H locs hh hw => ?_) rfl
        refine lv_istore_n (lv' := [(3, .int r25), (0, .ref (h 0)), (1, .int x1), (2, .int x2)]) C.1 C.2.1 dX10_second_28 rfl hl (by decide) rfl (fun ls hl => ?_)
        refine lv_iload_n C.1 C.2.1 dX10_second_29 rfl (lv_at hl 3 rfl) ?_
        refine lv_iconst (v := (1 : Int32)) C.1 C.2.1 dX10_second_30 (by decide) ?_
        refine lv_icmp_eq (tgt := 39) C.1 C.2.1 dX10_second_31 (by decide) (fun c31 => ?_) (fun c31 => ?_)
        · replace hh := hh.1 c31
          exact tX10_second_b39 C hR hh hw (lv_sub hl [1, 2, 3, 0] rfl)
        · replace hh := hh.2 c31
          refine lv_iload_n C.1 C.2.1 dX10_second_34 rfl (lv_at hl 3 rfl) ?_
          refine lv_iconst (v := (3 : Int32)) C.1 C.2.1 dX10_second_35 (by decide) ?_
          refine lv_icmp_ne (tgt := 43) C.1 C.2.1 dX10_second_36 (by decide) (fun c36 => ?_) (fun c36 => ?_)
          · replace hh := hh.1 c36
            refine lv_iconst (v := (0 : Int32)) C.1 C.2.1 dX10_second_43 (by decide) ?_
            exact tX10_second_b44 C hR hh hw (lv_sub hl [1, 2, 3, 0] rfl)
          · replace hh := hh.2 c36
            exact tX10_second_b39 C hR hh hw (lv_sub hl [1, 2, 3, 0] rfl)
      · replace hh := hh.2 c17
        exact tX10_second_b20 C hR hh hw (lv_sub hl [0] rfl)
def wpX10_second (F : Nat → Nat → Int32) (L : Nat → Nat → Int64) (r : Nat → Nat → Nat) (x1 : Int32) (x2 : Int32) (K : Int32 → cS → Prop) : Prop := wpX10_second_b0 F L r x1 x2 K
theorem ctX10_second (l : Launch) (D : va_G) (h : Nat → Nat) (cI cL cF cM : ClassId) (F : Nat → Nat → Int32) (L : Nat → Nat → Int64) (r : Nat → Nat → Nat) (x1 : Int32) (x2 : Int32) {K : Int32 → cS → Prop} (hh : wpX10_second F L r x1 x2 K) : Ci l yX10_second wsX10_second rmX10_second [.ref (h 0), .int x1, .int x2] D (cT cI cL cF cM) (cWu h cI cL cF cM) (F, L, r) K := by
  refine Ci_of (cc := cX10_second) (maxL := 5) (by decide) rfl (Nat.le_of_ble_eq_true rfl) ?_
  intro p e s m below meth c A Q C hw hR ls hl
  exact tX10_second_b0 C hR hh hw hl
theorem cdX10_second : yX10_second.cls = RX10 ∧ yX10_second.cls ≠ "java/lang/invoke/MethodHandle" ∧ yX10_second.cls ≠ "java/lang/invoke/VarHandle" ∧ (parseMethodDescriptor yX10_second.desc).map (fun d => d.parameters.length) = some 2 := by decide +kernel
abbrev rmX8_isSmall : Room := { frames := 0, cells := 0, slots := 0, locals := 0 }
def wpX8_isSmall_b25 (k0 : Int32) (K : Int32 → Unit → Prop) : Prop :=
  isB k0 ∧ K k0 ()
set_option maxHeartbeats 4000000 in
set_option maxRecDepth 100000 in
theorem tX8_isSmall_b25 {K : Int32 → Unit → Prop} (C : CallFix p m c cX8_isSmall 2 s args wsX8_isSmall RX8) (hR : Rti .boolean p l e rmX8_isSmall s m args below meth c cX8_isSmall D A [] (fun _ : Unit => []) K Q) {k0 : Int32} (hh : wpX8_isSmall_b25 k0 K) {H : Heap} {locs : List Loc} {ls : Array Slot} (hw : Wd D A s [] [] H locs) (hl : lv_has ls 2 []) : W p l e rmX8_isSmall s m args below meth c H locs 0 0 Q (F0 m 25 ls [.int k0]) := by
  unfold wpX8_isSmall_b25 at hh
  obtain ⟨hb25, hh⟩ := hh
  exact hR _ _ _ () _ _ dX8_isSmall_25 (isB_nar hb25) hh hw
def wpX8_isSmall_b24 (K : Int32 → Unit → Prop) : Prop :=
  wpX8_isSmall_b25 (0 : Int32) K
set_option maxHeartbeats 4000000 in
set_option maxRecDepth 100000 in
theorem tX8_isSmall_b24 {K : Int32 → Unit → Prop} (C : CallFix p m c cX8_isSmall 2 s args wsX8_isSmall RX8) (hR : Rti .boolean p l e rmX8_isSmall s m args below meth c cX8_isSmall D A [] (fun _ : Unit => []) K Q) (hh : wpX8_isSmall_b24  K) {H : Heap} {locs : List Loc} {ls : Array Slot} (hw : Wd D A s [] [] H locs) (hl : lv_has ls 2 []) : W p l e rmX8_isSmall s m args below meth c H locs 0 0 Q (F0 m 24 ls []) := by
  unfold wpX8_isSmall_b24 at hh
  refine lv_iconst (v := (0 : Int32)) C.1 C.2.1 dX8_isSmall_24 (by decide) ?_
  exact tX8_isSmall_b25 C hR hh hw hl
def wpX8_isSmall_b0 (x0 : Int32) (x1 : Int32) (K : Int32 → Unit → Prop) : Prop :=
  ((x0 < (2 : Int32)) →
    wpX8_isSmall_b24  K) ∧
  (¬ (x0 < (2 : Int32)) →
    (((3 : Int32) < x0) →
      wpX8_isSmall_b24  K) ∧
    (¬ ((3 : Int32) < x0) →
      ((x1 < (2 : Int32)) →
        wpX8_isSmall_b24  K) ∧
      (¬ (x1 < (2 : Int32)) →
        (((3 : Int32) < x1) →
          wpX8_isSmall_b24  K) ∧
        (¬ ((3 : Int32) < x1) →
          wpX8_isSmall_b25 (1 : Int32) K))))
set_option maxHeartbeats 4000000 in
set_option maxRecDepth 100000 in
theorem tX8_isSmall_b0 {K : Int32 → Unit → Prop} (C : CallFix p m c cX8_isSmall 2 s args wsX8_isSmall RX8) (hR : Rti .boolean p l e rmX8_isSmall s m args below meth c cX8_isSmall D A [] (fun _ : Unit => []) K Q) {x0 : Int32} {x1 : Int32} (hh : wpX8_isSmall_b0 x0 x1 K) {H : Heap} {locs : List Loc} {ls : Array Slot} (hw : Wd D A s [] [] H locs) (hl : lv_has ls 2 [(0, .int x0), (1, .int x1)]) : W p l e rmX8_isSmall s m args below meth c H locs 0 0 Q (F0 m 0 ls []) := by
  unfold wpX8_isSmall_b0 at hh
  refine lv_iload_n C.1 C.2.1 dX8_isSmall_0 rfl (lv_at hl 0 rfl) ?_
  refine lv_iconst (v := (2 : Int32)) C.1 C.2.1 dX8_isSmall_1 (by decide) ?_
  refine lv_icmp_lt (tgt := 24) C.1 C.2.1 dX8_isSmall_2 (by decide) (fun c2 => ?_) (fun c2 => ?_)
  · replace hh := hh.1 c2
    exact tX8_isSmall_b24 C hR hh hw (lv_sub hl [] rfl)
  · replace hh := hh.2 c2
    refine lv_iload_n C.1 C.2.1 dX8_isSmall_5 rfl (lv_at hl 0 rfl) ?_
    refine lv_iconst (v := (3 : Int32)) C.1 C.2.1 dX8_isSmall_6 (by decide) ?_
    refine lv_icmp_gt (tgt := 24) C.1 C.2.1 dX8_isSmall_7 (by decide) (fun c7 => ?_) (fun c7 => ?_)
    · replace hh := hh.1 c7
      exact tX8_isSmall_b24 C hR hh hw (lv_sub hl [] rfl)
    · replace hh := hh.2 c7
      refine lv_iload_n C.1 C.2.1 dX8_isSmall_10 rfl (lv_at hl 1 rfl) ?_
      refine lv_iconst (v := (2 : Int32)) C.1 C.2.1 dX8_isSmall_11 (by decide) ?_
      refine lv_icmp_lt (tgt := 24) C.1 C.2.1 dX8_isSmall_12 (by decide) (fun c12 => ?_) (fun c12 => ?_)
      · replace hh := hh.1 c12
        exact tX8_isSmall_b24 C hR hh hw (lv_sub hl [] rfl)
      · replace hh := hh.2 c12
        refine lv_iload_n C.1 C.2.1 dX8_isSmall_15 rfl (lv_at hl 1 rfl) ?_
        refine lv_iconst (v := (3 : Int32)) C.1 C.2.1 dX8_isSmall_16 (by decide) ?_
        refine lv_icmp_gt (tgt := 24) C.1 C.2.1 dX8_isSmall_17 (by decide) (fun c17 => ?_) (fun c17 => ?_)
        · replace hh := hh.1 c17
          exact tX8_isSmall_b24 C hR hh hw (lv_sub hl [] rfl)
        · replace hh := hh.2 c17
          refine lv_iconst (v := (1 : Int32)) C.1 C.2.1 dX8_isSmall_20 (by decide) ?_
          refine lv_goto (tgt := 25) C.1 C.2.1 dX8_isSmall_21 (by decide) ?_
          exact tX8_isSmall_b25 C hR hh hw (lv_sub hl [] rfl)
def wpX8_isSmall (x0 : Int32) (x1 : Int32) (K : Int32 → Unit → Prop) : Prop := wpX8_isSmall_b0  x0 x1 K
theorem ctX8_isSmall (l : Launch) (D : va_G) (x0 : Int32) (x1 : Int32) {K : Int32 → Unit → Prop} (hh : wpX8_isSmall x0 x1 K) : Ci l yX8_isSmall wsX8_isSmall rmX8_isSmall [.int x0, .int x1] D [] (fun _ : Unit => []) () K := by
  refine Ci_of (cc := cX8_isSmall) (maxL := 2) (by decide) rfl (Nat.le_of_ble_eq_true rfl) ?_
  intro p e s m below meth c A Q C hw hR ls hl
  exact tX8_isSmall_b0 C hR hh hw hl
theorem cdX8_isSmall : yX8_isSmall.cls ≠ "java/lang/invoke/MethodHandle" ∧ yX8_isSmall.cls ≠ "java/lang/invoke/VarHandle" ∧ (parseMethodDescriptor yX8_isSmall.desc).map (fun d => d.parameters.length) = some 2 := by decide +kernel
abbrev rmX8_sizeOf : Room := { frames := 1, cells := 0, slots := 0, locals := 21 }
def wpX8_sizeOf_b21 (k0 : Int32) (K : Int32 → Unit → Prop) : Prop :=
  K k0 ()
set_option maxHeartbeats 4000000 in
set_option maxRecDepth 100000 in
theorem tX8_sizeOf_b21 {K : Int32 → Unit → Prop} (C : CallFix p m c cX8_sizeOf 2 s args wsX8_sizeOf RX8) (hR : Rti .int p l e rmX8_sizeOf s m args below meth c cX8_sizeOf D A [] (fun _ : Unit => []) K Q) {k0 : Int32} (hh : wpX8_sizeOf_b21 k0 K) {H : Heap} {locs : List Loc} {ls : Array Slot} (hw : Wd D A s [] [] H locs) (hl : lv_has ls 2 []) : W p l e rmX8_sizeOf s m args below meth c H locs 0 0 Q (F0 m 21 ls [.int k0]) := by
  unfold wpX8_sizeOf_b21 at hh
  exact hR _ _ _ () _ _ dX8_sizeOf_21 rfl hh hw
def wpX8_sizeOf_b0 (x0 : Int32) (x1 : Int32) (K : Int32 → Unit → Prop) : Prop :=
  wpX8_isSmall x0 x1 (fun r2 u2 =>
    ((r2 = 0) →
    wpX8_sizeOf_b21 (0 : Int32) K) ∧
  (¬ (r2 = 0) →
    wpX8_sizeOf_b21 ((((x0 - (2 : Int32)) * (2 : Int32)) + x1) - (2 : Int32)) K))
set_option maxHeartbeats 4000000 in
set_option maxRecDepth 100000 in
theorem tX8_sizeOf_b0 {K : Int32 → Unit → Prop} (C : CallFix p m c cX8_sizeOf 2 s args wsX8_sizeOf RX8) (hR : Rti .int p l e rmX8_sizeOf s m args below meth c cX8_sizeOf D A [] (fun _ : Unit => []) K Q) {x0 : Int32} {x1 : Int32} (hh : wpX8_sizeOf_b0 x0 x1 K) {H : Heap} {locs : List Loc} {ls : Array Slot} (hw : Wd D A s [] [] H locs) (hl : lv_has ls 2 [(0, .int x0), (1, .int x1)]) : W p l e rmX8_sizeOf s m args below meth c H locs 0 0 Q (F0 m 0 ls []) := by
  unfold wpX8_sizeOf_b0 at hh
  refine lv_iload_n C.1 C.2.1 dX8_sizeOf_0 rfl (lv_at hl 0 rfl) ?_
  refine lv_iload_n C.1 C.2.1 dX8_sizeOf_1 rfl (lv_at hl 1 rfl) ?_
  refine wd_Si C hw (ctX8_isSmall l D x0 x1 hh) (va_cwS 2 C.2.2.2.2 (gd_S w_1083 w_1074 (ini_cls rfl w_123) w_1075) rfl rfl rfl cdX8_isSmall ⟨Nat.le_of_ble_eq_true rfl, Nat.le_of_ble_eq_true rfl⟩) rfl hl.1 (Nat.le_of_ble_eq_true rfl) dX8_sizeOf_2 ⟨Nat.zero_le _, Nat.zero_le _⟩ (fun r2 H locs hh hw => ?_) rfl
  refine lv_if_eq (tgt := 20) C.1 C.2.1 dX8_sizeOf_5 (by decide) (fun c5 => ?_) (fun c5 => ?_)
  · replace hh := hh.1 c5
    refine lv_iconst (v := (0 : Int32)) C.1 C.2.1 dX8_sizeOf_20 (by decide) ?_
    exact tX8_sizeOf_b21 C hR hh hw (lv_sub hl [] rfl)
  · replace hh := hh.2 c5
    refine lv_iload_n C.1 C.2.1 dX8_sizeOf_8 rfl (lv_at hl 0 rfl) ?_
    refine lv_iconst (v := (2 : Int32)) C.1 C.2.1 dX8_sizeOf_9 (by decide) ?_
    refine lv_isub C.1 C.2.1 dX8_sizeOf_10 ?_
    refine lv_iconst (v := (2 : Int32)) C.1 C.2.1 dX8_sizeOf_11 (by decide) ?_
    refine lv_imul C.1 C.2.1 dX8_sizeOf_12 ?_
    refine lv_iload_n C.1 C.2.1 dX8_sizeOf_13 rfl (lv_at hl 1 rfl) ?_
    refine lv_iadd C.1 C.2.1 dX8_sizeOf_14 ?_
    refine lv_iconst (v := (2 : Int32)) C.1 C.2.1 dX8_sizeOf_15 (by decide) ?_
    refine lv_isub C.1 C.2.1 dX8_sizeOf_16 ?_
    refine lv_goto (tgt := 21) C.1 C.2.1 dX8_sizeOf_17 (by decide) ?_
    exact tX8_sizeOf_b21 C hR hh hw (lv_sub hl [] rfl)
def wpX8_sizeOf (x0 : Int32) (x1 : Int32) (K : Int32 → Unit → Prop) : Prop := wpX8_sizeOf_b0  x0 x1 K
theorem ctX8_sizeOf (l : Launch) (D : va_G) (x0 : Int32) (x1 : Int32) {K : Int32 → Unit → Prop} (hh : wpX8_sizeOf x0 x1 K) : Ci l yX8_sizeOf wsX8_sizeOf rmX8_sizeOf [.int x0, .int x1] D [] (fun _ : Unit => []) () K := by
  refine Ci_of (cc := cX8_sizeOf) (maxL := 2) (by decide) rfl (Nat.le_of_ble_eq_true rfl) ?_
  intro p e s m below meth c A Q C hw hR ls hl
  exact tX8_sizeOf_b0 C hR hh hw hl
theorem cdX8_sizeOf : yX8_sizeOf.cls ≠ "java/lang/invoke/MethodHandle" ∧ yX8_sizeOf.cls ≠ "java/lang/invoke/VarHandle" ∧ (parseMethodDescriptor yX8_sizeOf.desc).map (fun d => d.parameters.length) = some 2 := by decide +kernel
abbrev rmX8_layFirst : Room := { frames := 2, cells := 0, slots := 0, locals := 46 }
def wpX8_layFirst_b0 (F : Nat → Nat → Int32) (L : Nat → Nat → Int64) (r : Nat → Nat → Nat) (x1 : Int32) (x2 : Int32) (K : cS → Prop) : Prop :=
  wpX1_lay 66 F L r x1 x2 (fun u6 =>
    wpX1_reach 66 (pt (pt u6.1 96 3 (0 : Int32)) 96 4 (-1 : Int32)) u6.2.1 u6.2.2 (fun r24 u24 =>
    K (u24.1, ptL u24.2.1 96 5 r24, u24.2.2)))
set_option maxHeartbeats 4000000 in
set_option maxRecDepth 100000 in
theorem tX8_layFirst_b0 {K : cS → Prop} (C : CallFix p m c cX8_layFirst 3 s args wsX8_layFirst RX8) (hR : Rtv p l e rmX8_layFirst s m args below meth c cX8_layFirst D A (cT cI cL cF cM) (cWu h cI cL cF cM) K Q) {F : Nat → Nat → Int32} {L : Nat → Nat → Int64} {r : Nat → Nat → Nat} {x1 : Int32} {x2 : Int32} (hh : wpX8_layFirst_b0 F L r x1 x2 K) {H : Heap} {locs : List Loc} {ls : Array Slot} (hw : Wd D A s (cT cI cL cF cM) (cW h cI cL cF cM F L r) H locs) (hl : lv_has ls 3 [(0, .ref (h 96)), (1, .int x1), (2, .int x2)]) : W p l e rmX8_layFirst s m args below meth c H locs 0 0 Q (F0 m 0 ls []) := by
  unfold wpX8_layFirst_b0 at hh
  refine lv_aload_n C.1 C.2.1 dX8_layFirst_0 rfl (lv_at hl 0 rfl) ?_
  refine c_get C hw (inC inW8) (kd_lt kp96 (by decide)) (ce8 kp96) rfl 0 (by decide) (wc w_475) (v := .ref (h 66)) rfl dX8_layFirst_1 ?_
  refine lv_iload_n C.1 C.2.1 dX8_layFirst_4 rfl (lv_at hl 1 rfl) ?_
  refine lv_iload_n C.1 C.2.1 dX8_layFirst_5 rfl (lv_at hl 2 rfl) ?_
  refine c_Vv C hw (ctX1_lay l D h cI cL cF cM 66 kp66 F L r x1 x2 hh) (cwV 2 C.2.2.2.2 (gd_V w_1088 w_349 w_350 w_120 w_351) rfl rfl rfl cdX1_lay ⟨Nat.le_of_ble_eq_true rfl, Nat.le_of_ble_eq_true rfl⟩) rfl (kd_lt kp66 (by decide)) (ce1 kp66) rfl hl.1 (Nat.le_of_ble_eq_true rfl) dX8_layFirst_6 ⟨Nat.zero_le _, Nat.zero_le _⟩ (fun u6 H locs hh hw => ?_) rfl
  refine lv_aload_n C.1 C.2.1 dX8_layFirst_9 rfl (lv_at hl 0 rfl) ?_
  refine lv_iconst (v := (0 : Int32)) C.1 C.2.1 dX8_layFirst_10 (by decide) ?_
  refine c_puti C hw (inC inW8) tyX8 tyX8_ok nmX8 (kd_lt kp96 (by decide)) (ce8 kp96) rfl 3 (by decide) (wc w_478) rfl (ty := .int) (by decide +kernel) rfl rfl (Nat.le_of_ble_eq_true rfl) rfl dX8_layFirst_11 (fun H locs hw => ?_)
  refine lv_aload_n C.1 C.2.1 dX8_layFirst_14 rfl (lv_at hl 0 rfl) ?_
  refine lv_iconst (v := (-1 : Int32)) C.1 C.2.1 dX8_layFirst_15 (by decide) ?_
  refine c_puti C hw (inC inW8) tyX8 tyX8_ok nmX8 (kd_lt kp96 (by decide)) (ce8 kp96) rfl 4 (by decide) (wc w_479) rfl (ty := .int) (by decide +kernel) rfl rfl (Nat.le_of_ble_eq_true rfl) rfl dX8_layFirst_16 (fun H locs hw => ?_)
  refine lv_aload_n C.1 C.2.1 dX8_layFirst_19 rfl (lv_at hl 0 rfl) ?_
  refine lv_aload_n C.1 C.2.1 dX8_layFirst_20 rfl (lv_at hl 0 rfl) ?_
  refine c_get C hw (inC inW8) (kd_lt kp96 (by decide)) (ce8 kp96) rfl 0 (by decide) (wc w_475) (v := .ref (h 66)) rfl dX8_layFirst_21 ?_
  refine c_Vl C hw (ctX1_reach l D h cI cL cF cM 66 kp66 (pt (pt u6.1 96 3 (0 : Int32)) 96 4 (-1 : Int32)) u6.2.1 u6.2.2 hh) (cwV 0 C.2.2.2.2 (gd_V w_1089 w_1053 w_1054 w_120 w_1055) rfl rfl rfl cdX1_reach ⟨Nat.le_of_ble_eq_true rfl, Nat.le_of_ble_eq_true rfl⟩) rfl (kd_lt kp66 (by decide)) (ce1 kp66) rfl hl.1 (Nat.le_of_ble_eq_true rfl) dX8_layFirst_24 ⟨Nat.zero_le _, Nat.zero_le _⟩ (fun r24 u24 H locs hh hw => ?_) rfl
  refine c_putl C hw (inC inW8) tyX8 tyX8_ok nmX8 (kd_lt kp96 (by decide)) (ce8 kp96) rfl 5 (by decide) (wc w_480) rfl (by decide +kernel) (Nat.le_of_ble_eq_true rfl) rfl dX8_layFirst_27 (fun H locs hw => ?_)
  exact hR _ _ (u24.1, ptL u24.2.1 96 5 r24, u24.2.2) _ _ dX8_layFirst_30 hh hw
def wpX8_layFirst (F : Nat → Nat → Int32) (L : Nat → Nat → Int64) (r : Nat → Nat → Nat) (x1 : Int32) (x2 : Int32) (K : cS → Prop) : Prop := wpX8_layFirst_b0 F L r x1 x2 K
theorem ctX8_layFirst (l : Launch) (D : va_G) (h : Nat → Nat) (cI cL cF cM : ClassId) (F : Nat → Nat → Int32) (L : Nat → Nat → Int64) (r : Nat → Nat → Nat) (x1 : Int32) (x2 : Int32) {K : cS → Prop} (hh : wpX8_layFirst F L r x1 x2 K) : Cv l yX8_layFirst wsX8_layFirst rmX8_layFirst [.ref (h 96), .int x1, .int x2] D (cT cI cL cF cM) (cWu h cI cL cF cM) (F, L, r) K := by
  refine Cv_of (cc := cX8_layFirst) (maxL := 3) (by decide) rfl (Nat.le_of_ble_eq_true rfl) ?_
  intro p e s m below meth c A Q C hw hR ls hl
  exact tX8_layFirst_b0 C hR hh hw hl
theorem cdX8_layFirst : yX8_layFirst.cls = RX8 ∧ yX8_layFirst.cls ≠ "java/lang/invoke/MethodHandle" ∧ yX8_layFirst.cls ≠ "java/lang/invoke/VarHandle" ∧ (parseMethodDescriptor yX8_layFirst.desc).map (fun d => d.parameters.length) = some 2 := by decide +kernel
abbrev rmX1_wallNumbers : Room := { frames := 0, cells := 0, slots := 0, locals := 0 }
def wpX1_wallNumbers_b0 (a0 : Nat) (F : Nat → Nat → Int32) (L : Nat → Nat → Int64) (r : Nat → Nat → Nat) (K : Int32 → cS → Prop) : Prop :=
  K (((F a0 1) * ((F a0 0) - (1 : Int32))) + (((F a0 1) - (1 : Int32)) * (F a0 0))) (F, L, r)
set_option maxHeartbeats 4000000 in
set_option maxRecDepth 100000 in
theorem tX1_wallNumbers_b0 {a0 : Nat} {K : Int32 → cS → Prop} (C : CallFix p m c cX1_wallNumbers 1 s args wsX1_wallNumbers RX1) (hR : Rti .int p l e rmX1_wallNumbers s m args below meth c cX1_wallNumbers D A (cT cI cL cF cM) (cWu h cI cL cF cM) K Q) (ha0 : kd a0 = 1) {F : Nat → Nat → Int32} {L : Nat → Nat → Int64} {r : Nat → Nat → Nat} (hh : wpX1_wallNumbers_b0 a0 F L r K) {H : Heap} {locs : List Loc} {ls : Array Slot} (hw : Wd D A s (cT cI cL cF cM) (cW h cI cL cF cM F L r) H locs) (hl : lv_has ls 1 [(0, .ref (h a0))]) : W p l e rmX1_wallNumbers s m args below meth c H locs 0 0 Q (F0 m 0 ls []) := by
  unfold wpX1_wallNumbers_b0 at hh
  refine lv_aload_n C.1 C.2.1 dX1_wallNumbers_0 rfl (lv_at hl 0 rfl) ?_
  refine c_get C hw (inC inW1) (kd_lt ha0 (by decide)) (ce1 ha0) rfl 1 (by decide) (wc w_357) (v := .int (F a0 1)) rfl dX1_wallNumbers_1 ?_
  refine lv_aload_n C.1 C.2.1 dX1_wallNumbers_4 rfl (lv_at hl 0 rfl) ?_
  refine c_get C hw (inC inW1) (kd_lt ha0 (by decide)) (ce1 ha0) rfl 0 (by decide) (wc w_356) (v := .int (F a0 0)) rfl dX1_wallNumbers_5 ?_
  refine lv_iconst (v := (1 : Int32)) C.1 C.2.1 dX1_wallNumbers_8 (by decide) ?_
  refine lv_isub C.1 C.2.1 dX1_wallNumbers_9 ?_
  refine lv_imul C.1 C.2.1 dX1_wallNumbers_10 ?_
  refine lv_aload_n C.1 C.2.1 dX1_wallNumbers_11 rfl (lv_at hl 0 rfl) ?_
  refine c_get C hw (inC inW1) (kd_lt ha0 (by decide)) (ce1 ha0) rfl 1 (by decide) (wc w_357) (v := .int (F a0 1)) rfl dX1_wallNumbers_12 ?_
  refine lv_iconst (v := (1 : Int32)) C.1 C.2.1 dX1_wallNumbers_15 (by decide) ?_
  refine lv_isub C.1 C.2.1 dX1_wallNumbers_16 ?_
  refine lv_aload_n C.1 C.2.1 dX1_wallNumbers_17 rfl (lv_at hl 0 rfl) ?_
  refine c_get C hw (inC inW1) (kd_lt ha0 (by decide)) (ce1 ha0) rfl 0 (by decide) (wc w_356) (v := .int (F a0 0)) rfl dX1_wallNumbers_18 ?_
  refine lv_imul C.1 C.2.1 dX1_wallNumbers_21 ?_
  refine lv_iadd C.1 C.2.1 dX1_wallNumbers_22 ?_
  exact hR _ _ _ (F, L, r) _ _ dX1_wallNumbers_23 rfl hh hw
def wpX1_wallNumbers (a0 : Nat) (F : Nat → Nat → Int32) (L : Nat → Nat → Int64) (r : Nat → Nat → Nat) (K : Int32 → cS → Prop) : Prop := wpX1_wallNumbers_b0 a0 F L r K
theorem ctX1_wallNumbers (l : Launch) (D : va_G) (h : Nat → Nat) (cI cL cF cM : ClassId) (a0 : Nat) (ha0 : kd a0 = 1) (F : Nat → Nat → Int32) (L : Nat → Nat → Int64) (r : Nat → Nat → Nat) {K : Int32 → cS → Prop} (hh : wpX1_wallNumbers a0 F L r K) : Ci l yX1_wallNumbers wsX1_wallNumbers rmX1_wallNumbers [.ref (h a0)] D (cT cI cL cF cM) (cWu h cI cL cF cM) (F, L, r) K := by
  refine Ci_of (cc := cX1_wallNumbers) (maxL := 1) (by decide) rfl (Nat.le_of_ble_eq_true rfl) ?_
  intro p e s m below meth c A Q C hw hR ls hl
  exact tX1_wallNumbers_b0 C hR ha0 hh hw hl
theorem cdX1_wallNumbers : yX1_wallNumbers.cls = RX1 ∧ yX1_wallNumbers.cls ≠ "java/lang/invoke/MethodHandle" ∧ yX1_wallNumbers.cls ≠ "java/lang/invoke/VarHandle" ∧ (parseMethodDescriptor yX1_wallNumbers.desc).map (fun d => d.parameters.length) = some 0 := by decide +kernel
abbrev rmX1_squareOfWall : Room := { frames := 0, cells := 0, slots := 0, locals := 0 }
def wpX1_squareOfWall_b24 (a0 : Nat) (F : Nat → Nat → Int32) (L : Nat → Nat → Int64) (r : Nat → Nat → Nat) (x1 : Int32) (x3 : Int32) (K : Int32 → cS → Prop) : Prop :=
  K (x1 - x3) (F, L, r)
set_option maxHeartbeats 4000000 in
set_option maxRecDepth 100000 in
theorem tX1_squareOfWall_b24 {a0 : Nat} {K : Int32 → cS → Prop} (C : CallFix p m c cX1_squareOfWall 4 s args wsX1_squareOfWall RX1) (hR : Rti .int p l e rmX1_squareOfWall s m args below meth c cX1_squareOfWall D A (cT cI cL cF cM) (cWu h cI cL cF cM) K Q) (ha0 : kd a0 = 1) {F : Nat → Nat → Int32} {L : Nat → Nat → Int64} {r : Nat → Nat → Nat} {x1 : Int32} {x3 : Int32} (hh : wpX1_squareOfWall_b24 a0 F L r x1 x3 K) {H : Heap} {locs : List Loc} {ls : Array Slot} (hw : Wd D A s (cT cI cL cF cM) (cW h cI cL cF cM F L r) H locs) (hl : lv_has ls 4 [(0, .ref (h a0)), (1, .int x1), (3, .int x3)]) : W p l e rmX1_squareOfWall s m args below meth c H locs 0 0 Q (F0 m 24 ls []) := by
  unfold wpX1_squareOfWall_b24 at hh
  refine lv_iload_n C.1 C.2.1 dX1_squareOfWall_24 rfl (lv_at hl 1 rfl) ?_
  refine lv_iload_n C.1 C.2.1 dX1_squareOfWall_25 rfl (lv_at hl 2 rfl) ?_
  refine lv_isub C.1 C.2.1 dX1_squareOfWall_26 ?_
  exact hR _ _ _ (F, L, r) _ _ dX1_squareOfWall_27 rfl hh hw
def wpX1_squareOfWall_b0 (a0 : Nat) (F : Nat → Nat → Int32) (L : Nat → Nat → Int64) (r : Nat → Nat → Nat) (x1 : Int32) (K : Int32 → cS → Prop) : Prop :=
  ((((F a0 1) * ((F a0 0) - (1 : Int32))) ≤ x1) →
    wpX1_squareOfWall_b24 a0 F L r x1 ((F a0 1) * ((F a0 0) - (1 : Int32))) K) ∧
  (¬ (((F a0 1) * ((F a0 0) - (1 : Int32))) ≤ x1) →
    (((1 : Int32) ≤ ((F a0 0) - (1 : Int32))) →
      (¬ (F a0 0) - (1 : Int32) = 0) ∧ (¬ (F a0 0) - (1 : Int32) = 0) ∧ K (((x1 / ((F a0 0) - (1 : Int32))) * (F a0 0)) + (jrem x1 ((F a0 0) - (1 : Int32)))) (F, L, r)) ∧
    (¬ ((1 : Int32) ≤ ((F a0 0) - (1 : Int32))) →
      wpX1_squareOfWall_b24 a0 F L r x1 ((F a0 1) * ((F a0 0) - (1 : Int32))) K))
set_option maxHeartbeats 4000000 in
set_option maxRecDepth 100000 in
theorem tX1_squareOfWall_b0 {a0 : Nat} {K : Int32 → cS → Prop} (C : CallFix p m c cX1_squareOfWall 4 s args wsX1_squareOfWall RX1) (hR : Rti .int p l e rmX1_squareOfWall s m args below meth c cX1_squareOfWall D A (cT cI cL cF cM) (cWu h cI cL cF cM) K Q) (ha0 : kd a0 = 1) {F : Nat → Nat → Int32} {L : Nat → Nat → Int64} {r : Nat → Nat → Nat} {x1 : Int32} (hh : wpX1_squareOfWall_b0 a0 F L r x1 K) {H : Heap} {locs : List Loc} {ls : Array Slot} (hw : Wd D A s (cT cI cL cF cM) (cW h cI cL cF cM F L r) H locs) (hl : lv_has ls 4 [(0, .ref (h a0)), (1, .int x1)]) : W p l e rmX1_squareOfWall s m args below meth c H locs 0 0 Q (F0 m 0 ls []) := by
  unfold wpX1_squareOfWall_b0 at hh
  refine lv_aload_n C.1 C.2.1 dX1_squareOfWall_0 rfl (lv_at hl 0 rfl) ?_
  refine c_get C hw (inC inW1) (kd_lt ha0 (by decide)) (ce1 ha0) rfl 0 (by decide) (wc w_356) (v := .int (F a0 0)) rfl dX1_squareOfWall_1 ?_
  refine lv_iconst (v := (1 : Int32)) C.1 C.2.1 dX1_squareOfWall_4 (by decide) ?_
  refine lv_isub C.1 C.2.1 dX1_squareOfWall_5 ?_
  refine lv_istore_n (lv' := [(2, .int ((F a0 0) - (1 : Int32))), (0, .ref (h a0)), (1, .int x1)]) C.1 C.2.1 dX1_squareOfWall_6 rfl hl (by decide) rfl (fun ls hl => ?_)
  refine lv_aload_n C.1 C.2.1 dX1_squareOfWall_7 rfl (lv_at hl 1 rfl) ?_
  refine c_get C hw (inC inW1) (kd_lt ha0 (by decide)) (ce1 ha0) rfl 1 (by decide) (wc w_357) (v := .int (F a0 1)) rfl dX1_squareOfWall_8 ?_
  refine lv_iload_n C.1 C.2.1 dX1_squareOfWall_11 rfl (lv_at hl 0 rfl) ?_
  refine lv_imul C.1 C.2.1 dX1_squareOfWall_12 ?_
  refine lv_istore_n (lv' := [(3, .int ((F a0 1) * ((F a0 0) - (1 : Int32)))), (2, .int ((F a0 0) - (1 : Int32))), (0, .ref (h a0)), (1, .int x1)]) C.1 C.2.1 dX1_squareOfWall_13 rfl hl (by decide) rfl (fun ls hl => ?_)
  refine lv_iload_n C.1 C.2.1 dX1_squareOfWall_14 rfl (lv_at hl 3 rfl) ?_
  refine lv_iload_n C.1 C.2.1 dX1_squareOfWall_15 rfl (lv_at hl 0 rfl) ?_
  refine lv_icmp_ge (tgt := 24) C.1 C.2.1 dX1_squareOfWall_16 (by decide) (fun c16 => ?_) (fun c16 => ?_)
  · replace hh := hh.1 c16
    exact tX1_squareOfWall_b24 C hR ha0 hh hw (lv_sub hl [2, 3, 0] rfl)
  · replace hh := hh.2 c16
    refine lv_iload_n C.1 C.2.1 dX1_squareOfWall_19 rfl (lv_at hl 1 rfl) ?_
    refine lv_iconst (v := (1 : Int32)) C.1 C.2.1 dX1_squareOfWall_20 (by decide) ?_
    refine lv_icmp_ge (tgt := 28) C.1 C.2.1 dX1_squareOfWall_21 (by decide) (fun c21 => ?_) (fun c21 => ?_)
    · replace hh := hh.1 c21
      refine lv_iload_n C.1 C.2.1 dX1_squareOfWall_28 rfl (lv_at hl 3 rfl) ?_
      refine lv_iload_n C.1 C.2.1 dX1_squareOfWall_29 rfl (lv_at hl 1 rfl) ?_
      obtain ⟨hz30, hh⟩ := hh
      refine lv_idiv C.1 C.2.1 dX1_squareOfWall_30 hz30 ?_
      refine lv_aload_n C.1 C.2.1 dX1_squareOfWall_31 rfl (lv_at hl 2 rfl) ?_
      refine c_get C hw (inC inW1) (kd_lt ha0 (by decide)) (ce1 ha0) rfl 0 (by decide) (wc w_356) (v := .int (F a0 0)) rfl dX1_squareOfWall_32 ?_
      refine lv_imul C.1 C.2.1 dX1_squareOfWall_35 ?_
      refine lv_iload_n C.1 C.2.1 dX1_squareOfWall_36 rfl (lv_at hl 3 rfl) ?_
      refine lv_iload_n C.1 C.2.1 dX1_squareOfWall_37 rfl (lv_at hl 1 rfl) ?_
      obtain ⟨hz38, hh⟩ := hh
      refine g_irem C dX1_squareOfWall_38 hz38 ?_
      refine lv_iadd C.1 C.2.1 dX1_squareOfWall_39 ?_
      exact hR _ _ _ (F, L, r) _ _ dX1_squareOfWall_40 rfl hh hw
    · replace hh := hh.2 c21
      exact tX1_squareOfWall_b24 C hR ha0 hh hw (lv_sub hl [2, 3, 0] rfl)
def wpX1_squareOfWall (a0 : Nat) (F : Nat → Nat → Int32) (L : Nat → Nat → Int64) (r : Nat → Nat → Nat) (x1 : Int32) (K : Int32 → cS → Prop) : Prop := wpX1_squareOfWall_b0 a0 F L r x1 K
theorem ctX1_squareOfWall (l : Launch) (D : va_G) (h : Nat → Nat) (cI cL cF cM : ClassId) (a0 : Nat) (ha0 : kd a0 = 1) (F : Nat → Nat → Int32) (L : Nat → Nat → Int64) (r : Nat → Nat → Nat) (x1 : Int32) {K : Int32 → cS → Prop} (hh : wpX1_squareOfWall a0 F L r x1 K) : Ci l yX1_squareOfWall wsX1_squareOfWall rmX1_squareOfWall [.ref (h a0), .int x1] D (cT cI cL cF cM) (cWu h cI cL cF cM) (F, L, r) K := by
  refine Ci_of (cc := cX1_squareOfWall) (maxL := 4) (by decide) rfl (Nat.le_of_ble_eq_true rfl) ?_
  intro p e s m below meth c A Q C hw hR ls hl
  exact tX1_squareOfWall_b0 C hR ha0 hh hw hl
theorem cdX1_squareOfWall : yX1_squareOfWall.cls = RX1 ∧ yX1_squareOfWall.cls ≠ "java/lang/invoke/MethodHandle" ∧ yX1_squareOfWall.cls ≠ "java/lang/invoke/VarHandle" ∧ (parseMethodDescriptor yX1_squareOfWall.desc).map (fun d => d.parameters.length) = some 1 := by decide +kernel
abbrev rmX1_sideOfWall : Room := { frames := 0, cells := 0, slots := 0, locals := 0 }
def wpX1_sideOfWall_b20 (a0 : Nat) (F : Nat → Nat → Int32) (L : Nat → Nat → Int64) (r : Nat → Nat → Nat) (k0 : Int32) (K : Int32 → cS → Prop) : Prop :=
  K k0 (F, L, r)
set_option maxHeartbeats 4000000 in
set_option maxRecDepth 100000 in
theorem tX1_sideOfWall_b20 {a0 : Nat} {K : Int32 → cS → Prop} (C : CallFix p m c cX1_sideOfWall 2 s args wsX1_sideOfWall RX1) (hR : Rti .int p l e rmX1_sideOfWall s m args below meth c cX1_sideOfWall D A (cT cI cL cF cM) (cWu h cI cL cF cM) K Q) (ha0 : kd a0 = 1) {F : Nat → Nat → Int32} {L : Nat → Nat → Int64} {r : Nat → Nat → Nat} {k0 : Int32} (hh : wpX1_sideOfWall_b20 a0 F L r k0 K) {H : Heap} {locs : List Loc} {ls : Array Slot} (hw : Wd D A s (cT cI cL cF cM) (cW h cI cL cF cM F L r) H locs) (hl : lv_has ls 2 [(0, .ref (h a0))]) : W p l e rmX1_sideOfWall s m args below meth c H locs 0 0 Q (F0 m 20 ls [.int k0]) := by
  unfold wpX1_sideOfWall_b20 at hh
  exact hR _ _ _ (F, L, r) _ _ dX1_sideOfWall_20 rfl hh hw
def wpX1_sideOfWall_b0 (a0 : Nat) (F : Nat → Nat → Int32) (L : Nat → Nat → Int64) (r : Nat → Nat → Nat) (x1 : Int32) (K : Int32 → cS → Prop) : Prop :=
  ((((F a0 1) * ((F a0 0) - (1 : Int32))) ≤ x1) →
    wpX1_sideOfWall_b20 a0 F L r (2 : Int32) K) ∧
  (¬ (((F a0 1) * ((F a0 0) - (1 : Int32))) ≤ x1) →
    wpX1_sideOfWall_b20 a0 F L r (1 : Int32) K)
set_option maxHeartbeats 4000000 in
set_option maxRecDepth 100000 in
theorem tX1_sideOfWall_b0 {a0 : Nat} {K : Int32 → cS → Prop} (C : CallFix p m c cX1_sideOfWall 2 s args wsX1_sideOfWall RX1) (hR : Rti .int p l e rmX1_sideOfWall s m args below meth c cX1_sideOfWall D A (cT cI cL cF cM) (cWu h cI cL cF cM) K Q) (ha0 : kd a0 = 1) {F : Nat → Nat → Int32} {L : Nat → Nat → Int64} {r : Nat → Nat → Nat} {x1 : Int32} (hh : wpX1_sideOfWall_b0 a0 F L r x1 K) {H : Heap} {locs : List Loc} {ls : Array Slot} (hw : Wd D A s (cT cI cL cF cM) (cW h cI cL cF cM F L r) H locs) (hl : lv_has ls 2 [(0, .ref (h a0)), (1, .int x1)]) : W p l e rmX1_sideOfWall s m args below meth c H locs 0 0 Q (F0 m 0 ls []) := by
  unfold wpX1_sideOfWall_b0 at hh
  refine lv_iload_n C.1 C.2.1 dX1_sideOfWall_0 rfl (lv_at hl 1 rfl) ?_
  refine lv_aload_n C.1 C.2.1 dX1_sideOfWall_1 rfl (lv_at hl 0 rfl) ?_
  refine c_get C hw (inC inW1) (kd_lt ha0 (by decide)) (ce1 ha0) rfl 1 (by decide) (wc w_357) (v := .int (F a0 1)) rfl dX1_sideOfWall_2 ?_
  refine lv_aload_n C.1 C.2.1 dX1_sideOfWall_5 rfl (lv_at hl 0 rfl) ?_
  refine c_get C hw (inC inW1) (kd_lt ha0 (by decide)) (ce1 ha0) rfl 0 (by decide) (wc w_356) (v := .int (F a0 0)) rfl dX1_sideOfWall_6 ?_
  refine lv_iconst (v := (1 : Int32)) C.1 C.2.1 dX1_sideOfWall_9 (by decide) ?_
  refine lv_isub C.1 C.2.1 dX1_sideOfWall_10 ?_
  refine lv_imul C.1 C.2.1 dX1_sideOfWall_11 ?_
  refine lv_icmp_ge (tgt := 19) C.1 C.2.1 dX1_sideOfWall_12 (by decide) (fun c12 => ?_) (fun c12 => ?_)
  · replace hh := hh.1 c12
    refine lv_iconst (v := (2 : Int32)) C.1 C.2.1 dX1_sideOfWall_19 (by decide) ?_
    exact tX1_sideOfWall_b20 C hR ha0 hh hw (lv_sub hl [0] rfl)
  · replace hh := hh.2 c12
    refine lv_iconst (v := (1 : Int32)) C.1 C.2.1 dX1_sideOfWall_15 (by decide) ?_
    refine lv_goto (tgt := 20) C.1 C.2.1 dX1_sideOfWall_16 (by decide) ?_
    exact tX1_sideOfWall_b20 C hR ha0 hh hw (lv_sub hl [0] rfl)
def wpX1_sideOfWall (a0 : Nat) (F : Nat → Nat → Int32) (L : Nat → Nat → Int64) (r : Nat → Nat → Nat) (x1 : Int32) (K : Int32 → cS → Prop) : Prop := wpX1_sideOfWall_b0 a0 F L r x1 K
theorem ctX1_sideOfWall (l : Launch) (D : va_G) (h : Nat → Nat) (cI cL cF cM : ClassId) (a0 : Nat) (ha0 : kd a0 = 1) (F : Nat → Nat → Int32) (L : Nat → Nat → Int64) (r : Nat → Nat → Nat) (x1 : Int32) {K : Int32 → cS → Prop} (hh : wpX1_sideOfWall a0 F L r x1 K) : Ci l yX1_sideOfWall wsX1_sideOfWall rmX1_sideOfWall [.ref (h a0), .int x1] D (cT cI cL cF cM) (cWu h cI cL cF cM) (F, L, r) K := by
  refine Ci_of (cc := cX1_sideOfWall) (maxL := 2) (by decide) rfl (Nat.le_of_ble_eq_true rfl) ?_
  intro p e s m below meth c A Q C hw hR ls hl
  exact tX1_sideOfWall_b0 C hR ha0 hh hw hl
theorem cdX1_sideOfWall : yX1_sideOfWall.cls = RX1 ∧ yX1_sideOfWall.cls ≠ "java/lang/invoke/MethodHandle" ∧ yX1_sideOfWall.cls ≠ "java/lang/invoke/VarHandle" ∧ (parseMethodDescriptor yX1_sideOfWall.desc).map (fun d => d.parameters.length) = some 1 := by decide +kernel
abbrev rmX1_raiseWalls : Room := { frames := 2, cells := 0, slots := 0, locals := 46 }
def wpX1_raiseWalls_b37 (B6 : (Nat → Nat → Int32) → (Nat → Nat → Int64) → (Nat → Nat → Nat) → Int32 → Int32 → Prop) (a0 : Nat) (F : Nat → Nat → Int32) (L : Nat → Nat → Int64) (r : Nat → Nat → Nat) (x1 : Int32) (x2 : Int32) (K : cS → Prop) : Prop :=
  B6 F L r x1 (x2 + (1 : Int32))
set_option maxHeartbeats 4000000 in
set_option maxRecDepth 100000 in
theorem tX1_raiseWalls_b37 {a0 : Nat} {B6 : (Nat → Nat → Int32) → (Nat → Nat → Int64) → (Nat → Nat → Nat) → Int32 → Int32 → Prop} {K : cS → Prop} (C : CallFix p m c cX1_raiseWalls 3 s args wsX1_raiseWalls RX1) (hR : Rtv p l e rmX1_raiseWalls s m args below meth c cX1_raiseWalls D A (cT cI cL cF cM) (cWu h cI cL cF cM) K Q) (ha0 : kd a0 = 1) (hB6 : ∀ (F : Nat → Nat → Int32) (L : Nat → Nat → Int64) (r : Nat → Nat → Nat) (x1 : Int32) (x2 : Int32) (H : Heap) (locs : List Loc) (ls : Array Slot), B6 F L r x1 x2 → Wd D A s (cT cI cL cF cM) (cW h cI cL cF cM F L r) H locs → lv_has ls 3 [(0, .ref (h a0)), (1, .int x1), (2, .int x2)] → W p l e rmX1_raiseWalls s m args below meth c H locs 0 0 Q (F0 m 6 ls [])) {F : Nat → Nat → Int32} {L : Nat → Nat → Int64} {r : Nat → Nat → Nat} {x1 : Int32} {x2 : Int32} (hh : wpX1_raiseWalls_b37 B6 a0 F L r x1 x2 K) {H : Heap} {locs : List Loc} {ls : Array Slot} (hw : Wd D A s (cT cI cL cF cM) (cW h cI cL cF cM F L r) H locs) (hl : lv_has ls 3 [(0, .ref (h a0)), (1, .int x1), (2, .int x2)]) : W p l e rmX1_raiseWalls s m args below meth c H locs 0 0 Q (F0 m 37 ls []) := by
  unfold wpX1_raiseWalls_b37 at hh
  refine lv_iinc (v := x2 + (1 : Int32)) (lv' := [(2, .int (x2 + (1 : Int32))), (0, .ref (h a0)), (1, .int x1)]) C.1 C.2.1 dX1_raiseWalls_37 hl (k := 2) rfl rfl (by decide) rfl (fun ls hl => ?_)
  refine lv_goto (tgt := 6) C.1 C.2.1 dX1_raiseWalls_40 (by decide) ?_
  exact hB6 _ _ _ _ _ _ _ _ hh hw (lv_sub hl [1, 2, 0] rfl)
def wpX1_raiseWalls_b6_body (B6 : (Nat → Nat → Int32) → (Nat → Nat → Int64) → (Nat → Nat → Nat) → Int32 → Int32 → Prop) (a0 : Nat) (F : Nat → Nat → Int32) (L : Nat → Nat → Int64) (r : Nat → Nat → Nat) (x1 : Int32) (x2 : Int32) (K : cS → Prop) : Prop :=
  wpX1_wallNumbers a0 F L r (fun r8 u8 =>
    ((r8 ≤ x2) →
    K (u8.1, u8.2.1, u8.2.2)) ∧
  (¬ (r8 ≤ x2) →
    ((((jshr x1 x2) &&& (1 : Int32)) = 0) →
      wpX1_raiseWalls_b37 B6 a0 u8.1 u8.2.1 u8.2.2 x1 x2 K) ∧
    (¬ (((jshr x1 x2) &&& (1 : Int32)) = 0) →
      wpX1_squareOfWall a0 u8.1 u8.2.1 u8.2.2 x2 (fun r25 u25 =>
        wpX1_sideOfWall a0 u25.1 u25.2.1 u25.2.2 x2 (fun r30 u30 =>
        wpX1_putWall a0 u30.1 u30.2.1 u30.2.2 r25 r30 (1 : Int32) (fun u34 =>
        wpX1_raiseWalls_b37 B6 a0 u34.1 u34.2.1 u34.2.2 x1 x2 K))))))
set_option maxHeartbeats 4000000 in
set_option maxRecDepth 100000 in
theorem tX1_raiseWalls_b6_body {a0 : Nat} {B6 : (Nat → Nat → Int32) → (Nat → Nat → Int64) → (Nat → Nat → Nat) → Int32 → Int32 → Prop} {K : cS → Prop} (C : CallFix p m c cX1_raiseWalls 3 s args wsX1_raiseWalls RX1) (hR : Rtv p l e rmX1_raiseWalls s m args below meth c cX1_raiseWalls D A (cT cI cL cF cM) (cWu h cI cL cF cM) K Q) (ha0 : kd a0 = 1) (hB6 : ∀ (F : Nat → Nat → Int32) (L : Nat → Nat → Int64) (r : Nat → Nat → Nat) (x1 : Int32) (x2 : Int32) (H : Heap) (locs : List Loc) (ls : Array Slot), B6 F L r x1 x2 → Wd D A s (cT cI cL cF cM) (cW h cI cL cF cM F L r) H locs → lv_has ls 3 [(0, .ref (h a0)), (1, .int x1), (2, .int x2)] → W p l e rmX1_raiseWalls s m args below meth c H locs 0 0 Q (F0 m 6 ls [])) {F : Nat → Nat → Int32} {L : Nat → Nat → Int64} {r : Nat → Nat → Nat} {x1 : Int32} {x2 : Int32} (hh : wpX1_raiseWalls_b6_body B6 a0 F L r x1 x2 K) {H : Heap} {locs : List Loc} {ls : Array Slot} (hw : Wd D A s (cT cI cL cF cM) (cW h cI cL cF cM F L r) H locs) (hl : lv_has ls 3 [(0, .ref (h a0)), (1, .int x1), (2, .int x2)]) : W p l e rmX1_raiseWalls s m args below meth c H locs 0 0 Q (F0 m 6 ls []) := by
  unfold wpX1_raiseWalls_b6_body at hh
  refine lv_iload_n C.1 C.2.1 dX1_raiseWalls_6 rfl (lv_at hl 2 rfl) ?_
  refine lv_aload_n C.1 C.2.1 dX1_raiseWalls_7 rfl (lv_at hl 0 rfl) ?_
  refine c_Vi C hw (ctX1_wallNumbers l D h cI cL cF cM a0 ha0 F L r hh) (cwV 0 C.2.2.2.2 (gd_V w_1107 w_1100 w_1101 w_120 w_1102) rfl rfl rfl cdX1_wallNumbers ⟨Nat.le_of_ble_eq_true rfl, Nat.le_of_ble_eq_true rfl⟩) rfl (kd_lt ha0 (by decide)) (ce1 ha0) rfl hl.1 (Nat.le_of_ble_eq_true rfl) dX1_raiseWalls_8 ⟨Nat.zero_le _, Nat.zero_le _⟩ (fun r8 u8 H locs hh hw => ?_) rfl
  refine lv_icmp_ge (tgt := 43) C.1 C.2.1 dX1_raiseWalls_11 (by decide) (fun c11 => ?_) (fun c11 => ?_)
  · replace hh := hh.1 c11
    exact hR _ _ (u8.1, u8.2.1, u8.2.2) _ _ dX1_raiseWalls_43 hh hw
  · replace hh := hh.2 c11
    refine lv_iload_n C.1 C.2.1 dX1_raiseWalls_14 rfl (lv_at hl 1 rfl) ?_
    refine lv_iload_n C.1 C.2.1 dX1_raiseWalls_15 rfl (lv_at hl 2 rfl) ?_
    refine g_ishr C dX1_raiseWalls_16 ?_
    refine lv_iconst (v := (1 : Int32)) C.1 C.2.1 dX1_raiseWalls_17 (by decide) ?_
    refine lv_iand C.1 C.2.1 dX1_raiseWalls_18 ?_
    refine lv_if_eq (tgt := 37) C.1 C.2.1 dX1_raiseWalls_19 (by decide) (fun c19 => ?_) (fun c19 => ?_)
    · replace hh := hh.1 c19
      exact tX1_raiseWalls_b37 C hR ha0 hB6 hh hw hl
    · replace hh := hh.2 c19
      refine lv_aload_n C.1 C.2.1 dX1_raiseWalls_22 rfl (lv_at hl 0 rfl) ?_
      refine lv_aload_n C.1 C.2.1 dX1_raiseWalls_23 rfl (lv_at hl 0 rfl) ?_
      refine lv_iload_n C.1 C.2.1 dX1_raiseWalls_24 rfl (lv_at hl 2 rfl) ?_
      refine c_Vi C hw (ctX1_squareOfWall l D h cI cL cF cM a0 ha0 u8.1 u8.2.1 u8.2.2 x2 hh) (cwV 1 C.2.2.2.2 (gd_V w_1108 w_1110 w_41 w_120 w_1111) rfl rfl rfl cdX1_squareOfWall ⟨Nat.le_of_ble_eq_true rfl, Nat.le_of_ble_eq_true rfl⟩) rfl (kd_lt ha0 (by decide)) (ce1 ha0) rfl hl.1 (Nat.le_of_ble_eq_true rfl) dX1_raiseWalls_25 ⟨Nat.zero_le _, Nat.zero_le _⟩ (fun r25 u25 H locs hh hw => ?_) rfl
      refine lv_aload_n C.1 C.2.1 dX1_raiseWalls_28 rfl (lv_at hl 0 rfl) ?_
      refine lv_iload_n C.1 C.2.1 dX1_raiseWalls_29 rfl (lv_at hl 2 rfl) ?_
      refine c_Vi C hw (ctX1_sideOfWall l D h cI cL cF cM a0 ha0 u25.1 u25.2.1 u25.2.2 x2 hh) (cwV 1 C.2.2.2.2 (gd_V w_1112 w_1114 w_42 w_120 w_1115) rfl rfl rfl cdX1_sideOfWall ⟨Nat.le_of_ble_eq_true rfl, Nat.le_of_ble_eq_true rfl⟩) rfl (kd_lt ha0 (by decide)) (ce1 ha0) rfl hl.1 (Nat.le_of_ble_eq_true rfl) dX1_raiseWalls_30 ⟨Nat.zero_le _, Nat.zero_le _⟩ (fun r30 u30 H locs hh hw => ?_) rfl
      refine lv_iconst (v := (1 : Int32)) C.1 C.2.1 dX1_raiseWalls_33 (by decide) ?_
      refine c_Vv C hw (ctX1_putWall l D h cI cL cF cM a0 ha0 u30.1 u30.2.1 u30.2.2 r25 r30 (1 : Int32) hh) (cwV 3 C.2.2.2.2 (gd_V w_1116 w_953 w_954 w_120 w_955) rfl rfl rfl cdX1_putWall ⟨Nat.le_of_ble_eq_true rfl, Nat.le_of_ble_eq_true rfl⟩) rfl (kd_lt ha0 (by decide)) (ce1 ha0) rfl hl.1 (Nat.le_of_ble_eq_true rfl) dX1_raiseWalls_34 ⟨Nat.zero_le _, Nat.zero_le _⟩ (fun u34 H locs hh hw => ?_) rfl
      exact tX1_raiseWalls_b37 C hR ha0 hB6 hh hw hl
def wpX1_raiseWalls_b6 (a0 : Nat) (n_ : Nat) (F : Nat → Nat → Int32) (L : Nat → Nat → Int64) (r : Nat → Nat → Nat) (x1 : Int32) (x2 : Int32) (K : cS → Prop) : Prop := match n_ with
  | 0 => False
  | n + 1 => wpX1_raiseWalls_b6_body (fun F L r x1 x2 => wpX1_raiseWalls_b6 a0 n F L r x1 x2 K) a0 F L r x1 x2 K
theorem tX1_raiseWalls_b6 {a0 : Nat} {K : cS → Prop} (C : CallFix p m c cX1_raiseWalls 3 s args wsX1_raiseWalls RX1) (hR : Rtv p l e rmX1_raiseWalls s m args below meth c cX1_raiseWalls D A (cT cI cL cF cM) (cWu h cI cL cF cM) K Q) (ha0 : kd a0 = 1) (n : Nat) : ∀ (F : Nat → Nat → Int32) (L : Nat → Nat → Int64) (r : Nat → Nat → Nat) (x1 : Int32) (x2 : Int32) (H : Heap) (locs : List Loc) (ls : Array Slot), wpX1_raiseWalls_b6 a0 n F L r x1 x2 K → Wd D A s (cT cI cL cF cM) (cW h cI cL cF cM F L r) H locs → lv_has ls 3 [(0, .ref (h a0)), (1, .int x1), (2, .int x2)] → W p l e rmX1_raiseWalls s m args below meth c H locs 0 0 Q (F0 m 6 ls []) := by
  induction n with
  | zero => intro F L r x1 x2 H locs ls hh; exact hh.elim
  | succ n ih => intro F L r x1 x2 H locs ls hh hw hl; exact tX1_raiseWalls_b6_body C hR ha0 ih hh hw hl
def wpX1_raiseWalls_b0 (a0 : Nat) (F : Nat → Nat → Int32) (L : Nat → Nat → Int64) (r : Nat → Nat → Nat) (x1 : Int32) (K : cS → Prop) : Prop :=
  wpX1_clearWalls a0 F L r (fun u1 =>
    ∃ n, wpX1_raiseWalls_b6 a0 n u1.1 u1.2.1 u1.2.2 x1 (0 : Int32) K)
set_option maxHeartbeats 4000000 in
set_option maxRecDepth 100000 in
theorem tX1_raiseWalls_b0 {a0 : Nat} {K : cS → Prop} (C : CallFix p m c cX1_raiseWalls 3 s args wsX1_raiseWalls RX1) (hR : Rtv p l e rmX1_raiseWalls s m args below meth c cX1_raiseWalls D A (cT cI cL cF cM) (cWu h cI cL cF cM) K Q) (ha0 : kd a0 = 1) {F : Nat → Nat → Int32} {L : Nat → Nat → Int64} {r : Nat → Nat → Nat} {x1 : Int32} (hh : wpX1_raiseWalls_b0 a0 F L r x1 K) {H : Heap} {locs : List Loc} {ls : Array Slot} (hw : Wd D A s (cT cI cL cF cM) (cW h cI cL cF cM F L r) H locs) (hl : lv_has ls 3 [(0, .ref (h a0)), (1, .int x1)]) : W p l e rmX1_raiseWalls s m args below meth c H locs 0 0 Q (F0 m 0 ls []) := by
  unfold wpX1_raiseWalls_b0 at hh
  refine lv_aload_n C.1 C.2.1 dX1_raiseWalls_0 rfl (lv_at hl 0 rfl) ?_
  refine c_Vv C hw (ctX1_clearWalls l D h cI cL cF cM a0 ha0 F L r hh) (cwV 0 C.2.2.2.2 (gd_V w_352 w_354 w_0 w_120 w_355) rfl rfl rfl cdX1_clearWalls ⟨Nat.le_of_ble_eq_true rfl, Nat.le_of_ble_eq_true rfl⟩) rfl (kd_lt ha0 (by decide)) (ce1 ha0) rfl hl.1 (Nat.le_of_ble_eq_true rfl) dX1_raiseWalls_1 ⟨Nat.zero_le _, Nat.zero_le _⟩ (fun u1 H locs hh hw => ?_) rfl
  refine lv_iconst (v := (0 : Int32)) C.1 C.2.1 dX1_raiseWalls_4 (by decide) ?_
  refine lv_istore_n (lv' := [(2, .int (0 : Int32)), (0, .ref (h a0)), (1, .int x1)]) C.1 C.2.1 dX1_raiseWalls_5 rfl hl (by decide) rfl (fun ls hl => ?_)
  obtain ⟨n, hh⟩ := hh
  exact tX1_raiseWalls_b6 C hR ha0 n _ _ _ _ _ _ _ _ hh hw (lv_sub hl [1, 2, 0] rfl)
def wpX1_raiseWalls (a0 : Nat) (F : Nat → Nat → Int32) (L : Nat → Nat → Int64) (r : Nat → Nat → Nat) (x1 : Int32) (K : cS → Prop) : Prop := wpX1_raiseWalls_b0 a0 F L r x1 K
theorem ctX1_raiseWalls (l : Launch) (D : va_G) (h : Nat → Nat) (cI cL cF cM : ClassId) (a0 : Nat) (ha0 : kd a0 = 1) (F : Nat → Nat → Int32) (L : Nat → Nat → Int64) (r : Nat → Nat → Nat) (x1 : Int32) {K : cS → Prop} (hh : wpX1_raiseWalls a0 F L r x1 K) : Cv l yX1_raiseWalls wsX1_raiseWalls rmX1_raiseWalls [.ref (h a0), .int x1] D (cT cI cL cF cM) (cWu h cI cL cF cM) (F, L, r) K := by
  refine Cv_of (cc := cX1_raiseWalls) (maxL := 3) (by decide) rfl (Nat.le_of_ble_eq_true rfl) ?_
  intro p e s m below meth c A Q C hw hR ls hl
  exact tX1_raiseWalls_b0 C hR ha0 hh hw hl
theorem cdX1_raiseWalls : yX1_raiseWalls.cls = RX1 ∧ yX1_raiseWalls.cls ≠ "java/lang/invoke/MethodHandle" ∧ yX1_raiseWalls.cls ≠ "java/lang/invoke/VarHandle" ∧ (parseMethodDescriptor yX1_raiseWalls.desc).map (fun d => d.parameters.length) = some 1 := by decide +kernel
abbrev rmX8_nextStart : Room := { frames := 3, cells := 0, slots := 0, locals := 68 }
def wpX8_nextStart_b79 (B12 : (Nat → Nat → Int32) → (Nat → Nat → Int64) → (Nat → Nat → Nat) → Int32 → Int32 → Prop) (F : Nat → Nat → Int32) (L : Nat → Nat → Int64) (r : Nat → Nat → Nat) (x1 : Int32) (x2 : Int32) (K : Int32 → cS → Prop) : Prop :=
  (((F 96 3) < x1) →
    (((lg_cmp ((jlushr (L 96 5) (F 96 4)) &&& (1 : Int64)) (0 : Int64)) = 0) →
      B12 F L r x1 (x2 + (1 : Int32))) ∧
    (¬ ((lg_cmp ((jlushr (L 96 5) (F 96 4)) &&& (1 : Int64)) (0 : Int64)) = 0) →
      K (1 : Int32) (F, L, r))) ∧
  (¬ ((F 96 3) < x1) →
    K (0 : Int32) (F, L, r))
set_option maxHeartbeats 4000000 in
set_option maxRecDepth 100000 in
theorem tX8_nextStart_b79 {B12 : (Nat → Nat → Int32) → (Nat → Nat → Int64) → (Nat → Nat → Nat) → Int32 → Int32 → Prop} {K : Int32 → cS → Prop} (C : CallFix p m c cX8_nextStart 3 s args wsX8_nextStart RX8) (hR : Rti .boolean p l e rmX8_nextStart s m args below meth c cX8_nextStart D A (cT cI cL cF cM) (cWu h cI cL cF cM) K Q) (hB12 : ∀ (F : Nat → Nat → Int32) (L : Nat → Nat → Int64) (r : Nat → Nat → Nat) (x1 : Int32) (x2 : Int32) (H : Heap) (locs : List Loc) (ls : Array Slot), B12 F L r x1 x2 → Wd D A s (cT cI cL cF cM) (cW h cI cL cF cM F L r) H locs → lv_has ls 3 [(0, .ref (h 96)), (1, .int x1), (2, .int x2)] → W p l e rmX8_nextStart s m args below meth c H locs 0 0 Q (F0 m 12 ls [])) {F : Nat → Nat → Int32} {L : Nat → Nat → Int64} {r : Nat → Nat → Nat} {x1 : Int32} {x2 : Int32} (hh : wpX8_nextStart_b79 B12 F L r x1 x2 K) {H : Heap} {locs : List Loc} {ls : Array Slot} (hw : Wd D A s (cT cI cL cF cM) (cW h cI cL cF cM F L r) H locs) (hl : lv_has ls 3 [(0, .ref (h 96)), (1, .int x1), (2, .int x2)]) : W p l e rmX8_nextStart s m args below meth c H locs 0 0 Q (F0 m 79 ls []) := by
  unfold wpX8_nextStart_b79 at hh
  refine lv_aload_n C.1 C.2.1 dX8_nextStart_79 rfl (lv_at hl 0 rfl) ?_
  refine c_get C hw (inC inW8) (kd_lt kp96 (by decide)) (ce8 kp96) rfl 3 (by decide) (wc w_478) (v := .int (F 96 3)) rfl dX8_nextStart_80 ?_
  refine lv_iload_n C.1 C.2.1 dX8_nextStart_83 rfl (lv_at hl 1 rfl) ?_
  refine lv_icmp_lt (tgt := 89) C.1 C.2.1 dX8_nextStart_84 (by decide) (fun c84 => ?_) (fun c84 => ?_)
  · replace hh := hh.1 c84
    refine lv_aload_n C.1 C.2.1 dX8_nextStart_89 rfl (lv_at hl 0 rfl) ?_
    refine c_get C hw (inC inW8) (kd_lt kp96 (by decide)) (ce8 kp96) rfl 5 (by decide) (wc w_480) (v := .long (L 96 5)) rfl dX8_nextStart_90 ?_
    refine lv_aload_n C.1 C.2.1 dX8_nextStart_93 rfl (lv_at hl 0 rfl) ?_
    refine c_get C hw (inC inW8) (kd_lt kp96 (by decide)) (ce8 kp96) rfl 4 (by decide) (wc w_479) (v := .int (F 96 4)) rfl dX8_nextStart_94 ?_
    refine lv_lushr (v := jlushr (L 96 5) (F 96 4)) C.1 C.2.1 dX8_nextStart_97 rfl ?_
    refine lv_lconst (v := (1 : Int64)) C.1 C.2.1 dX8_nextStart_98 (by decide) ?_
    refine lv_land C.1 C.2.1 dX8_nextStart_99 ?_
    refine lv_lconst (v := (0 : Int64)) C.1 C.2.1 dX8_nextStart_100 (by decide) ?_
    refine W.lcmp C.1 C.2.1 dX8_nextStart_101 ?_
    refine lv_if_eq (tgt := 107) C.1 C.2.1 dX8_nextStart_102 (by decide) (fun c102 => ?_) (fun c102 => ?_)
    · replace hh := hh.1 c102
      refine lv_iinc (v := x2 + (1 : Int32)) (lv' := [(2, .int (x2 + (1 : Int32))), (0, .ref (h 96)), (1, .int x1)]) C.1 C.2.1 dX8_nextStart_107 hl (k := 2) rfl rfl (by decide) rfl (fun ls hl => ?_)
      refine lv_goto (tgt := 12) C.1 C.2.1 dX8_nextStart_110 (by decide) ?_
      exact hB12 _ _ _ _ _ _ _ _ hh hw (lv_sub hl [1, 2, 0] rfl)
    · replace hh := hh.2 c102
      refine lv_iconst (v := (1 : Int32)) C.1 C.2.1 dX8_nextStart_105 (by decide) ?_
      exact hR _ _ _ (F, L, r) _ _ dX8_nextStart_106 rfl hh hw
  · replace hh := hh.2 c84
    refine lv_iconst (v := (0 : Int32)) C.1 C.2.1 dX8_nextStart_87 (by decide) ?_
    exact hR _ _ _ (F, L, r) _ _ dX8_nextStart_88 rfl hh hw
def wpX8_nextStart_b12_body (B12 : (Nat → Nat → Int32) → (Nat → Nat → Int64) → (Nat → Nat → Nat) → Int32 → Int32 → Prop) (F : Nat → Nat → Int32) (L : Nat → Nat → Int64) (r : Nat → Nat → Nat) (x1 : Int32) (x2 : Int32) (K : Int32 → cS → Prop) : Prop :=
  (((36864 : Int32) ≤ x2) →
    K (0 : Int32) (F, L, r)) ∧
  (¬ ((36864 : Int32) ≤ x2) →
    ((((pt F 96 4 ((F 96 4) + (1 : Int32))) 96 4) < ((pt F 96 4 ((F 96 4) + (1 : Int32))) 66 2)) →
      wpX8_nextStart_b79 B12 (pt F 96 4 ((F 96 4) + (1 : Int32))) L r x1 x2 K) ∧
    (¬ (((pt F 96 4 ((F 96 4) + (1 : Int32))) 96 4) < ((pt F 96 4 ((F 96 4) + (1 : Int32))) 66 2)) →
      wpX1_raiseWalls 66 (pt (pt (pt F 96 4 ((F 96 4) + (1 : Int32))) 96 4 (0 : Int32)) 96 3 (((pt (pt F 96 4 ((F 96 4) + (1 : Int32))) 96 4 (0 : Int32)) 96 3) + (1 : Int32))) L r ((pt (pt (pt F 96 4 ((F 96 4) + (1 : Int32))) 96 4 (0 : Int32)) 96 3 (((pt (pt F 96 4 ((F 96 4) + (1 : Int32))) 96 4 (0 : Int32)) 96 3) + (1 : Int32))) 96 3) (fun u65 =>
        wpX1_reach 66 u65.1 u65.2.1 u65.2.2 (fun r73 u73 =>
        wpX8_nextStart_b79 B12 u73.1 (ptL u73.2.1 96 5 r73) u73.2.2 x1 x2 K))))
set_option maxHeartbeats 4000000 in
set_option maxRecDepth 100000 in
theorem tX8_nextStart_b12_body {B12 : (Nat → Nat → Int32) → (Nat → Nat → Int64) → (Nat → Nat → Nat) → Int32 → Int32 → Prop} {K : Int32 → cS → Prop} (C : CallFix p m c cX8_nextStart 3 s args wsX8_nextStart RX8) (hR : Rti .boolean p l e rmX8_nextStart s m args below meth c cX8_nextStart D A (cT cI cL cF cM) (cWu h cI cL cF cM) K Q) (hB12 : ∀ (F : Nat → Nat → Int32) (L : Nat → Nat → Int64) (r : Nat → Nat → Nat) (x1 : Int32) (x2 : Int32) (H : Heap) (locs : List Loc) (ls : Array Slot), B12 F L r x1 x2 → Wd D A s (cT cI cL cF cM) (cW h cI cL cF cM F L r) H locs → lv_has ls 3 [(0, .ref (h 96)), (1, .int x1), (2, .int x2)] → W p l e rmX8_nextStart s m args below meth c H locs 0 0 Q (F0 m 12 ls [])) {F : Nat → Nat → Int32} {L : Nat → Nat → Int64} {r : Nat → Nat → Nat} {x1 : Int32} {x2 : Int32} (hh : wpX8_nextStart_b12_body B12 F L r x1 x2 K) {H : Heap} {locs : List Loc} {ls : Array Slot} (hw : Wd D A s (cT cI cL cF cM) (cW h cI cL cF cM F L r) H locs) (hl : lv_has ls 3 [(0, .ref (h 96)), (1, .int x1), (2, .int x2)]) : W p l e rmX8_nextStart s m args below meth c H locs 0 0 Q (F0 m 12 ls []) := by
  unfold wpX8_nextStart_b12_body at hh
  refine lv_iload_n C.1 C.2.1 dX8_nextStart_12 rfl (lv_at hl 2 rfl) ?_
  refine lv_ldc C.1 C.2.1 C.2.2.2.1 (C.2.2.2.2 _ (wc w_1094)) dX8_nextStart_13 ?_
  refine lv_icmp_ge (tgt := 113) C.1 C.2.1 dX8_nextStart_15 (by decide) (fun c15 => ?_) (fun c15 => ?_)
  · replace hh := hh.1 c15
    refine lv_iconst (v := (0 : Int32)) C.1 C.2.1 dX8_nextStart_113 (by decide) ?_
    exact hR _ _ _ (F, L, r) _ _ dX8_nextStart_114 rfl hh hw
  · replace hh := hh.2 c15
    refine lv_aload_n C.1 C.2.1 dX8_nextStart_18 rfl (lv_at hl 0 rfl) ?_
    refine lv_dup C.1 C.2.1 dX8_nextStart_19 rfl ?_
    refine c_get C hw (inC inW8) (kd_lt kp96 (by decide)) (ce8 kp96) rfl 4 (by decide) (wc w_479) (v := .int (F 96 4)) rfl dX8_nextStart_20 ?_
    refine lv_iconst (v := (1 : Int32)) C.1 C.2.1 dX8_nextStart_23 (by decide) ?_
    refine lv_iadd C.1 C.2.1 dX8_nextStart_24 ?_
    refine c_puti C hw (inC inW8) tyX8 tyX8_ok nmX8 (kd_lt kp96 (by decide)) (ce8 kp96) rfl 4 (by decide) (wc w_479) rfl (ty := .int) (by decide +kernel) rfl rfl (Nat.le_of_ble_eq_true rfl) rfl dX8_nextStart_25 (fun H locs hw => ?_)
    refine lv_aload_n C.1 C.2.1 dX8_nextStart_28 rfl (lv_at hl 0 rfl) ?_
    refine c_get C hw (inC inW8) (kd_lt kp96 (by decide)) (ce8 kp96) rfl 4 (by decide) (wc w_479) (v := .int ((pt F 96 4 ((F 96 4) + (1 : Int32))) 96 4)) rfl dX8_nextStart_29 ?_
    refine lv_aload_n C.1 C.2.1 dX8_nextStart_32 rfl (lv_at hl 0 rfl) ?_
    refine c_get C hw (inC inW8) (kd_lt kp96 (by decide)) (ce8 kp96) rfl 0 (by decide) (wc w_475) (v := .ref (h 66)) rfl dX8_nextStart_33 ?_
    refine c_get C hw (inC inW1) (kd_lt kp66 (by decide)) (ce1 kp66) rfl 2 (by decide) (wc w_359) (v := .int ((pt F 96 4 ((F 96 4) + (1 : Int32))) 66 2)) rfl dX8_nextStart_36 ?_
    refine lv_icmp_lt (tgt := 79) C.1 C.2.1 dX8_nextStart_39 (by decide) (fun c39 => ?_) (fun c39 => ?_)
    · replace hh := hh.1 c39
      exact tX8_nextStart_b79 C hR hB12 hh hw hl
    · replace hh := hh.2 c39
      refine lv_aload_n C.1 C.2.1 dX8_nextStart_42 rfl (lv_at hl 0 rfl) ?_
      refine lv_iconst (v := (0 : Int32)) C.1 C.2.1 dX8_nextStart_43 (by decide) ?_
      refine c_puti C hw (inC inW8) tyX8 tyX8_ok nmX8 (kd_lt kp96 (by decide)) (ce8 kp96) rfl 4 (by decide) (wc w_479) rfl (ty := .int) (by decide +kernel) rfl rfl (Nat.le_of_ble_eq_true rfl) rfl dX8_nextStart_44 (fun H locs hw => ?_)
      refine lv_aload_n C.1 C.2.1 dX8_nextStart_47 rfl (lv_at hl 0 rfl) ?_
      refine lv_dup C.1 C.2.1 dX8_nextStart_48 rfl ?_
      refine c_get C hw (inC inW8) (kd_lt kp96 (by decide)) (ce8 kp96) rfl 3 (by decide) (wc w_478) (v := .int ((pt (pt F 96 4 ((F 96 4) + (1 : Int32))) 96 4 (0 : Int32)) 96 3)) rfl dX8_nextStart_49 ?_
      refine lv_iconst (v := (1 : Int32)) C.1 C.2.1 dX8_nextStart_52 (by decide) ?_
      refine lv_iadd C.1 C.2.1 dX8_nextStart_53 ?_
      refine c_puti C hw (inC inW8) tyX8 tyX8_ok nmX8 (kd_lt kp96 (by decide)) (ce8 kp96) rfl 3 (by decide) (wc w_478) rfl (ty := .int) (by decide +kernel) rfl rfl (Nat.le_of_ble_eq_true rfl) rfl dX8_nextStart_54 (fun H locs hw => ?_)
      refine lv_aload_n C.1 C.2.1 dX8_nextStart_57 rfl (lv_at hl 0 rfl) ?_
      refine c_get C hw (inC inW8) (kd_lt kp96 (by decide)) (ce8 kp96) rfl 0 (by decide) (wc w_475) (v := .ref (h 66)) rfl dX8_nextStart_58 ?_
      refine lv_aload_n C.1 C.2.1 dX8_nextStart_61 rfl (lv_at hl 0 rfl) ?_
      refine c_get C hw (inC inW8) (kd_lt kp96 (by decide)) (ce8 kp96) rfl 3 (by decide) (wc w_478) (v := .int ((pt (pt (pt F 96 4 ((F 96 4) + (1 : Int32))) 96 4 (0 : Int32)) 96 3 (((pt (pt F 96 4 ((F 96 4) + (1 : Int32))) 96 4 (0 : Int32)) 96 3) + (1 : Int32))) 96 3)) rfl dX8_nextStart_62 ?_
      refine c_Vv C hw (ctX1_raiseWalls l D h cI cL cF cM 66 kp66 (pt (pt (pt F 96 4 ((F 96 4) + (1 : Int32))) 96 4 (0 : Int32)) 96 3 (((pt (pt F 96 4 ((F 96 4) + (1 : Int32))) 96 4 (0 : Int32)) 96 3) + (1 : Int32))) L r ((pt (pt (pt F 96 4 ((F 96 4) + (1 : Int32))) 96 4 (0 : Int32)) 96 3 (((pt (pt F 96 4 ((F 96 4) + (1 : Int32))) 96 4 (0 : Int32)) 96 3) + (1 : Int32))) 96 3) hh) (cwV 1 C.2.2.2.2 (gd_V w_1103 w_1104 w_1105 w_120 w_1106) rfl rfl rfl cdX1_raiseWalls ⟨Nat.le_of_ble_eq_true rfl, Nat.le_of_ble_eq_true rfl⟩) rfl (kd_lt kp66 (by decide)) (ce1 kp66) rfl hl.1 (Nat.le_of_ble_eq_true rfl) dX8_nextStart_65 ⟨Nat.zero_le _, Nat.zero_le _⟩ (fun u65 H locs hh hw => ?_) rfl
      refine lv_aload_n C.1 C.2.1 dX8_nextStart_68 rfl (lv_at hl 0 rfl) ?_
      refine lv_aload_n C.1 C.2.1 dX8_nextStart_69 rfl (lv_at hl 0 rfl) ?_
      refine c_get C hw (inC inW8) (kd_lt kp96 (by decide)) (ce8 kp96) rfl 0 (by decide) (wc w_475) (v := .ref (h 66)) rfl dX8_nextStart_70 ?_
      refine c_Vl C hw (ctX1_reach l D h cI cL cF cM 66 kp66 u65.1 u65.2.1 u65.2.2 hh) (cwV 0 C.2.2.2.2 (gd_V w_1089 w_1053 w_1054 w_120 w_1055) rfl rfl rfl cdX1_reach ⟨Nat.le_of_ble_eq_true rfl, Nat.le_of_ble_eq_true rfl⟩) rfl (kd_lt kp66 (by decide)) (ce1 kp66) rfl hl.1 (Nat.le_of_ble_eq_true rfl) dX8_nextStart_73 ⟨Nat.zero_le _, Nat.zero_le _⟩ (fun r73 u73 H locs hh hw => ?_) rfl
      refine c_putl C hw (inC inW8) tyX8 tyX8_ok nmX8 (kd_lt kp96 (by decide)) (ce8 kp96) rfl 5 (by decide) (wc w_480) rfl (by decide +kernel) (Nat.le_of_ble_eq_true rfl) rfl dX8_nextStart_76 (fun H locs hw => ?_)
      exact tX8_nextStart_b79 C hR hB12 hh hw hl
def wpX8_nextStart_b12 (n_ : Nat) (F : Nat → Nat → Int32) (L : Nat → Nat → Int64) (r : Nat → Nat → Nat) (x1 : Int32) (x2 : Int32) (K : Int32 → cS → Prop) : Prop := match n_ with
  | 0 => False
  | n + 1 => wpX8_nextStart_b12_body (fun F L r x1 x2 => wpX8_nextStart_b12 n F L r x1 x2 K) F L r x1 x2 K
theorem tX8_nextStart_b12 {K : Int32 → cS → Prop} (C : CallFix p m c cX8_nextStart 3 s args wsX8_nextStart RX8) (hR : Rti .boolean p l e rmX8_nextStart s m args below meth c cX8_nextStart D A (cT cI cL cF cM) (cWu h cI cL cF cM) K Q) (n : Nat) : ∀ (F : Nat → Nat → Int32) (L : Nat → Nat → Int64) (r : Nat → Nat → Nat) (x1 : Int32) (x2 : Int32) (H : Heap) (locs : List Loc) (ls : Array Slot), wpX8_nextStart_b12 n F L r x1 x2 K → Wd D A s (cT cI cL cF cM) (cW h cI cL cF cM F L r) H locs → lv_has ls 3 [(0, .ref (h 96)), (1, .int x1), (2, .int x2)] → W p l e rmX8_nextStart s m args below meth c H locs 0 0 Q (F0 m 12 ls []) := by
  induction n with
  | zero => intro F L r x1 x2 H locs ls hh; exact hh.elim
  | succ n ih => intro F L r x1 x2 H locs ls hh hw hl; exact tX8_nextStart_b12_body C hR ih hh hw hl
def wpX8_nextStart_b0 (F : Nat → Nat → Int32) (L : Nat → Nat → Int64) (r : Nat → Nat → Nat) (K : Int32 → cS → Prop) : Prop :=
  wpX1_wallNumbers 66 F L r (fun r5 u5 =>
    ∃ n, wpX8_nextStart_b12 n u5.1 u5.2.1 u5.2.2 (jshl (1 : Int32) r5) (0 : Int32) K)
set_option maxHeartbeats 4000000 in
set_option maxRecDepth 100000 in
theorem tX8_nextStart_b0 {K : Int32 → cS → Prop} (C : CallFix p m c cX8_nextStart 3 s args wsX8_nextStart RX8) (hR : Rti .boolean p l e rmX8_nextStart s m args below meth c cX8_nextStart D A (cT cI cL cF cM) (cWu h cI cL cF cM) K Q) {F : Nat → Nat → Int32} {L : Nat → Nat → Int64} {r : Nat → Nat → Nat} (hh : wpX8_nextStart_b0 F L r K) {H : Heap} {locs : List Loc} {ls : Array Slot} (hw : Wd D A s (cT cI cL cF cM) (cW h cI cL cF cM F L r) H locs) (hl : lv_has ls 3 [(0, .ref (h 96))]) : W p l e rmX8_nextStart s m args below meth c H locs 0 0 Q (F0 m 0 ls []) := by
  unfold wpX8_nextStart_b0 at hh
  refine lv_iconst (v := (1 : Int32)) C.1 C.2.1 dX8_nextStart_0 (by decide) ?_
  refine lv_aload_n C.1 C.2.1 dX8_nextStart_1 rfl (lv_at hl 0 rfl) ?_
  refine c_get C hw (inC inW8) (kd_lt kp96 (by decide)) (ce8 kp96) rfl 0 (by decide) (wc w_475) (v := .ref (h 66)) rfl dX8_nextStart_2 ?_
  refine c_Vi C hw (ctX1_wallNumbers l D h cI cL cF cM 66 kp66 F L r hh) (cwV 0 C.2.2.2.2 (gd_V w_1099 w_1100 w_1101 w_120 w_1102) rfl rfl rfl cdX1_wallNumbers ⟨Nat.le_of_ble_eq_true rfl, Nat.le_of_ble_eq_true rfl⟩) rfl (kd_lt kp66 (by decide)) (ce1 kp66) rfl hl.1 (Nat.le_of_ble_eq_true rfl) dX8_nextStart_5 ⟨Nat.zero_le _, Nat.zero_le _⟩ (fun r5 u5 H locs hh hw => ?_) rfl
  refine g_ishl C dX8_nextStart_8 ?_
  refine lv_istore_n (lv' := [(1, .int (jshl (1 : Int32) r5)), (0, .ref (h 96))]) C.1 C.2.1 dX8_nextStart_9 rfl hl (by decide) rfl (fun ls hl => ?_)
  refine lv_iconst (v := (0 : Int32)) C.1 C.2.1 dX8_nextStart_10 (by decide) ?_
  refine lv_istore_n (lv' := [(2, .int (0 : Int32)), (1, .int (jshl (1 : Int32) r5)), (0, .ref (h 96))]) C.1 C.2.1 dX8_nextStart_11 rfl hl (by decide) rfl (fun ls hl => ?_)
  obtain ⟨n, hh⟩ := hh
  exact tX8_nextStart_b12 C hR n _ _ _ _ _ _ _ _ hh hw (lv_sub hl [2, 1, 0] rfl)
def wpX8_nextStart (F : Nat → Nat → Int32) (L : Nat → Nat → Int64) (r : Nat → Nat → Nat) (K : Int32 → cS → Prop) : Prop := wpX8_nextStart_b0 F L r K
theorem ctX8_nextStart (l : Launch) (D : va_G) (h : Nat → Nat) (cI cL cF cM : ClassId) (F : Nat → Nat → Int32) (L : Nat → Nat → Int64) (r : Nat → Nat → Nat) {K : Int32 → cS → Prop} (hh : wpX8_nextStart F L r K) : Ci l yX8_nextStart wsX8_nextStart rmX8_nextStart [.ref (h 96)] D (cT cI cL cF cM) (cWu h cI cL cF cM) (F, L, r) K := by
  refine Ci_of (cc := cX8_nextStart) (maxL := 3) (by decide) rfl (Nat.le_of_ble_eq_true rfl) ?_
  intro p e s m below meth c A Q C hw hR ls hl
  exact tX8_nextStart_b0 C hR hh hw hl
theorem cdX8_nextStart : yX8_nextStart.cls = RX8 ∧ yX8_nextStart.cls ≠ "java/lang/invoke/MethodHandle" ∧ yX8_nextStart.cls ≠ "java/lang/invoke/VarHandle" ∧ (parseMethodDescriptor yX8_nextStart.desc).map (fun d => d.parameters.length) = some 0 := by decide +kernel
abbrev rmX8_findHeld : Room := { frames := 4, cells := 0, slots := 0, locals := 93 }
def wpX8_findHeld_b88 (a1 : Nat) (F : Nat → Nat → Int32) (L : Nat → Nat → Int64) (r : Nat → Nat → Nat) (K : cS → Prop) : Prop :=
  K (F, L, r)
set_option maxHeartbeats 4000000 in
set_option maxRecDepth 100000 in
theorem tX8_findHeld_b88 {a1 : Nat} {K : cS → Prop} (C : CallFix p m c cX8_findHeld 4 s args wsX8_findHeld RX8) (hR : Rtv p l e rmX8_findHeld s m args below meth c cX8_findHeld D A (cT cI cL cF cM) (cWu h cI cL cF cM) K Q) (ha1 : kd a1 = 6) {F : Nat → Nat → Int32} {L : Nat → Nat → Int64} {r : Nat → Nat → Nat} (hh : wpX8_findHeld_b88 a1 F L r K) {H : Heap} {locs : List Loc} {ls : Array Slot} (hw : Wd D A s (cT cI cL cF cM) (cW h cI cL cF cM F L r) H locs) (hl : lv_has ls 4 [(0, .ref (h 96))]) : W p l e rmX8_findHeld s m args below meth c H locs 0 0 Q (F0 m 88 ls []) := by
  unfold wpX8_findHeld_b88 at hh
  exact hR _ _ (F, L, r) _ _ dX8_findHeld_88 hh hw
def wpX8_findHeld_b18_body (B18 : (Nat → Nat → Int32) → (Nat → Nat → Int64) → (Nat → Nat → Nat) → Int32 → Int32 → Prop) (a1 : Nat) (F : Nat → Nat → Int32) (L : Nat → Nat → Int64) (r : Nat → Nat → Nat) (x2 : Int32) (x3 : Int32) (K : cS → Prop) : Prop :=
  (((36864 : Int32) ≤ x3) →
    wpX8_findHeld_b88 a1 F L r K) ∧
  (¬ ((36864 : Int32) ≤ x3) →
    wpX8_nextStart F L r (fun r25 u25 =>
      ((r25 = 0) →
      wpX8_findHeld_b88 a1 u25.1 u25.2.1 u25.2.2 K) ∧
    (¬ (r25 = 0) →
      wpX3_setDownWiped 86 u25.1 u25.2.1 u25.2.2 (u25.1 96 4) (fun u39 =>
        wpX3_arrive 86 a1 66 u39.1 u39.2.1 u39.2.2 (100 : Int32) (fun r53 u53 =>
        (¬ (r53 = (-2 : Int32)) →
        B18 u53.1 u53.2.1 u53.2.2 x2 (x3 + (1 : Int32))) ∧
      ((r53 = (-2 : Int32)) →
        vp_in x2 4 ∧ vp_in x2 4 ∧ K (pt (pt u53.1 97 (ix x2) (u53.1 96 3)) 98 (ix x2) ((pt u53.1 97 (ix x2) (u53.1 96 3)) 96 4), u53.2.1, u53.2.2)))))))
set_option maxHeartbeats 4000000 in
set_option maxRecDepth 100000 in
theorem tX8_findHeld_b18_body {a1 : Nat} {B18 : (Nat → Nat → Int32) → (Nat → Nat → Int64) → (Nat → Nat → Nat) → Int32 → Int32 → Prop} {K : cS → Prop} (C : CallFix p m c cX8_findHeld 4 s args wsX8_findHeld RX8) (hR : Rtv p l e rmX8_findHeld s m args below meth c cX8_findHeld D A (cT cI cL cF cM) (cWu h cI cL cF cM) K Q) (ha1 : kd a1 = 6) (hB18 : ∀ (F : Nat → Nat → Int32) (L : Nat → Nat → Int64) (r : Nat → Nat → Nat) (x2 : Int32) (x3 : Int32) (H : Heap) (locs : List Loc) (ls : Array Slot), B18 F L r x2 x3 → Wd D A s (cT cI cL cF cM) (cW h cI cL cF cM F L r) H locs → lv_has ls 4 [(0, .ref (h 96)), (1, .ref (h a1)), (2, .int x2), (3, .int x3)] → W p l e rmX8_findHeld s m args below meth c H locs 0 0 Q (F0 m 18 ls [])) {F : Nat → Nat → Int32} {L : Nat → Nat → Int64} {r : Nat → Nat → Nat} {x2 : Int32} {x3 : Int32} (hh : wpX8_findHeld_b18_body B18 a1 F L r x2 x3 K) {H : Heap} {locs : List Loc} {ls : Array Slot} (hw : Wd D A s (cT cI cL cF cM) (cW h cI cL cF cM F L r) H locs) (hl : lv_has ls 4 [(0, .ref (h 96)), (1, .ref (h a1)), (2, .int x2), (3, .int x3)]) : W p l e rmX8_findHeld s m args below meth c H locs 0 0 Q (F0 m 18 ls []) := by
  unfold wpX8_findHeld_b18_body at hh
  refine lv_iload_n C.1 C.2.1 dX8_findHeld_18 rfl (lv_at hl 3 rfl) ?_
  refine lv_ldc C.1 C.2.1 C.2.2.2.1 (C.2.2.2.2 _ (wc w_1094)) dX8_findHeld_19 ?_
  refine lv_icmp_ge (tgt := 88) C.1 C.2.1 dX8_findHeld_21 (by decide) (fun c21 => ?_) (fun c21 => ?_)
  · replace hh := hh.1 c21
    exact tX8_findHeld_b88 C hR ha1 hh hw (lv_sub hl [0] rfl)
  · replace hh := hh.2 c21
    refine lv_aload_n C.1 C.2.1 dX8_findHeld_24 rfl (lv_at hl 0 rfl) ?_
    refine c_Vi C hw (ctX8_nextStart l D h cI cL cF cM F L r hh) (cwV 0 C.2.2.2.2 (gd_V w_1095 w_1097 w_40 w_123 w_1098) rfl rfl rfl cdX8_nextStart ⟨Nat.le_of_ble_eq_true rfl, Nat.le_of_ble_eq_true rfl⟩) rfl (kd_lt kp96 (by decide)) (ce8 kp96) rfl hl.1 (Nat.le_of_ble_eq_true rfl) dX8_findHeld_25 ⟨Nat.zero_le _, Nat.zero_le _⟩ (fun r25 u25 H locs hh hw => ?_) rfl
    refine lv_if_eq (tgt := 88) C.1 C.2.1 dX8_findHeld_28 (by decide) (fun c28 => ?_) (fun c28 => ?_)
    · replace hh := hh.1 c28
      exact tX8_findHeld_b88 C hR ha1 hh hw (lv_sub hl [0] rfl)
    · replace hh := hh.2 c28
      refine lv_aload_n C.1 C.2.1 dX8_findHeld_31 rfl (lv_at hl 0 rfl) ?_
      refine c_get C hw (inC inW8) (kd_lt kp96 (by decide)) (ce8 kp96) rfl 1 (by decide) (wc w_476) (v := .ref (h 86)) rfl dX8_findHeld_32 ?_
      refine lv_aload_n C.1 C.2.1 dX8_findHeld_35 rfl (lv_at hl 0 rfl) ?_
      refine c_get C hw (inC inW8) (kd_lt kp96 (by decide)) (ce8 kp96) rfl 4 (by decide) (wc w_479) (v := .int (u25.1 96 4)) rfl dX8_findHeld_36 ?_
      refine c_Vv C hw (ctX3_setDownWiped l D h cI cL cF cM 86 kp86 u25.1 u25.2.1 u25.2.2 (u25.1 96 4) hh) (cwV 1 C.2.2.2.2 (gd_V w_1117 w_914 w_915 w_121 w_916) rfl rfl rfl cdX3_setDownWiped ⟨Nat.le_of_ble_eq_true rfl, Nat.le_of_ble_eq_true rfl⟩) rfl (kd_lt kp86 (by decide)) (ce3 kp86) rfl hl.1 (Nat.le_of_ble_eq_true rfl) dX8_findHeld_39 ⟨Nat.zero_le _, Nat.zero_le _⟩ (fun u39 H locs hh hw => ?_) rfl
      refine lv_aload_n C.1 C.2.1 dX8_findHeld_42 rfl (lv_at hl 0 rfl) ?_
      refine c_get C hw (inC inW8) (kd_lt kp96 (by decide)) (ce8 kp96) rfl 1 (by decide) (wc w_476) (v := .ref (h 86)) rfl dX8_findHeld_43 ?_
      refine lv_aload_n C.1 C.2.1 dX8_findHeld_46 rfl (lv_at hl 1 rfl) ?_
      refine lv_aload_n C.1 C.2.1 dX8_findHeld_47 rfl (lv_at hl 0 rfl) ?_
      refine c_get C hw (inC inW8) (kd_lt kp96 (by decide)) (ce8 kp96) rfl 0 (by decide) (wc w_475) (v := .ref (h 66)) rfl dX8_findHeld_48 ?_
      refine lv_bipush (v := (100 : Int32)) C.1 C.2.1 dX8_findHeld_51 (by decide) ?_
      refine c_Vi C hw (ctX3_arrive l D h cI cL cF cM 86 a1 66 kp86 ha1 kp66 u39.1 u39.2.1 u39.2.2 (100 : Int32) hh) (cwV 3 C.2.2.2.2 (gd_V w_1118 w_1040 w_1041 w_121 w_1042) rfl rfl rfl cdX3_arrive ⟨Nat.le_of_ble_eq_true rfl, Nat.le_of_ble_eq_true rfl⟩) rfl (kd_lt kp86 (by decide)) (ce3 kp86) rfl hl.1 (Nat.le_of_ble_eq_true rfl) dX8_findHeld_53 ⟨Nat.zero_le _, Nat.zero_le _⟩ (fun r53 u53 H locs hh hw => ?_) rfl
      refine lv_bipush (v := (-2 : Int32)) C.1 C.2.1 dX8_findHeld_56 (by decide) ?_
      refine lv_icmp_ne (tgt := 82) C.1 C.2.1 dX8_findHeld_58 (by decide) (fun c58 => ?_) (fun c58 => ?_)
      · replace hh := hh.1 c58
        refine lv_iinc (v := x3 + (1 : Int32)) (lv' := [(3, .int (x3 + (1 : Int32))), (0, .ref (h 96)), (1, .ref (h a1)), (2, .int x2)]) C.1 C.2.1 dX8_findHeld_82 hl (k := 3) rfl rfl (by decide) rfl (fun ls hl => ?_)
        refine lv_goto (tgt := 18) C.1 C.2.1 dX8_findHeld_85 (by decide) ?_
        exact hB18 _ _ _ _ _ _ _ _ hh hw (lv_sub hl [1, 2, 3, 0] rfl)
      · replace hh := hh.2 c58
        refine lv_aload_n C.1 C.2.1 dX8_findHeld_61 rfl (lv_at hl 0 rfl) ?_
        refine c_get C hw (inC inW8) (kd_lt kp96 (by decide)) (ce8 kp96) rfl 8 (by decide) (wc w_483) (v := .ref (h 97)) rfl dX8_findHeld_62 ?_
        refine lv_iload_n C.1 C.2.1 dX8_findHeld_65 rfl (lv_at hl 2 rfl) ?_
        refine lv_aload_n C.1 C.2.1 dX8_findHeld_66 rfl (lv_at hl 0 rfl) ?_
        refine c_get C hw (inC inW8) (kd_lt kp96 (by decide)) (ce8 kp96) rfl 3 (by decide) (wc w_478) (v := .int (u53.1 96 3)) rfl dX8_findHeld_67 ?_
        obtain ⟨hi70, hh⟩ := hh
        refine c_ias C hw (kd_lt kp97 (by decide)) (ce12 kp97) hi70 dX8_findHeld_70 (fun H locs hw => ?_)
        refine lv_aload_n C.1 C.2.1 dX8_findHeld_71 rfl (lv_at hl 0 rfl) ?_
        refine c_get C hw (inC inW8) (kd_lt kp96 (by decide)) (ce8 kp96) rfl 9 (by decide) (wc w_484) (v := .ref (h 98)) rfl dX8_findHeld_72 ?_
        refine lv_iload_n C.1 C.2.1 dX8_findHeld_75 rfl (lv_at hl 2 rfl) ?_
        refine lv_aload_n C.1 C.2.1 dX8_findHeld_76 rfl (lv_at hl 0 rfl) ?_
        refine c_get C hw (inC inW8) (kd_lt kp96 (by decide)) (ce8 kp96) rfl 4 (by decide) (wc w_479) (v := .int ((pt u53.1 97 (ix x2) (u53.1 96 3)) 96 4)) rfl dX8_findHeld_77 ?_
        obtain ⟨hi80, hh⟩ := hh
        refine c_ias C hw (kd_lt kp98 (by decide)) (ce12 kp98) hi80 dX8_findHeld_80 (fun H locs hw => ?_)
        exact hR _ _ (pt (pt u53.1 97 (ix x2) (u53.1 96 3)) 98 (ix x2) ((pt u53.1 97 (ix x2) (u53.1 96 3)) 96 4), u53.2.1, u53.2.2) _ _ dX8_findHeld_81 hh hw
def wpX8_findHeld_b18 (a1 : Nat) (n_ : Nat) (F : Nat → Nat → Int32) (L : Nat → Nat → Int64) (r : Nat → Nat → Nat) (x2 : Int32) (x3 : Int32) (K : cS → Prop) : Prop := match n_ with
  | 0 => False
  | n + 1 => wpX8_findHeld_b18_body (fun F L r x2 x3 => wpX8_findHeld_b18 a1 n F L r x2 x3 K) a1 F L r x2 x3 K
theorem tX8_findHeld_b18 {a1 : Nat} {K : cS → Prop} (C : CallFix p m c cX8_findHeld 4 s args wsX8_findHeld RX8) (hR : Rtv p l e rmX8_findHeld s m args below meth c cX8_findHeld D A (cT cI cL cF cM) (cWu h cI cL cF cM) K Q) (ha1 : kd a1 = 6) (n : Nat) : ∀ (F : Nat → Nat → Int32) (L : Nat → Nat → Int64) (r : Nat → Nat → Nat) (x2 : Int32) (x3 : Int32) (H : Heap) (locs : List Loc) (ls : Array Slot), wpX8_findHeld_b18 a1 n F L r x2 x3 K → Wd D A s (cT cI cL cF cM) (cW h cI cL cF cM F L r) H locs → lv_has ls 4 [(0, .ref (h 96)), (1, .ref (h a1)), (2, .int x2), (3, .int x3)] → W p l e rmX8_findHeld s m args below meth c H locs 0 0 Q (F0 m 18 ls []) := by
  induction n with
  | zero => intro F L r x2 x3 H locs ls hh; exact hh.elim
  | succ n ih => intro F L r x2 x3 H locs ls hh hw hl; exact tX8_findHeld_b18_body C hR ha1 ih hh hw hl
def wpX8_findHeld_b0 (a1 : Nat) (F : Nat → Nat → Int32) (L : Nat → Nat → Int64) (r : Nat → Nat → Nat) (x2 : Int32) (K : cS → Prop) : Prop :=
  vp_in x2 4 ∧ vp_in x2 4 ∧ ∃ n, wpX8_findHeld_b18 a1 n (pt (pt F 97 (ix x2) (-2 : Int32)) 98 (ix x2) (-2 : Int32)) L r x2 (0 : Int32) K
set_option maxHeartbeats 4000000 in
set_option maxRecDepth 100000 in
theorem tX8_findHeld_b0 {a1 : Nat} {K : cS → Prop} (C : CallFix p m c cX8_findHeld 4 s args wsX8_findHeld RX8) (hR : Rtv p l e rmX8_findHeld s m args below meth c cX8_findHeld D A (cT cI cL cF cM) (cWu h cI cL cF cM) K Q) (ha1 : kd a1 = 6) {F : Nat → Nat → Int32} {L : Nat → Nat → Int64} {r : Nat → Nat → Nat} {x2 : Int32} (hh : wpX8_findHeld_b0 a1 F L r x2 K) {H : Heap} {locs : List Loc} {ls : Array Slot} (hw : Wd D A s (cT cI cL cF cM) (cW h cI cL cF cM F L r) H locs) (hl : lv_has ls 4 [(0, .ref (h 96)), (1, .ref (h a1)), (2, .int x2)]) : W p l e rmX8_findHeld s m args below meth c H locs 0 0 Q (F0 m 0 ls []) := by
  unfold wpX8_findHeld_b0 at hh
  refine lv_aload_n C.1 C.2.1 dX8_findHeld_0 rfl (lv_at hl 0 rfl) ?_
  refine c_get C hw (inC inW8) (kd_lt kp96 (by decide)) (ce8 kp96) rfl 8 (by decide) (wc w_483) (v := .ref (h 97)) rfl dX8_findHeld_1 ?_
  refine lv_iload_n C.1 C.2.1 dX8_findHeld_4 rfl (lv_at hl 2 rfl) ?_
  refine lv_bipush (v := (-2 : Int32)) C.1 C.2.1 dX8_findHeld_5 (by decide) ?_
  obtain ⟨hi7, hh⟩ := hh
  refine c_ias C hw (kd_lt kp97 (by decide)) (ce12 kp97) hi7 dX8_findHeld_7 (fun H locs hw => ?_)
  refine lv_aload_n C.1 C.2.1 dX8_findHeld_8 rfl (lv_at hl 0 rfl) ?_
  refine c_get C hw (inC inW8) (kd_lt kp96 (by decide)) (ce8 kp96) rfl 9 (by decide) (wc w_484) (v := .ref (h 98)) rfl dX8_findHeld_9 ?_
  refine lv_iload_n C.1 C.2.1 dX8_findHeld_12 rfl (lv_at hl 2 rfl) ?_
  refine lv_bipush (v := (-2 : Int32)) C.1 C.2.1 dX8_findHeld_13 (by decide) ?_
  obtain ⟨hi15, hh⟩ := hh
  refine c_ias C hw (kd_lt kp98 (by decide)) (ce12 kp98) hi15 dX8_findHeld_15 (fun H locs hw => ?_)
  refine lv_iconst (v := (0 : Int32)) C.1 C.2.1 dX8_findHeld_16 (by decide) ?_
  refine lv_istore_n (lv' := [(3, .int (0 : Int32)), (0, .ref (h 96)), (1, .ref (h a1)), (2, .int x2)]) C.1 C.2.1 dX8_findHeld_17 rfl hl (by decide) rfl (fun ls hl => ?_)
  obtain ⟨n, hh⟩ := hh
  exact tX8_findHeld_b18 C hR ha1 n _ _ _ _ _ _ _ _ hh hw (lv_sub hl [1, 2, 3, 0] rfl)
def wpX8_findHeld (a1 : Nat) (F : Nat → Nat → Int32) (L : Nat → Nat → Int64) (r : Nat → Nat → Nat) (x2 : Int32) (K : cS → Prop) : Prop := wpX8_findHeld_b0 a1 F L r x2 K
theorem ctX8_findHeld (l : Launch) (D : va_G) (h : Nat → Nat) (cI cL cF cM : ClassId) (a1 : Nat) (ha1 : kd a1 = 6) (F : Nat → Nat → Int32) (L : Nat → Nat → Int64) (r : Nat → Nat → Nat) (x2 : Int32) {K : cS → Prop} (hh : wpX8_findHeld a1 F L r x2 K) : Cv l yX8_findHeld wsX8_findHeld rmX8_findHeld [.ref (h 96), .ref (h a1), .int x2] D (cT cI cL cF cM) (cWu h cI cL cF cM) (F, L, r) K := by
  refine Cv_of (cc := cX8_findHeld) (maxL := 4) (by decide) rfl (Nat.le_of_ble_eq_true rfl) ?_
  intro p e s m below meth c A Q C hw hR ls hl
  exact tX8_findHeld_b0 C hR ha1 hh hw hl
theorem cdX8_findHeld : yX8_findHeld.cls = RX8 ∧ yX8_findHeld.cls ≠ "java/lang/invoke/MethodHandle" ∧ yX8_findHeld.cls ≠ "java/lang/invoke/VarHandle" ∧ (parseMethodDescriptor yX8_findHeld.desc).map (fun d => d.parameters.length) = some 2 := by decide +kernel
abbrev rmX8_heldBy : Room := { frames := 5, cells := 0, slots := 0, locals := 116 }
def wpX8_heldBy_b67 (a1 : Nat) (F : Nat → Nat → Int32) (L : Nat → Nat → Int64) (r : Nat → Nat → Nat) (k0 : Int32) (K : Int32 → cS → Prop) : Prop :=
  K k0 (F, L, r)
set_option maxHeartbeats 4000000 in
set_option maxRecDepth 100000 in
theorem tX8_heldBy_b67 {a1 : Nat} {K : Int32 → cS → Prop} (C : CallFix p m c cX8_heldBy 6 s args wsX8_heldBy RX8) (hR : Rti .int p l e rmX8_heldBy s m args below meth c cX8_heldBy D A (cT cI cL cF cM) (cWu h cI cL cF cM) K Q) (ha1 : kd a1 = 6) {F : Nat → Nat → Int32} {L : Nat → Nat → Int64} {r : Nat → Nat → Nat} {k0 : Int32} (hh : wpX8_heldBy_b67 a1 F L r k0 K) {H : Heap} {locs : List Loc} {ls : Array Slot} (hw : Wd D A s (cT cI cL cF cM) (cW h cI cL cF cM F L r) H locs) (hl : lv_has ls 6 [(0, .ref (h 96))]) : W p l e rmX8_heldBy s m args below meth c H locs 0 0 Q (F0 m 67 ls [.int k0]) := by
  unfold wpX8_heldBy_b67 at hh
  exact hR _ _ _ (F, L, r) _ _ dX8_heldBy_67 rfl hh hw
def wpX8_heldBy_b45 (a1 : Nat) (F : Nat → Nat → Int32) (L : Nat → Nat → Int64) (r : Nat → Nat → Nat) (x4 : Int32) (x5 : Int32) (K : Int32 → cS → Prop) : Prop :=
  (¬ (x4 = 0) →
    vp_in x5 4 ∧ wpX8_heldBy_b67 a1 F L r (F 98 (ix x5)) K) ∧
  ((x4 = 0) →
    vp_in x5 4 ∧ wpX8_heldBy_b67 a1 F L r (F 97 (ix x5)) K)
set_option maxHeartbeats 4000000 in
set_option maxRecDepth 100000 in
theorem tX8_heldBy_b45 {a1 : Nat} {K : Int32 → cS → Prop} (C : CallFix p m c cX8_heldBy 6 s args wsX8_heldBy RX8) (hR : Rti .int p l e rmX8_heldBy s m args below meth c cX8_heldBy D A (cT cI cL cF cM) (cWu h cI cL cF cM) K Q) (ha1 : kd a1 = 6) {F : Nat → Nat → Int32} {L : Nat → Nat → Int64} {r : Nat → Nat → Nat} {x4 : Int32} {x5 : Int32} (hh : wpX8_heldBy_b45 a1 F L r x4 x5 K) {H : Heap} {locs : List Loc} {ls : Array Slot} (hw : Wd D A s (cT cI cL cF cM) (cW h cI cL cF cM F L r) H locs) (hl : lv_has ls 6 [(0, .ref (h 96)), (4, .int x4), (5, .int x5)]) : W p l e rmX8_heldBy s m args below meth c H locs 0 0 Q (F0 m 45 ls []) := by
  unfold wpX8_heldBy_b45 at hh
  refine lv_iload C.1 C.2.1 dX8_heldBy_45 (lv_at hl 1 rfl) ?_
  refine lv_if_ne (tgt := 60) C.1 C.2.1 dX8_heldBy_47 (by decide) (fun c47 => ?_) (fun c47 => ?_)
  · replace hh := hh.1 c47
    refine lv_aload_n C.1 C.2.1 dX8_heldBy_60 rfl (lv_at hl 0 rfl) ?_
    refine c_get C hw (inC inW8) (kd_lt kp96 (by decide)) (ce8 kp96) rfl 9 (by decide) (wc w_484) (v := .ref (h 98)) rfl dX8_heldBy_61 ?_
    refine lv_iload C.1 C.2.1 dX8_heldBy_64 (lv_at hl 2 rfl) ?_
    obtain ⟨hi66, hh⟩ := hh
    refine c_ial C hw (kd_lt kp98 (by decide)) (ce12 kp98) hi66 dX8_heldBy_66 ?_
    exact tX8_heldBy_b67 C hR ha1 hh hw (lv_sub hl [0] rfl)
  · replace hh := hh.2 c47
    refine lv_aload_n C.1 C.2.1 dX8_heldBy_50 rfl (lv_at hl 0 rfl) ?_
    refine c_get C hw (inC inW8) (kd_lt kp96 (by decide)) (ce8 kp96) rfl 8 (by decide) (wc w_483) (v := .ref (h 97)) rfl dX8_heldBy_51 ?_
    refine lv_iload C.1 C.2.1 dX8_heldBy_54 (lv_at hl 2 rfl) ?_
    obtain ⟨hi56, hh⟩ := hh
    refine c_ial C hw (kd_lt kp97 (by decide)) (ce12 kp97) hi56 dX8_heldBy_56 ?_
    refine lv_goto (tgt := 67) C.1 C.2.1 dX8_heldBy_57 (by decide) ?_
    exact tX8_heldBy_b67 C hR ha1 hh hw (lv_sub hl [0] rfl)
def wpX8_heldBy_b0 (a1 : Nat) (F : Nat → Nat → Int32) (L : Nat → Nat → Int64) (r : Nat → Nat → Nat) (x2 : Int32) (x3 : Int32) (x4 : Int32) (K : Int32 → cS → Prop) : Prop :=
  wpX8_sizeOf x2 x3 (fun r2 u2 =>
    (¬ (((jshr (F 96 6) r2) &&& (1 : Int32)) = 0) →
    wpX8_heldBy_b45 a1 F L r x4 r2 K) ∧
  ((((jshr (F 96 6) r2) &&& (1 : Int32)) = 0) →
    wpX8_layFirst F L r x2 x3 (fun u22 =>
      wpX8_findHeld a1 u22.1 u22.2.1 u22.2.2 r2 (fun u29 =>
      wpX8_heldBy_b45 a1 (pt u29.1 96 6 ((u29.1 96 6) ||| (jshl (1 : Int32) r2))) u29.2.1 u29.2.2 x4 r2 K))))
set_option maxHeartbeats 4000000 in
set_option maxRecDepth 100000 in
theorem tX8_heldBy_b0 {a1 : Nat} {K : Int32 → cS → Prop} (C : CallFix p m c cX8_heldBy 6 s args wsX8_heldBy RX8) (hR : Rti .int p l e rmX8_heldBy s m args below meth c cX8_heldBy D A (cT cI cL cF cM) (cWu h cI cL cF cM) K Q) (ha1 : kd a1 = 6) {F : Nat → Nat → Int32} {L : Nat → Nat → Int64} {r : Nat → Nat → Nat} {x2 : Int32} {x3 : Int32} {x4 : Int32} (hh : wpX8_heldBy_b0 a1 F L r x2 x3 x4 K) {H : Heap} {locs : List Loc} {ls : Array Slot} (hw : Wd D A s (cT cI cL cF cM) (cW h cI cL cF cM F L r) H locs) (hl : lv_has ls 6 [(0, .ref (h 96)), (1, .ref (h a1)), (2, .int x2), (3, .int x3), (4, .int x4)]) : W p l e rmX8_heldBy s m args below meth c H locs 0 0 Q (F0 m 0 ls []) := by
  unfold wpX8_heldBy_b0 at hh
  refine lv_iload_n C.1 C.2.1 dX8_heldBy_0 rfl (lv_at hl 2 rfl) ?_
  refine lv_iload_n C.1 C.2.1 dX8_heldBy_1 rfl (lv_at hl 3 rfl) ?_
  refine wd_Si C hw (ctX8_sizeOf l D x2 x3 hh) (va_cwS 2 C.2.2.2.2 (gd_S w_1080 w_1081 (ini_cls rfl w_123) w_1082) rfl rfl rfl cdX8_sizeOf ⟨Nat.le_of_ble_eq_true rfl, Nat.le_of_ble_eq_true rfl⟩) rfl hl.1 (Nat.le_of_ble_eq_true rfl) dX8_heldBy_2 ⟨Nat.zero_le _, Nat.zero_le _⟩ (fun r2 H locs hh hw => ?_) rfl
  refine lv_istore (lv' := [(5, .int r2), (0, .ref (h 96)), (1, .ref (h a1)), (2, .int x2), (3, .int x3), (4, .int x4)]) C.1 C.2.1 dX8_heldBy_5 hl (by decide) rfl (fun ls hl => ?_)
  refine lv_aload_n C.1 C.2.1 dX8_heldBy_7 rfl (lv_at hl 1 rfl) ?_
  refine c_get C hw (inC inW8) (kd_lt kp96 (by decide)) (ce8 kp96) rfl 6 (by decide) (wc w_481) (v := .int (F 96 6)) rfl dX8_heldBy_8 ?_
  refine lv_iload C.1 C.2.1 dX8_heldBy_11 (lv_at hl 0 rfl) ?_
  refine g_ishr C dX8_heldBy_13 ?_
  refine lv_iconst (v := (1 : Int32)) C.1 C.2.1 dX8_heldBy_14 (by decide) ?_
  refine lv_iand C.1 C.2.1 dX8_heldBy_15 ?_
  refine lv_if_ne (tgt := 45) C.1 C.2.1 dX8_heldBy_16 (by decide) (fun c16 => ?_) (fun c16 => ?_)
  · replace hh := hh.1 c16
    exact tX8_heldBy_b45 C hR ha1 hh hw (lv_sub hl [1, 5, 0] rfl)
  · replace hh := hh.2 c16
    refine lv_aload_n C.1 C.2.1 dX8_heldBy_19 rfl (lv_at hl 1 rfl) ?_
    refine lv_iload_n C.1 C.2.1 dX8_heldBy_20 rfl (lv_at hl 3 rfl) ?_
    refine lv_iload_n C.1 C.2.1 dX8_heldBy_21 rfl (lv_at hl 4 rfl) ?_
    refine c_Vv C hw (ctX8_layFirst l D h cI cL cF cM F L r x2 x3 hh) (cwV 2 C.2.2.2.2 (gd_V w_1084 w_1086 w_38 w_123 w_1087) rfl rfl rfl cdX8_layFirst ⟨Nat.le_of_ble_eq_true rfl, Nat.le_of_ble_eq_true rfl⟩) rfl (kd_lt kp96 (by decide)) (ce8 kp96) rfl hl.1 (Nat.le_of_ble_eq_true rfl) dX8_heldBy_22 ⟨Nat.zero_le _, Nat.zero_le _⟩ (fun u22 H locs hh hw => ?_) rfl
    refine lv_aload_n C.1 C.2.1 dX8_heldBy_25 rfl (lv_at hl 1 rfl) ?_
    refine lv_aload_n C.1 C.2.1 dX8_heldBy_26 rfl (lv_at hl 2 rfl) ?_
    refine lv_iload C.1 C.2.1 dX8_heldBy_27 (lv_at hl 0 rfl) ?_
    refine c_Vv C hw (ctX8_findHeld l D h cI cL cF cM a1 ha1 u22.1 u22.2.1 u22.2.2 r2 hh) (cwV 2 C.2.2.2.2 (gd_V w_1090 w_1092 w_39 w_123 w_1093) rfl rfl rfl cdX8_findHeld ⟨Nat.le_of_ble_eq_true rfl, Nat.le_of_ble_eq_true rfl⟩) rfl (kd_lt kp96 (by decide)) (ce8 kp96) rfl hl.1 (Nat.le_of_ble_eq_true rfl) dX8_heldBy_29 ⟨Nat.zero_le _, Nat.zero_le _⟩ (fun u29 H locs hh hw => ?_) rfl
    refine lv_aload_n C.1 C.2.1 dX8_heldBy_32 rfl (lv_at hl 1 rfl) ?_
    refine lv_dup C.1 C.2.1 dX8_heldBy_33 rfl ?_
    refine c_get C hw (inC inW8) (kd_lt kp96 (by decide)) (ce8 kp96) rfl 6 (by decide) (wc w_481) (v := .int (u29.1 96 6)) rfl dX8_heldBy_34 ?_
    refine lv_iconst (v := (1 : Int32)) C.1 C.2.1 dX8_heldBy_37 (by decide) ?_
    refine lv_iload C.1 C.2.1 dX8_heldBy_38 (lv_at hl 0 rfl) ?_
    refine g_ishl C dX8_heldBy_40 ?_
    refine lv_ior C.1 C.2.1 dX8_heldBy_41 ?_
    refine c_puti C hw (inC inW8) tyX8 tyX8_ok nmX8 (kd_lt kp96 (by decide)) (ce8 kp96) rfl 6 (by decide) (wc w_481) rfl (ty := .int) (by decide +kernel) rfl rfl (Nat.le_of_ble_eq_true rfl) rfl dX8_heldBy_42 (fun H locs hw => ?_)
    exact tX8_heldBy_b45 C hR ha1 hh hw (lv_sub hl [1, 5, 0] rfl)
def wpX8_heldBy (a1 : Nat) (F : Nat → Nat → Int32) (L : Nat → Nat → Int64) (r : Nat → Nat → Nat) (x2 : Int32) (x3 : Int32) (x4 : Int32) (K : Int32 → cS → Prop) : Prop := wpX8_heldBy_b0 a1 F L r x2 x3 x4 K
theorem ctX8_heldBy (l : Launch) (D : va_G) (h : Nat → Nat) (cI cL cF cM : ClassId) (a1 : Nat) (ha1 : kd a1 = 6) (F : Nat → Nat → Int32) (L : Nat → Nat → Int64) (r : Nat → Nat → Nat) (x2 : Int32) (x3 : Int32) (x4 : Int32) {K : Int32 → cS → Prop} (hh : wpX8_heldBy a1 F L r x2 x3 x4 K) : Ci l yX8_heldBy wsX8_heldBy rmX8_heldBy [.ref (h 96), .ref (h a1), .int x2, .int x3, .int x4] D (cT cI cL cF cM) (cWu h cI cL cF cM) (F, L, r) K := by
  refine Ci_of (cc := cX8_heldBy) (maxL := 6) (by decide) rfl (Nat.le_of_ble_eq_true rfl) ?_
  intro p e s m below meth c A Q C hw hR ls hl
  exact tX8_heldBy_b0 C hR ha1 hh hw hl
theorem cdX8_heldBy : yX8_heldBy.cls = RX8 ∧ yX8_heldBy.cls ≠ "java/lang/invoke/MethodHandle" ∧ yX8_heldBy.cls ≠ "java/lang/invoke/VarHandle" ∧ (parseMethodDescriptor yX8_heldBy.desc).map (fun d => d.parameters.length) = some 4 := by decide +kernel
abbrev rmX10_held : Room := { frames := 6, cells := 0, slots := 0, locals := 141 }
def wpX10_held_b17 (F : Nat → Nat → Int32) (L : Nat → Nat → Int64) (r : Nat → Nat → Nat) (K : Int32 → cS → Prop) : Prop :=
  K (-1 : Int32) (F, L, r)
set_option maxHeartbeats 4000000 in
set_option maxRecDepth 100000 in
theorem tX10_held_b17 {K : Int32 → cS → Prop} (C : CallFix p m c cX10_held 4 s args wsX10_held RX10) (hR : Rti .int p l e rmX10_held s m args below meth c cX10_held D A (cT cI cL cF cM) (cWu h cI cL cF cM) K Q) {F : Nat → Nat → Int32} {L : Nat → Nat → Int64} {r : Nat → Nat → Nat} (hh : wpX10_held_b17 F L r K) {H : Heap} {locs : List Loc} {ls : Array Slot} (hw : Wd D A s (cT cI cL cF cM) (cW h cI cL cF cM F L r) H locs) (hl : lv_has ls 4 [(0, .ref (h 0))]) : W p l e rmX10_held s m args below meth c H locs 0 0 Q (F0 m 17 ls []) := by
  unfold wpX10_held_b17 at hh
  refine lv_iconst (v := (-1 : Int32)) C.1 C.2.1 dX10_held_17 (by decide) ?_
  exact hR _ _ _ (F, L, r) _ _ dX10_held_18 rfl hh hw
def wpX10_held_b0 (F : Nat → Nat → Int32) (L : Nat → Nat → Int64) (r : Nat → Nat → Nat) (x1 : Int32) (x2 : Int32) (x3 : Int32) (K : Int32 → cS → Prop) : Prop :=
  wpX8_isSmall x1 x2 (fun r2 u2 =>
    ((r2 = 0) →
    wpX10_held_b17 F L r K) ∧
  (¬ (r2 = 0) →
    ((x3 < 0) →
      wpX10_held_b17 F L r K) ∧
    (¬ (x3 < 0) →
      ((x3 ≤ (1 : Int32)) →
        kd (r 0 3) = 6 ∧ wpX8_heldBy (r 0 3) F L r x1 x2 x3 (fun r30 u30 =>
          K r30 (u30.1, u30.2.1, u30.2.2))) ∧
      (¬ (x3 ≤ (1 : Int32)) →
        wpX10_held_b17 F L r K))))
set_option maxHeartbeats 4000000 in
set_option maxRecDepth 100000 in
theorem tX10_held_b0 {K : Int32 → cS → Prop} (C : CallFix p m c cX10_held 4 s args wsX10_held RX10) (hR : Rti .int p l e rmX10_held s m args below meth c cX10_held D A (cT cI cL cF cM) (cWu h cI cL cF cM) K Q) {F : Nat → Nat → Int32} {L : Nat → Nat → Int64} {r : Nat → Nat → Nat} {x1 : Int32} {x2 : Int32} {x3 : Int32} (hh : wpX10_held_b0 F L r x1 x2 x3 K) {H : Heap} {locs : List Loc} {ls : Array Slot} (hw : Wd D A s (cT cI cL cF cM) (cW h cI cL cF cM F L r) H locs) (hl : lv_has ls 4 [(0, .ref (h 0)), (1, .int x1), (2, .int x2), (3, .int x3)]) : W p l e rmX10_held s m args below meth c H locs 0 0 Q (F0 m 0 ls []) := by
  unfold wpX10_held_b0 at hh
  refine lv_iload_n C.1 C.2.1 dX10_held_0 rfl (lv_at hl 1 rfl) ?_
  refine lv_iload_n C.1 C.2.1 dX10_held_1 rfl (lv_at hl 2 rfl) ?_
  refine wd_Si C hw (ctX8_isSmall l D x1 x2 hh) (va_cwS 2 C.2.2.2.2 (gd_S w_1073 w_1074 (ini_cls rfl w_123) w_1075) rfl rfl rfl cdX8_isSmall ⟨Nat.le_of_ble_eq_true rfl, Nat.le_of_ble_eq_true rfl⟩) rfl hl.1 (Nat.le_of_ble_eq_true rfl) dX10_held_2 ⟨Nat.zero_le _, Nat.zero_le _⟩ (fun r2 H locs hh hw => ?_) rfl
  refine lv_if_eq (tgt := 17) C.1 C.2.1 dX10_held_5 (by decide) (fun c5 => ?_) (fun c5 => ?_)
  · replace hh := hh.1 c5
    exact tX10_held_b17 C hR hh hw (lv_sub hl [0] rfl)
  · replace hh := hh.2 c5
    refine lv_iload_n C.1 C.2.1 dX10_held_8 rfl (lv_at hl 3 rfl) ?_
    refine lv_if_lt (tgt := 17) C.1 C.2.1 dX10_held_9 (by decide) (fun c9 => ?_) (fun c9 => ?_)
    · replace hh := hh.1 c9
      exact tX10_held_b17 C hR hh hw (lv_sub hl [0] rfl)
    · replace hh := hh.2 c9
      refine lv_iload_n C.1 C.2.1 dX10_held_12 rfl (lv_at hl 3 rfl) ?_
      refine lv_iconst (v := (1 : Int32)) C.1 C.2.1 dX10_held_13 (by decide) ?_
      refine lv_icmp_le (tgt := 19) C.1 C.2.1 dX10_held_14 (by decide) (fun c14 => ?_) (fun c14 => ?_)
      · replace hh := hh.1 c14
        refine lv_aload_n C.1 C.2.1 dX10_held_19 rfl (lv_at hl 0 rfl) ?_
        refine c_get C hw (inC inW10) (kd_lt kp0 (by decide)) (ce10 kp0) rfl 13 (by decide) (wc w_583) (v := .ref (h 96)) rfl dX10_held_20 ?_
        refine lv_aload_n C.1 C.2.1 dX10_held_23 rfl (lv_at hl 0 rfl) ?_
        refine c_get C hw (inC inW10) (kd_lt kp0 (by decide)) (ce10 kp0) rfl 3 (by decide) (wc w_573) (v := .ref (h (r 0 3))) rfl dX10_held_24 ?_
        refine lv_iload_n C.1 C.2.1 dX10_held_27 rfl (lv_at hl 1 rfl) ?_
        refine lv_iload_n C.1 C.2.1 dX10_held_28 rfl (lv_at hl 2 rfl) ?_
        refine lv_iload_n C.1 C.2.1 dX10_held_29 rfl (lv_at hl 3 rfl) ?_
        obtain ⟨hk0, hh⟩ := hh
        refine c_Vi C hw (ctX8_heldBy l D h cI cL cF cM (r 0 3) hk0 F L r x1 x2 x3 hh) (cwV 4 C.2.2.2.2 (gd_V w_1076 w_1077 w_1078 w_123 w_1079) rfl rfl rfl cdX8_heldBy ⟨Nat.le_of_ble_eq_true rfl, Nat.le_of_ble_eq_true rfl⟩) rfl (kd_lt kp96 (by decide)) (ce8 kp96) rfl hl.1 (Nat.le_of_ble_eq_true rfl) dX10_held_30 ⟨Nat.zero_le _, Nat.zero_le _⟩ (fun r30 u30 H locs hh hw => ?_) rfl
        exact hR _ _ _ (u30.1, u30.2.1, u30.2.2) _ _ dX10_held_33 rfl hh hw
      · replace hh := hh.2 c14
        exact tX10_held_b17 C hR hh hw (lv_sub hl [0] rfl)
def wpX10_held (F : Nat → Nat → Int32) (L : Nat → Nat → Int64) (r : Nat → Nat → Nat) (x1 : Int32) (x2 : Int32) (x3 : Int32) (K : Int32 → cS → Prop) : Prop := wpX10_held_b0 F L r x1 x2 x3 K
theorem ctX10_held (l : Launch) (D : va_G) (h : Nat → Nat) (cI cL cF cM : ClassId) (F : Nat → Nat → Int32) (L : Nat → Nat → Int64) (r : Nat → Nat → Nat) (x1 : Int32) (x2 : Int32) (x3 : Int32) {K : Int32 → cS → Prop} (hh : wpX10_held F L r x1 x2 x3 K) : Ci l yX10_held wsX10_held rmX10_held [.ref (h 0), .int x1, .int x2, .int x3] D (cT cI cL cF cM) (cWu h cI cL cF cM) (F, L, r) K := by
  refine Ci_of (cc := cX10_held) (maxL := 4) (by decide) rfl (Nat.le_of_ble_eq_true rfl) ?_
  intro p e s m below meth c A Q C hw hR ls hl
  exact tX10_held_b0 C hR hh hw hl
theorem cdX10_held : yX10_held.cls = RX10 ∧ yX10_held.cls ≠ "java/lang/invoke/MethodHandle" ∧ yX10_held.cls ≠ "java/lang/invoke/VarHandle" ∧ (parseMethodDescriptor yX10_held.desc).map (fun d => d.parameters.length) = some 3 := by decide +kernel
abbrev rmX8_findLongest : Room := { frames := 4, cells := 0, slots := 0, locals := 93 }
def wpX8_findLongest_b94 (a1 : Nat) (F : Nat → Nat → Int32) (L : Nat → Nat → Int64) (r : Nat → Nat → Nat) (K : cS → Prop) : Prop :=
  K (F, L, r)
set_option maxHeartbeats 4000000 in
set_option maxRecDepth 100000 in
theorem tX8_findLongest_b94 {a1 : Nat} {K : cS → Prop} (C : CallFix p m c cX8_findLongest 5 s args wsX8_findLongest RX8) (hR : Rtv p l e rmX8_findLongest s m args below meth c cX8_findLongest D A (cT cI cL cF cM) (cWu h cI cL cF cM) K Q) (ha1 : kd a1 = 6) {F : Nat → Nat → Int32} {L : Nat → Nat → Int64} {r : Nat → Nat → Nat} (hh : wpX8_findLongest_b94 a1 F L r K) {H : Heap} {locs : List Loc} {ls : Array Slot} (hw : Wd D A s (cT cI cL cF cM) (cW h cI cL cF cM F L r) H locs) (hl : lv_has ls 5 [(0, .ref (h 96))]) : W p l e rmX8_findLongest s m args below meth c H locs 0 0 Q (F0 m 94 ls []) := by
  unfold wpX8_findLongest_b94 at hh
  exact hR _ _ (F, L, r) _ _ dX8_findLongest_94 hh hw
def wpX8_findLongest_b88 (B9 : (Nat → Nat → Int32) → (Nat → Nat → Int64) → (Nat → Nat → Nat) → Int32 → Int32 → Prop) (a1 : Nat) (F : Nat → Nat → Int32) (L : Nat → Nat → Int64) (r : Nat → Nat → Nat) (x2 : Int32) (x3 : Int32) (K : cS → Prop) : Prop :=
  B9 F L r x2 (x3 + (1 : Int32))
set_option maxHeartbeats 4000000 in
set_option maxRecDepth 100000 in
theorem tX8_findLongest_b88 {a1 : Nat} {B9 : (Nat → Nat → Int32) → (Nat → Nat → Int64) → (Nat → Nat → Nat) → Int32 → Int32 → Prop} {K : cS → Prop} (C : CallFix p m c cX8_findLongest 5 s args wsX8_findLongest RX8) (hR : Rtv p l e rmX8_findLongest s m args below meth c cX8_findLongest D A (cT cI cL cF cM) (cWu h cI cL cF cM) K Q) (ha1 : kd a1 = 6) (hB9 : ∀ (F : Nat → Nat → Int32) (L : Nat → Nat → Int64) (r : Nat → Nat → Nat) (x2 : Int32) (x3 : Int32) (H : Heap) (locs : List Loc) (ls : Array Slot), B9 F L r x2 x3 → Wd D A s (cT cI cL cF cM) (cW h cI cL cF cM F L r) H locs → lv_has ls 5 [(0, .ref (h 96)), (1, .ref (h a1)), (2, .int x2), (3, .int x3)] → W p l e rmX8_findLongest s m args below meth c H locs 0 0 Q (F0 m 9 ls [])) {F : Nat → Nat → Int32} {L : Nat → Nat → Int64} {r : Nat → Nat → Nat} {x2 : Int32} {x3 : Int32} (hh : wpX8_findLongest_b88 B9 a1 F L r x2 x3 K) {H : Heap} {locs : List Loc} {ls : Array Slot} (hw : Wd D A s (cT cI cL cF cM) (cW h cI cL cF cM F L r) H locs) (hl : lv_has ls 5 [(0, .ref (h 96)), (1, .ref (h a1)), (2, .int x2), (3, .int x3)]) : W p l e rmX8_findLongest s m args below meth c H locs 0 0 Q (F0 m 88 ls []) := by
  unfold wpX8_findLongest_b88 at hh
  refine lv_iinc (v := x3 + (1 : Int32)) (lv' := [(3, .int (x3 + (1 : Int32))), (0, .ref (h 96)), (1, .ref (h a1)), (2, .int x2)]) C.1 C.2.1 dX8_findLongest_88 hl (k := 3) rfl rfl (by decide) rfl (fun ls hl => ?_)
  refine lv_goto (tgt := 9) C.1 C.2.1 dX8_findLongest_91 (by decide) ?_
  exact hB9 _ _ _ _ _ _ _ _ hh hw (lv_sub hl [1, 2, 3, 0] rfl)
def wpX8_findLongest_b9_body (B9 : (Nat → Nat → Int32) → (Nat → Nat → Int64) → (Nat → Nat → Nat) → Int32 → Int32 → Prop) (a1 : Nat) (F : Nat → Nat → Int32) (L : Nat → Nat → Int64) (r : Nat → Nat → Nat) (x2 : Int32) (x3 : Int32) (K : cS → Prop) : Prop :=
  (((36864 : Int32) ≤ x3) →
    wpX8_findLongest_b94 a1 F L r K) ∧
  (¬ ((36864 : Int32) ≤ x3) →
    wpX8_nextStart F L r (fun r16 u16 =>
      ((r16 = 0) →
      wpX8_findLongest_b94 a1 u16.1 u16.2.1 u16.2.2 K) ∧
    (¬ (r16 = 0) →
      wpX3_setDownWiped 86 u16.1 u16.2.1 u16.2.2 (u16.1 96 4) (fun u30 =>
        wpX3_arrive 86 a1 66 u30.1 u30.2.1 u30.2.2 (100 : Int32) (fun r44 u44 =>
        vp_in x2 4 ∧ ((r44 ≤ (u44.1 99 (ix x2))) →
        wpX8_findLongest_b88 B9 a1 u44.1 u44.2.1 u44.2.2 x2 x3 K) ∧
      (¬ (r44 ≤ (u44.1 99 (ix x2))) →
        vp_in x2 4 ∧ vp_in x2 4 ∧ vp_in x2 4 ∧ wpX8_findLongest_b88 B9 a1 (pt (pt (pt u44.1 99 (ix x2) r44) 100 (ix x2) ((pt u44.1 99 (ix x2) r44) 96 3)) 101 (ix x2) ((pt (pt u44.1 99 (ix x2) r44) 100 (ix x2) ((pt u44.1 99 (ix x2) r44) 96 3)) 96 4)) u44.2.1 u44.2.2 x2 x3 K))))))
set_option maxHeartbeats 4000000 in
set_option maxRecDepth 100000 in
theorem tX8_findLongest_b9_body {a1 : Nat} {B9 : (Nat → Nat → Int32) → (Nat → Nat → Int64) → (Nat → Nat → Nat) → Int32 → Int32 → Prop} {K : cS → Prop} (C : CallFix p m c cX8_findLongest 5 s args wsX8_findLongest RX8) (hR : Rtv p l e rmX8_findLongest s m args below meth c cX8_findLongest D A (cT cI cL cF cM) (cWu h cI cL cF cM) K Q) (ha1 : kd a1 = 6) (hB9 : ∀ (F : Nat → Nat → Int32) (L : Nat → Nat → Int64) (r : Nat → Nat → Nat) (x2 : Int32) (x3 : Int32) (H : Heap) (locs : List Loc) (ls : Array Slot), B9 F L r x2 x3 → Wd D A s (cT cI cL cF cM) (cW h cI cL cF cM F L r) H locs → lv_has ls 5 [(0, .ref (h 96)), (1, .ref (h a1)), (2, .int x2), (3, .int x3)] → W p l e rmX8_findLongest s m args below meth c H locs 0 0 Q (F0 m 9 ls [])) {F : Nat → Nat → Int32} {L : Nat → Nat → Int64} {r : Nat → Nat → Nat} {x2 : Int32} {x3 : Int32} (hh : wpX8_findLongest_b9_body B9 a1 F L r x2 x3 K) {H : Heap} {locs : List Loc} {ls : Array Slot} (hw : Wd D A s (cT cI cL cF cM) (cW h cI cL cF cM F L r) H locs) (hl : lv_has ls 5 [(0, .ref (h 96)), (1, .ref (h a1)), (2, .int x2), (3, .int x3)]) : W p l e rmX8_findLongest s m args below meth c H locs 0 0 Q (F0 m 9 ls []) := by
  unfold wpX8_findLongest_b9_body at hh
  refine lv_iload_n C.1 C.2.1 dX8_findLongest_9 rfl (lv_at hl 3 rfl) ?_
  refine lv_ldc C.1 C.2.1 C.2.2.2.1 (C.2.2.2.2 _ (wc w_1094)) dX8_findLongest_10 ?_
  refine lv_icmp_ge (tgt := 94) C.1 C.2.1 dX8_findLongest_12 (by decide) (fun c12 => ?_) (fun c12 => ?_)
  · replace hh := hh.1 c12
    exact tX8_findLongest_b94 C hR ha1 hh hw (lv_sub hl [0] rfl)
  · replace hh := hh.2 c12
    refine lv_aload_n C.1 C.2.1 dX8_findLongest_15 rfl (lv_at hl 0 rfl) ?_
    refine c_Vi C hw (ctX8_nextStart l D h cI cL cF cM F L r hh) (cwV 0 C.2.2.2.2 (gd_V w_1095 w_1097 w_40 w_123 w_1098) rfl rfl rfl cdX8_nextStart ⟨Nat.le_of_ble_eq_true rfl, Nat.le_of_ble_eq_true rfl⟩) rfl (kd_lt kp96 (by decide)) (ce8 kp96) rfl hl.1 (Nat.le_of_ble_eq_true rfl) dX8_findLongest_16 ⟨Nat.zero_le _, Nat.zero_le _⟩ (fun r16 u16 H locs hh hw => ?_) rfl
    refine lv_if_eq (tgt := 94) C.1 C.2.1 dX8_findLongest_19 (by decide) (fun c19 => ?_) (fun c19 => ?_)
    · replace hh := hh.1 c19
      exact tX8_findLongest_b94 C hR ha1 hh hw (lv_sub hl [0] rfl)
    · replace hh := hh.2 c19
      refine lv_aload_n C.1 C.2.1 dX8_findLongest_22 rfl (lv_at hl 0 rfl) ?_
      refine c_get C hw (inC inW8) (kd_lt kp96 (by decide)) (ce8 kp96) rfl 1 (by decide) (wc w_476) (v := .ref (h 86)) rfl dX8_findLongest_23 ?_
      refine lv_aload_n C.1 C.2.1 dX8_findLongest_26 rfl (lv_at hl 0 rfl) ?_
      refine c_get C hw (inC inW8) (kd_lt kp96 (by decide)) (ce8 kp96) rfl 4 (by decide) (wc w_479) (v := .int (u16.1 96 4)) rfl dX8_findLongest_27 ?_
      refine c_Vv C hw (ctX3_setDownWiped l D h cI cL cF cM 86 kp86 u16.1 u16.2.1 u16.2.2 (u16.1 96 4) hh) (cwV 1 C.2.2.2.2 (gd_V w_1117 w_914 w_915 w_121 w_916) rfl rfl rfl cdX3_setDownWiped ⟨Nat.le_of_ble_eq_true rfl, Nat.le_of_ble_eq_true rfl⟩) rfl (kd_lt kp86 (by decide)) (ce3 kp86) rfl hl.1 (Nat.le_of_ble_eq_true rfl) dX8_findLongest_30 ⟨Nat.zero_le _, Nat.zero_le _⟩ (fun u30 H locs hh hw => ?_) rfl
      refine lv_aload_n C.1 C.2.1 dX8_findLongest_33 rfl (lv_at hl 0 rfl) ?_
      refine c_get C hw (inC inW8) (kd_lt kp96 (by decide)) (ce8 kp96) rfl 1 (by decide) (wc w_476) (v := .ref (h 86)) rfl dX8_findLongest_34 ?_
      refine lv_aload_n C.1 C.2.1 dX8_findLongest_37 rfl (lv_at hl 1 rfl) ?_
      refine lv_aload_n C.1 C.2.1 dX8_findLongest_38 rfl (lv_at hl 0 rfl) ?_
      refine c_get C hw (inC inW8) (kd_lt kp96 (by decide)) (ce8 kp96) rfl 0 (by decide) (wc w_475) (v := .ref (h 66)) rfl dX8_findLongest_39 ?_
      refine lv_bipush (v := (100 : Int32)) C.1 C.2.1 dX8_findLongest_42 (by decide) ?_
      refine c_Vi C hw (ctX3_arrive l D h cI cL cF cM 86 a1 66 kp86 ha1 kp66 u30.1 u30.2.1 u30.2.2 (100 : Int32) hh) (cwV 3 C.2.2.2.2 (gd_V w_1118 w_1040 w_1041 w_121 w_1042) rfl rfl rfl cdX3_arrive ⟨Nat.le_of_ble_eq_true rfl, Nat.le_of_ble_eq_true rfl⟩) rfl (kd_lt kp86 (by decide)) (ce3 kp86) rfl hl.1 (Nat.le_of_ble_eq_true rfl) dX8_findLongest_44 ⟨Nat.zero_le _, Nat.zero_le _⟩ (fun r44 u44 H locs hh hw => ?_) rfl
      refine lv_istore (lv' := [(4, .int r44), (0, .ref (h 96)), (1, .ref (h a1)), (2, .int x2), (3, .int x3)]) C.1 C.2.1 dX8_findLongest_47 hl (by decide) rfl (fun ls hl => ?_)
      refine lv_iload C.1 C.2.1 dX8_findLongest_49 (lv_at hl 0 rfl) ?_
      refine lv_aload_n C.1 C.2.1 dX8_findLongest_51 rfl (lv_at hl 1 rfl) ?_
      refine c_get C hw (inC inW8) (kd_lt kp96 (by decide)) (ce8 kp96) rfl 10 (by decide) (wc w_485) (v := .ref (h 99)) rfl dX8_findLongest_52 ?_
      refine lv_iload_n C.1 C.2.1 dX8_findLongest_55 rfl (lv_at hl 3 rfl) ?_
      obtain ⟨hi56, hh⟩ := hh
      refine c_ial C hw (kd_lt kp99 (by decide)) (ce12 kp99) hi56 dX8_findLongest_56 ?_
      refine lv_icmp_le (tgt := 88) C.1 C.2.1 dX8_findLongest_57 (by decide) (fun c57 => ?_) (fun c57 => ?_)
      · replace hh := hh.1 c57
        exact tX8_findLongest_b88 C hR ha1 hB9 hh hw (lv_sub hl [1, 2, 3, 4] rfl)
      · replace hh := hh.2 c57
        refine lv_aload_n C.1 C.2.1 dX8_findLongest_60 rfl (lv_at hl 1 rfl) ?_
        refine c_get C hw (inC inW8) (kd_lt kp96 (by decide)) (ce8 kp96) rfl 10 (by decide) (wc w_485) (v := .ref (h 99)) rfl dX8_findLongest_61 ?_
        refine lv_iload_n C.1 C.2.1 dX8_findLongest_64 rfl (lv_at hl 3 rfl) ?_
        refine lv_iload C.1 C.2.1 dX8_findLongest_65 (lv_at hl 0 rfl) ?_
        obtain ⟨hi67, hh⟩ := hh
        refine c_ias C hw (kd_lt kp99 (by decide)) (ce12 kp99) hi67 dX8_findLongest_67 (fun H locs hw => ?_)
        refine lv_aload_n C.1 C.2.1 dX8_findLongest_68 rfl (lv_at hl 1 rfl) ?_
        refine c_get C hw (inC inW8) (kd_lt kp96 (by decide)) (ce8 kp96) rfl 11 (by decide) (wc w_486) (v := .ref (h 100)) rfl dX8_findLongest_69 ?_
        refine lv_iload_n C.1 C.2.1 dX8_findLongest_72 rfl (lv_at hl 3 rfl) ?_
        refine lv_aload_n C.1 C.2.1 dX8_findLongest_73 rfl (lv_at hl 1 rfl) ?_
        refine c_get C hw (inC inW8) (kd_lt kp96 (by decide)) (ce8 kp96) rfl 3 (by decide) (wc w_478) (v := .int ((pt u44.1 99 (ix x2) r44) 96 3)) rfl dX8_findLongest_74 ?_
        obtain ⟨hi77, hh⟩ := hh
        refine c_ias C hw (kd_lt kp100 (by decide)) (ce12 kp100) hi77 dX8_findLongest_77 (fun H locs hw => ?_)
        refine lv_aload_n C.1 C.2.1 dX8_findLongest_78 rfl (lv_at hl 1 rfl) ?_
        refine c_get C hw (inC inW8) (kd_lt kp96 (by decide)) (ce8 kp96) rfl 12 (by decide) (wc w_487) (v := .ref (h 101)) rfl dX8_findLongest_79 ?_
        refine lv_iload_n C.1 C.2.1 dX8_findLongest_82 rfl (lv_at hl 3 rfl) ?_
        refine lv_aload_n C.1 C.2.1 dX8_findLongest_83 rfl (lv_at hl 1 rfl) ?_
        refine c_get C hw (inC inW8) (kd_lt kp96 (by decide)) (ce8 kp96) rfl 4 (by decide) (wc w_479) (v := .int ((pt (pt u44.1 99 (ix x2) r44) 100 (ix x2) ((pt u44.1 99 (ix x2) r44) 96 3)) 96 4)) rfl dX8_findLongest_84 ?_
        obtain ⟨hi87, hh⟩ := hh
        refine c_ias C hw (kd_lt kp101 (by decide)) (ce12 kp101) hi87 dX8_findLongest_87 (fun H locs hw => ?_)
        exact tX8_findLongest_b88 C hR ha1 hB9 hh hw (lv_sub hl [1, 2, 3, 4] rfl)
def wpX8_findLongest_b9 (a1 : Nat) (n_ : Nat) (F : Nat → Nat → Int32) (L : Nat → Nat → Int64) (r : Nat → Nat → Nat) (x2 : Int32) (x3 : Int32) (K : cS → Prop) : Prop := match n_ with
  | 0 => False
  | n + 1 => wpX8_findLongest_b9_body (fun F L r x2 x3 => wpX8_findLongest_b9 a1 n F L r x2 x3 K) a1 F L r x2 x3 K
theorem tX8_findLongest_b9 {a1 : Nat} {K : cS → Prop} (C : CallFix p m c cX8_findLongest 5 s args wsX8_findLongest RX8) (hR : Rtv p l e rmX8_findLongest s m args below meth c cX8_findLongest D A (cT cI cL cF cM) (cWu h cI cL cF cM) K Q) (ha1 : kd a1 = 6) (n : Nat) : ∀ (F : Nat → Nat → Int32) (L : Nat → Nat → Int64) (r : Nat → Nat → Nat) (x2 : Int32) (x3 : Int32) (H : Heap) (locs : List Loc) (ls : Array Slot), wpX8_findLongest_b9 a1 n F L r x2 x3 K → Wd D A s (cT cI cL cF cM) (cW h cI cL cF cM F L r) H locs → lv_has ls 5 [(0, .ref (h 96)), (1, .ref (h a1)), (2, .int x2), (3, .int x3)] → W p l e rmX8_findLongest s m args below meth c H locs 0 0 Q (F0 m 9 ls []) := by
  induction n with
  | zero => intro F L r x2 x3 H locs ls hh; exact hh.elim
  | succ n ih => intro F L r x2 x3 H locs ls hh hw hl; exact tX8_findLongest_b9_body C hR ha1 ih hh hw hl
def wpX8_findLongest_b0 (a1 : Nat) (F : Nat → Nat → Int32) (L : Nat → Nat → Int64) (r : Nat → Nat → Nat) (x2 : Int32) (K : cS → Prop) : Prop :=
  vp_in x2 4 ∧ ∃ n, wpX8_findLongest_b9 a1 n (pt F 99 (ix x2) (-1 : Int32)) L r x2 (0 : Int32) K
set_option maxHeartbeats 4000000 in
set_option maxRecDepth 100000 in
theorem tX8_findLongest_b0 {a1 : Nat} {K : cS → Prop} (C : CallFix p m c cX8_findLongest 5 s args wsX8_findLongest RX8) (hR : Rtv p l e rmX8_findLongest s m args below meth c cX8_findLongest D A (cT cI cL cF cM) (cWu h cI cL cF cM) K Q) (ha1 : kd a1 = 6) {F : Nat → Nat → Int32} {L : Nat → Nat → Int64} {r : Nat → Nat → Nat} {x2 : Int32} (hh : wpX8_findLongest_b0 a1 F L r x2 K) {H : Heap} {locs : List Loc} {ls : Array Slot} (hw : Wd D A s (cT cI cL cF cM) (cW h cI cL cF cM F L r) H locs) (hl : lv_has ls 5 [(0, .ref (h 96)), (1, .ref (h a1)), (2, .int x2)]) : W p l e rmX8_findLongest s m args below meth c H locs 0 0 Q (F0 m 0 ls []) := by
  unfold wpX8_findLongest_b0 at hh
  refine lv_aload_n C.1 C.2.1 dX8_findLongest_0 rfl (lv_at hl 0 rfl) ?_
  refine c_get C hw (inC inW8) (kd_lt kp96 (by decide)) (ce8 kp96) rfl 10 (by decide) (wc w_485) (v := .ref (h 99)) rfl dX8_findLongest_1 ?_
  refine lv_iload_n C.1 C.2.1 dX8_findLongest_4 rfl (lv_at hl 2 rfl) ?_
  refine lv_iconst (v := (-1 : Int32)) C.1 C.2.1 dX8_findLongest_5 (by decide) ?_
  obtain ⟨hi6, hh⟩ := hh
  refine c_ias C hw (kd_lt kp99 (by decide)) (ce12 kp99) hi6 dX8_findLongest_6 (fun H locs hw => ?_)
  refine lv_iconst (v := (0 : Int32)) C.1 C.2.1 dX8_findLongest_7 (by decide) ?_
  refine lv_istore_n (lv' := [(3, .int (0 : Int32)), (0, .ref (h 96)), (1, .ref (h a1)), (2, .int x2)]) C.1 C.2.1 dX8_findLongest_8 rfl hl (by decide) rfl (fun ls hl => ?_)
  obtain ⟨n, hh⟩ := hh
  exact tX8_findLongest_b9 C hR ha1 n _ _ _ _ _ _ _ _ hh hw (lv_sub hl [1, 2, 3, 0] rfl)
def wpX8_findLongest (a1 : Nat) (F : Nat → Nat → Int32) (L : Nat → Nat → Int64) (r : Nat → Nat → Nat) (x2 : Int32) (K : cS → Prop) : Prop := wpX8_findLongest_b0 a1 F L r x2 K
theorem ctX8_findLongest (l : Launch) (D : va_G) (h : Nat → Nat) (cI cL cF cM : ClassId) (a1 : Nat) (ha1 : kd a1 = 6) (F : Nat → Nat → Int32) (L : Nat → Nat → Int64) (r : Nat → Nat → Nat) (x2 : Int32) {K : cS → Prop} (hh : wpX8_findLongest a1 F L r x2 K) : Cv l yX8_findLongest wsX8_findLongest rmX8_findLongest [.ref (h 96), .ref (h a1), .int x2] D (cT cI cL cF cM) (cWu h cI cL cF cM) (F, L, r) K := by
  refine Cv_of (cc := cX8_findLongest) (maxL := 5) (by decide) rfl (Nat.le_of_ble_eq_true rfl) ?_
  intro p e s m below meth c A Q C hw hR ls hl
  exact tX8_findLongest_b0 C hR ha1 hh hw hl
theorem cdX8_findLongest : yX8_findLongest.cls = RX8 ∧ yX8_findLongest.cls ≠ "java/lang/invoke/MethodHandle" ∧ yX8_findLongest.cls ≠ "java/lang/invoke/VarHandle" ∧ (parseMethodDescriptor yX8_findLongest.desc).map (fun d => d.parameters.length) = some 2 := by decide +kernel
abbrev rmX8_longestBy : Room := { frames := 5, cells := 0, slots := 0, locals := 117 }
def wpX8_longestBy_b81 (a1 : Nat) (F : Nat → Nat → Int32) (L : Nat → Nat → Int64) (r : Nat → Nat → Nat) (k0 : Int32) (K : Int32 → cS → Prop) : Prop :=
  K k0 (F, L, r)
set_option maxHeartbeats 4000000 in
set_option maxRecDepth 100000 in
theorem tX8_longestBy_b81 {a1 : Nat} {K : Int32 → cS → Prop} (C : CallFix p m c cX8_longestBy 6 s args wsX8_longestBy RX8) (hR : Rti .int p l e rmX8_longestBy s m args below meth c cX8_longestBy D A (cT cI cL cF cM) (cWu h cI cL cF cM) K Q) (ha1 : kd a1 = 6) {F : Nat → Nat → Int32} {L : Nat → Nat → Int64} {r : Nat → Nat → Nat} {k0 : Int32} (hh : wpX8_longestBy_b81 a1 F L r k0 K) {H : Heap} {locs : List Loc} {ls : Array Slot} (hw : Wd D A s (cT cI cL cF cM) (cW h cI cL cF cM F L r) H locs) (hl : lv_has ls 6 [(0, .ref (h 96))]) : W p l e rmX8_longestBy s m args below meth c H locs 0 0 Q (F0 m 81 ls [.int k0]) := by
  unfold wpX8_longestBy_b81 at hh
  exact hR _ _ _ (F, L, r) _ _ dX8_longestBy_81 rfl hh hw
def wpX8_longestBy_b45 (a1 : Nat) (F : Nat → Nat → Int32) (L : Nat → Nat → Int64) (r : Nat → Nat → Nat) (x4 : Int32) (x5 : Int32) (K : Int32 → cS → Prop) : Prop :=
  (¬ (x4 = 0) →
    (¬ (x4 = (1 : Int32)) →
      vp_in x5 4 ∧ wpX8_longestBy_b81 a1 F L r (F 101 (ix x5)) K) ∧
    ((x4 = (1 : Int32)) →
      vp_in x5 4 ∧ wpX8_longestBy_b81 a1 F L r (F 100 (ix x5)) K)) ∧
  ((x4 = 0) →
    vp_in x5 4 ∧ K (F 99 (ix x5)) (F, L, r))
set_option maxHeartbeats 4000000 in
set_option maxRecDepth 100000 in
theorem tX8_longestBy_b45 {a1 : Nat} {K : Int32 → cS → Prop} (C : CallFix p m c cX8_longestBy 6 s args wsX8_longestBy RX8) (hR : Rti .int p l e rmX8_longestBy s m args below meth c cX8_longestBy D A (cT cI cL cF cM) (cWu h cI cL cF cM) K Q) (ha1 : kd a1 = 6) {F : Nat → Nat → Int32} {L : Nat → Nat → Int64} {r : Nat → Nat → Nat} {x4 : Int32} {x5 : Int32} (hh : wpX8_longestBy_b45 a1 F L r x4 x5 K) {H : Heap} {locs : List Loc} {ls : Array Slot} (hw : Wd D A s (cT cI cL cF cM) (cW h cI cL cF cM F L r) H locs) (hl : lv_has ls 6 [(0, .ref (h 96)), (4, .int x4), (5, .int x5)]) : W p l e rmX8_longestBy s m args below meth c H locs 0 0 Q (F0 m 45 ls []) := by
  unfold wpX8_longestBy_b45 at hh
  refine lv_iload C.1 C.2.1 dX8_longestBy_45 (lv_at hl 1 rfl) ?_
  refine lv_if_ne (tgt := 58) C.1 C.2.1 dX8_longestBy_47 (by decide) (fun c47 => ?_) (fun c47 => ?_)
  · replace hh := hh.1 c47
    refine lv_iload C.1 C.2.1 dX8_longestBy_58 (lv_at hl 1 rfl) ?_
    refine lv_iconst (v := (1 : Int32)) C.1 C.2.1 dX8_longestBy_60 (by decide) ?_
    refine lv_icmp_ne (tgt := 74) C.1 C.2.1 dX8_longestBy_61 (by decide) (fun c61 => ?_) (fun c61 => ?_)
    · replace hh := hh.1 c61
      refine lv_aload_n C.1 C.2.1 dX8_longestBy_74 rfl (lv_at hl 0 rfl) ?_
      refine c_get C hw (inC inW8) (kd_lt kp96 (by decide)) (ce8 kp96) rfl 12 (by decide) (wc w_487) (v := .ref (h 101)) rfl dX8_longestBy_75 ?_
      refine lv_iload C.1 C.2.1 dX8_longestBy_78 (lv_at hl 2 rfl) ?_
      obtain ⟨hi80, hh⟩ := hh
      refine c_ial C hw (kd_lt kp101 (by decide)) (ce12 kp101) hi80 dX8_longestBy_80 ?_
      exact tX8_longestBy_b81 C hR ha1 hh hw (lv_sub hl [0] rfl)
    · replace hh := hh.2 c61
      refine lv_aload_n C.1 C.2.1 dX8_longestBy_64 rfl (lv_at hl 0 rfl) ?_
      refine c_get C hw (inC inW8) (kd_lt kp96 (by decide)) (ce8 kp96) rfl 11 (by decide) (wc w_486) (v := .ref (h 100)) rfl dX8_longestBy_65 ?_
      refine lv_iload C.1 C.2.1 dX8_longestBy_68 (lv_at hl 2 rfl) ?_
      obtain ⟨hi70, hh⟩ := hh
      refine c_ial C hw (kd_lt kp100 (by decide)) (ce12 kp100) hi70 dX8_longestBy_70 ?_
      refine lv_goto (tgt := 81) C.1 C.2.1 dX8_longestBy_71 (by decide) ?_
      exact tX8_longestBy_b81 C hR ha1 hh hw (lv_sub hl [0] rfl)
  · replace hh := hh.2 c47
    refine lv_aload_n C.1 C.2.1 dX8_longestBy_50 rfl (lv_at hl 0 rfl) ?_
    refine c_get C hw (inC inW8) (kd_lt kp96 (by decide)) (ce8 kp96) rfl 10 (by decide) (wc w_485) (v := .ref (h 99)) rfl dX8_longestBy_51 ?_
    refine lv_iload C.1 C.2.1 dX8_longestBy_54 (lv_at hl 2 rfl) ?_
    obtain ⟨hi56, hh⟩ := hh
    refine c_ial C hw (kd_lt kp99 (by decide)) (ce12 kp99) hi56 dX8_longestBy_56 ?_
    exact hR _ _ _ (F, L, r) _ _ dX8_longestBy_57 rfl hh hw
def wpX8_longestBy_b0 (a1 : Nat) (F : Nat → Nat → Int32) (L : Nat → Nat → Int64) (r : Nat → Nat → Nat) (x2 : Int32) (x3 : Int32) (x4 : Int32) (K : Int32 → cS → Prop) : Prop :=
  wpX8_sizeOf x2 x3 (fun r2 u2 =>
    (¬ (((jshr (F 96 7) r2) &&& (1 : Int32)) = 0) →
    wpX8_longestBy_b45 a1 F L r x4 r2 K) ∧
  ((((jshr (F 96 7) r2) &&& (1 : Int32)) = 0) →
    wpX8_layFirst F L r x2 x3 (fun u22 =>
      wpX8_findLongest a1 u22.1 u22.2.1 u22.2.2 r2 (fun u29 =>
      wpX8_longestBy_b45 a1 (pt u29.1 96 7 ((u29.1 96 7) ||| (jshl (1 : Int32) r2))) u29.2.1 u29.2.2 x4 r2 K))))
set_option maxHeartbeats 4000000 in
set_option maxRecDepth 100000 in
theorem tX8_longestBy_b0 {a1 : Nat} {K : Int32 → cS → Prop} (C : CallFix p m c cX8_longestBy 6 s args wsX8_longestBy RX8) (hR : Rti .int p l e rmX8_longestBy s m args below meth c cX8_longestBy D A (cT cI cL cF cM) (cWu h cI cL cF cM) K Q) (ha1 : kd a1 = 6) {F : Nat → Nat → Int32} {L : Nat → Nat → Int64} {r : Nat → Nat → Nat} {x2 : Int32} {x3 : Int32} {x4 : Int32} (hh : wpX8_longestBy_b0 a1 F L r x2 x3 x4 K) {H : Heap} {locs : List Loc} {ls : Array Slot} (hw : Wd D A s (cT cI cL cF cM) (cW h cI cL cF cM F L r) H locs) (hl : lv_has ls 6 [(0, .ref (h 96)), (1, .ref (h a1)), (2, .int x2), (3, .int x3), (4, .int x4)]) : W p l e rmX8_longestBy s m args below meth c H locs 0 0 Q (F0 m 0 ls []) := by
  unfold wpX8_longestBy_b0 at hh
  refine lv_iload_n C.1 C.2.1 dX8_longestBy_0 rfl (lv_at hl 2 rfl) ?_
  refine lv_iload_n C.1 C.2.1 dX8_longestBy_1 rfl (lv_at hl 3 rfl) ?_
  refine wd_Si C hw (ctX8_sizeOf l D x2 x3 hh) (va_cwS 2 C.2.2.2.2 (gd_S w_1080 w_1081 (ini_cls rfl w_123) w_1082) rfl rfl rfl cdX8_sizeOf ⟨Nat.le_of_ble_eq_true rfl, Nat.le_of_ble_eq_true rfl⟩) rfl hl.1 (Nat.le_of_ble_eq_true rfl) dX8_longestBy_2 ⟨Nat.zero_le _, Nat.zero_le _⟩ (fun r2 H locs hh hw => ?_) rfl
  refine lv_istore (lv' := [(5, .int r2), (0, .ref (h 96)), (1, .ref (h a1)), (2, .int x2), (3, .int x3), (4, .int x4)]) C.1 C.2.1 dX8_longestBy_5 hl (by decide) rfl (fun ls hl => ?_)
  refine lv_aload_n C.1 C.2.1 dX8_longestBy_7 rfl (lv_at hl 1 rfl) ?_
  refine c_get C hw (inC inW8) (kd_lt kp96 (by decide)) (ce8 kp96) rfl 7 (by decide) (wc w_482) (v := .int (F 96 7)) rfl dX8_longestBy_8 ?_
  refine lv_iload C.1 C.2.1 dX8_longestBy_11 (lv_at hl 0 rfl) ?_
  refine g_ishr C dX8_longestBy_13 ?_
  refine lv_iconst (v := (1 : Int32)) C.1 C.2.1 dX8_longestBy_14 (by decide) ?_
  refine lv_iand C.1 C.2.1 dX8_longestBy_15 ?_
  refine lv_if_ne (tgt := 45) C.1 C.2.1 dX8_longestBy_16 (by decide) (fun c16 => ?_) (fun c16 => ?_)
  · replace hh := hh.1 c16
    exact tX8_longestBy_b45 C hR ha1 hh hw (lv_sub hl [1, 5, 0] rfl)
  · replace hh := hh.2 c16
    refine lv_aload_n C.1 C.2.1 dX8_longestBy_19 rfl (lv_at hl 1 rfl) ?_
    refine lv_iload_n C.1 C.2.1 dX8_longestBy_20 rfl (lv_at hl 3 rfl) ?_
    refine lv_iload_n C.1 C.2.1 dX8_longestBy_21 rfl (lv_at hl 4 rfl) ?_
    refine c_Vv C hw (ctX8_layFirst l D h cI cL cF cM F L r x2 x3 hh) (cwV 2 C.2.2.2.2 (gd_V w_1084 w_1086 w_38 w_123 w_1087) rfl rfl rfl cdX8_layFirst ⟨Nat.le_of_ble_eq_true rfl, Nat.le_of_ble_eq_true rfl⟩) rfl (kd_lt kp96 (by decide)) (ce8 kp96) rfl hl.1 (Nat.le_of_ble_eq_true rfl) dX8_longestBy_22 ⟨Nat.zero_le _, Nat.zero_le _⟩ (fun u22 H locs hh hw => ?_) rfl
    refine lv_aload_n C.1 C.2.1 dX8_longestBy_25 rfl (lv_at hl 1 rfl) ?_
    refine lv_aload_n C.1 C.2.1 dX8_longestBy_26 rfl (lv_at hl 2 rfl) ?_
    refine lv_iload C.1 C.2.1 dX8_longestBy_27 (lv_at hl 0 rfl) ?_
    refine c_Vv C hw (ctX8_findLongest l D h cI cL cF cM a1 ha1 u22.1 u22.2.1 u22.2.2 r2 hh) (cwV 2 C.2.2.2.2 (gd_V w_1127 w_1129 w_43 w_123 w_1130) rfl rfl rfl cdX8_findLongest ⟨Nat.le_of_ble_eq_true rfl, Nat.le_of_ble_eq_true rfl⟩) rfl (kd_lt kp96 (by decide)) (ce8 kp96) rfl hl.1 (Nat.le_of_ble_eq_true rfl) dX8_longestBy_29 ⟨Nat.zero_le _, Nat.zero_le _⟩ (fun u29 H locs hh hw => ?_) rfl
    refine lv_aload_n C.1 C.2.1 dX8_longestBy_32 rfl (lv_at hl 1 rfl) ?_
    refine lv_dup C.1 C.2.1 dX8_longestBy_33 rfl ?_
    refine c_get C hw (inC inW8) (kd_lt kp96 (by decide)) (ce8 kp96) rfl 7 (by decide) (wc w_482) (v := .int (u29.1 96 7)) rfl dX8_longestBy_34 ?_
    refine lv_iconst (v := (1 : Int32)) C.1 C.2.1 dX8_longestBy_37 (by decide) ?_
    refine lv_iload C.1 C.2.1 dX8_longestBy_38 (lv_at hl 0 rfl) ?_
    refine g_ishl C dX8_longestBy_40 ?_
    refine lv_ior C.1 C.2.1 dX8_longestBy_41 ?_
    refine c_puti C hw (inC inW8) tyX8 tyX8_ok nmX8 (kd_lt kp96 (by decide)) (ce8 kp96) rfl 7 (by decide) (wc w_482) rfl (ty := .int) (by decide +kernel) rfl rfl (Nat.le_of_ble_eq_true rfl) rfl dX8_longestBy_42 (fun H locs hw => ?_)
    exact tX8_longestBy_b45 C hR ha1 hh hw (lv_sub hl [1, 5, 0] rfl)
def wpX8_longestBy (a1 : Nat) (F : Nat → Nat → Int32) (L : Nat → Nat → Int64) (r : Nat → Nat → Nat) (x2 : Int32) (x3 : Int32) (x4 : Int32) (K : Int32 → cS → Prop) : Prop := wpX8_longestBy_b0 a1 F L r x2 x3 x4 K
theorem ctX8_longestBy (l : Launch) (D : va_G) (h : Nat → Nat) (cI cL cF cM : ClassId) (a1 : Nat) (ha1 : kd a1 = 6) (F : Nat → Nat → Int32) (L : Nat → Nat → Int64) (r : Nat → Nat → Nat) (x2 : Int32) (x3 : Int32) (x4 : Int32) {K : Int32 → cS → Prop} (hh : wpX8_longestBy a1 F L r x2 x3 x4 K) : Ci l yX8_longestBy wsX8_longestBy rmX8_longestBy [.ref (h 96), .ref (h a1), .int x2, .int x3, .int x4] D (cT cI cL cF cM) (cWu h cI cL cF cM) (F, L, r) K := by
  refine Ci_of (cc := cX8_longestBy) (maxL := 6) (by decide) rfl (Nat.le_of_ble_eq_true rfl) ?_
  intro p e s m below meth c A Q C hw hR ls hl
  exact tX8_longestBy_b0 C hR ha1 hh hw hl
theorem cdX8_longestBy : yX8_longestBy.cls = RX8 ∧ yX8_longestBy.cls ≠ "java/lang/invoke/MethodHandle" ∧ yX8_longestBy.cls ≠ "java/lang/invoke/VarHandle" ∧ (parseMethodDescriptor yX8_longestBy.desc).map (fun d => d.parameters.length) = some 4 := by decide +kernel
end
