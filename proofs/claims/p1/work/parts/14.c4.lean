section
variable {p : Program} {l : Launch} {e : Env} {s : State} {m : MethodId} {args : Array Value} {below : List Frame} {meth : Method} {c : Code} {D : va_G} {A : Nat → Prop} {h : Nat → Nat} {cI cL cF cM : ClassId} {Q : State → Prop}
abbrev rmX3_copyFrom : Room := { frames := 0, cells := 0, slots := 0, locals := 0 }
def wpX3_copyFrom_b50_body (B50 : (Nat → Nat → Int32) → (Nat → Nat → Int64) → (Nat → Nat → Nat) → Int32 → Prop) (a0 : Nat) (a1 : Nat) (F : Nat → Nat → Int32) (L : Nat → Nat → Int64) (r : Nat → Nat → Nat) (x2 : Int32) (K : cS → Prop) : Prop :=
  (((3 : Int32) ≤ x2) →
    K (F, L, r)) ∧
  (¬ ((3 : Int32) ≤ x2) →
    vp_in x2 3 ∧ vp_in x2 3 ∧ B50 F (ptL L (a0 + 1) (ix x2) (L (a1 + 1) (ix x2))) r (x2 + (1 : Int32)))
set_option maxHeartbeats 4000000 in
set_option maxRecDepth 100000 in
theorem tX3_copyFrom_b50_body {a0 : Nat} {a1 : Nat} {B50 : (Nat → Nat → Int32) → (Nat → Nat → Int64) → (Nat → Nat → Nat) → Int32 → Prop} {K : cS → Prop} (C : CallFix p m c cX3_copyFrom 3 s args wsX3_copyFrom RX3) (hR : Rtv p l e rmX3_copyFrom s m args below meth c cX3_copyFrom D A (cT cI cL cF cM) (cWu h cI cL cF cM) K Q) (ha0 : kd a0 = 3) (ha1 : kd a1 = 3) (hB50 : ∀ (F : Nat → Nat → Int32) (L : Nat → Nat → Int64) (r : Nat → Nat → Nat) (x2 : Int32) (H : Heap) (locs : List Loc) (ls : Array Slot), B50 F L r x2 → Wd D A s (cT cI cL cF cM) (cW h cI cL cF cM F L r) H locs → lv_has ls 3 [(0, .ref (h a0)), (1, .ref (h a1)), (2, .int x2)] → W p l e rmX3_copyFrom s m args below meth c H locs 0 0 Q (F0 m 50 ls [])) {F : Nat → Nat → Int32} {L : Nat → Nat → Int64} {r : Nat → Nat → Nat} {x2 : Int32} (hh : wpX3_copyFrom_b50_body B50 a0 a1 F L r x2 K) {H : Heap} {locs : List Loc} {ls : Array Slot} (hw : Wd D A s (cT cI cL cF cM) (cW h cI cL cF cM F L r) H locs) (hl : lv_has ls 3 [(0, .ref (h a0)), (1, .ref (h a1)), (2, .int x2)]) : W p l e rmX3_copyFrom s m args below meth c H locs 0 0 Q (F0 m 50 ls []) := by
  unfold wpX3_copyFrom_b50_body at hh
  refine lv_iload_n C.1 C.2.1 dX3_copyFrom_50 rfl (lv_at hl 2 rfl) ?_
  refine lv_iconst (v := (3 : Int32)) C.1 C.2.1 dX3_copyFrom_51 (by decide) ?_
  refine lv_icmp_ge (tgt := 73) C.1 C.2.1 dX3_copyFrom_52 (by decide) (fun c52 => ?_) (fun c52 => ?_)
  · replace hh := hh.1 c52
    exact hR _ _ (F, L, r) _ _ dX3_copyFrom_73 hh hw
  · replace hh := hh.2 c52
    refine lv_aload_n C.1 C.2.1 dX3_copyFrom_55 rfl (lv_at hl 0 rfl) ?_
    refine c_get C hw (inC inW3) (kd_lt ha0 (by decide)) (ce3 ha0) rfl 9 (by decide) (wc w_411) (v := .ref (h (a0 + 1))) rfl dX3_copyFrom_56 ?_
    refine lv_iload_n C.1 C.2.1 dX3_copyFrom_59 rfl (lv_at hl 2 rfl) ?_
    refine lv_aload_n C.1 C.2.1 dX3_copyFrom_60 rfl (lv_at hl 1 rfl) ?_
    refine c_get C hw (inC inW3) (kd_lt ha1 (by decide)) (ce3 ha1) rfl 9 (by decide) (wc w_411) (v := .ref (h (a1 + 1))) rfl dX3_copyFrom_61 ?_
    refine lv_iload_n C.1 C.2.1 dX3_copyFrom_64 rfl (lv_at hl 2 rfl) ?_
    obtain ⟨hi65, hh⟩ := hh
    refine c_lal C hw (kd_lt (kd3_1 ha1) (by decide)) (ce23 (kd3_1 ha1)) hi65 dX3_copyFrom_65 ?_
    obtain ⟨hi66, hh⟩ := hh
    refine c_las C hw (kd_lt (kd3_1 ha0) (by decide)) (ce23 (kd3_1 ha0)) hi66 dX3_copyFrom_66 (fun H locs hw => ?_)
    refine lv_iinc (v := x2 + (1 : Int32)) (lv' := [(2, .int (x2 + (1 : Int32))), (0, .ref (h a0)), (1, .ref (h a1))]) C.1 C.2.1 dX3_copyFrom_67 hl (k := 2) rfl rfl (by decide) rfl (fun ls hl => ?_)
    refine lv_goto (tgt := 50) C.1 C.2.1 dX3_copyFrom_70 (by decide) ?_
    exact hB50 _ _ _ _ _ _ _ hh hw (lv_sub hl [1, 2, 0] rfl)
def wpX3_copyFrom_b50 (a0 : Nat) (a1 : Nat) (n_ : Nat) (F : Nat → Nat → Int32) (L : Nat → Nat → Int64) (r : Nat → Nat → Nat) (x2 : Int32) (K : cS → Prop) : Prop := match n_ with
  | 0 => False
  | n + 1 => wpX3_copyFrom_b50_body (fun F L r x2 => wpX3_copyFrom_b50 a0 a1 n F L r x2 K) a0 a1 F L r x2 K
theorem tX3_copyFrom_b50 {a0 : Nat} {a1 : Nat} {K : cS → Prop} (C : CallFix p m c cX3_copyFrom 3 s args wsX3_copyFrom RX3) (hR : Rtv p l e rmX3_copyFrom s m args below meth c cX3_copyFrom D A (cT cI cL cF cM) (cWu h cI cL cF cM) K Q) (ha0 : kd a0 = 3) (ha1 : kd a1 = 3) (n : Nat) : ∀ (F : Nat → Nat → Int32) (L : Nat → Nat → Int64) (r : Nat → Nat → Nat) (x2 : Int32) (H : Heap) (locs : List Loc) (ls : Array Slot), wpX3_copyFrom_b50 a0 a1 n F L r x2 K → Wd D A s (cT cI cL cF cM) (cW h cI cL cF cM F L r) H locs → lv_has ls 3 [(0, .ref (h a0)), (1, .ref (h a1)), (2, .int x2)] → W p l e rmX3_copyFrom s m args below meth c H locs 0 0 Q (F0 m 50 ls []) := by
  induction n with
  | zero => intro F L r x2 H locs ls hh; exact hh.elim
  | succ n ih => intro F L r x2 H locs ls hh hw hl; exact tX3_copyFrom_b50_body C hR ha0 ha1 ih hh hw hl
def wpX3_copyFrom_b0 (a0 : Nat) (a1 : Nat) (F : Nat → Nat → Int32) (L : Nat → Nat → Int64) (r : Nat → Nat → Nat) (K : cS → Prop) : Prop :=
  ∃ n, wpX3_copyFrom_b50 a0 a1 n (pt (pt (pt (pt F a0 0 (F a1 0)) a0 1 ((pt F a0 0 (F a1 0)) a1 1)) a0 2 ((pt (pt F a0 0 (F a1 0)) a0 1 ((pt F a0 0 (F a1 0)) a1 1)) a1 2)) a0 3 ((pt (pt (pt F a0 0 (F a1 0)) a0 1 ((pt F a0 0 (F a1 0)) a1 1)) a0 2 ((pt (pt F a0 0 (F a1 0)) a0 1 ((pt F a0 0 (F a1 0)) a1 1)) a1 2)) a1 3)) (ptL (ptL L a0 4 (L a1 4)) a0 5 ((ptL L a0 4 (L a1 4)) a1 5)) r (0 : Int32) K
set_option maxHeartbeats 4000000 in
set_option maxRecDepth 100000 in
theorem tX3_copyFrom_b0 {a0 : Nat} {a1 : Nat} {K : cS → Prop} (C : CallFix p m c cX3_copyFrom 3 s args wsX3_copyFrom RX3) (hR : Rtv p l e rmX3_copyFrom s m args below meth c cX3_copyFrom D A (cT cI cL cF cM) (cWu h cI cL cF cM) K Q) (ha0 : kd a0 = 3) (ha1 : kd a1 = 3) {F : Nat → Nat → Int32} {L : Nat → Nat → Int64} {r : Nat → Nat → Nat} (hh : wpX3_copyFrom_b0 a0 a1 F L r K) {H : Heap} {locs : List Loc} {ls : Array Slot} (hw : Wd D A s (cT cI cL cF cM) (cW h cI cL cF cM F L r) H locs) (hl : lv_has ls 3 [(0, .ref (h a0)), (1, .ref (h a1))]) : W p l e rmX3_copyFrom s m args below meth c H locs 0 0 Q (F0 m 0 ls []) := by
  unfold wpX3_copyFrom_b0 at hh
  refine lv_aload_n C.1 C.2.1 dX3_copyFrom_0 rfl (lv_at hl 0 rfl) ?_
  refine lv_aload_n C.1 C.2.1 dX3_copyFrom_1 rfl (lv_at hl 1 rfl) ?_
  refine c_get C hw (inC inW3) (kd_lt ha1 (by decide)) (ce3 ha1) rfl 0 (by decide) (wc w_392) (v := .int (F a1 0)) rfl dX3_copyFrom_2 ?_
  refine c_puti C hw (inC inW3) tyX3 tyX3_ok nmX3 (kd_lt ha0 (by decide)) (ce3 ha0) rfl 0 (by decide) (wc w_392) rfl (ty := .int) (by decide +kernel) rfl rfl (Nat.le_of_ble_eq_true rfl) rfl dX3_copyFrom_5 (fun H locs hw => ?_)
  refine lv_aload_n C.1 C.2.1 dX3_copyFrom_8 rfl (lv_at hl 0 rfl) ?_
  refine lv_aload_n C.1 C.2.1 dX3_copyFrom_9 rfl (lv_at hl 1 rfl) ?_
  refine c_get C hw (inC inW3) (kd_lt ha1 (by decide)) (ce3 ha1) rfl 1 (by decide) (wc w_396) (v := .int ((pt F a0 0 (F a1 0)) a1 1)) rfl dX3_copyFrom_10 ?_
  refine c_puti C hw (inC inW3) tyX3 tyX3_ok nmX3 (kd_lt ha0 (by decide)) (ce3 ha0) rfl 1 (by decide) (wc w_396) rfl (ty := .int) (by decide +kernel) rfl rfl (Nat.le_of_ble_eq_true rfl) rfl dX3_copyFrom_13 (fun H locs hw => ?_)
  refine lv_aload_n C.1 C.2.1 dX3_copyFrom_16 rfl (lv_at hl 0 rfl) ?_
  refine lv_aload_n C.1 C.2.1 dX3_copyFrom_17 rfl (lv_at hl 1 rfl) ?_
  refine c_get C hw (inC inW3) (kd_lt ha1 (by decide)) (ce3 ha1) rfl 2 (by decide) (wc w_399) (v := .int ((pt (pt F a0 0 (F a1 0)) a0 1 ((pt F a0 0 (F a1 0)) a1 1)) a1 2)) rfl dX3_copyFrom_18 ?_
  refine c_puti C hw (inC inW3) tyX3 tyX3_ok nmX3 (kd_lt ha0 (by decide)) (ce3 ha0) rfl 2 (by decide) (wc w_399) rfl (ty := .int) (by decide +kernel) rfl rfl (Nat.le_of_ble_eq_true rfl) rfl dX3_copyFrom_21 (fun H locs hw => ?_)
  refine lv_aload_n C.1 C.2.1 dX3_copyFrom_24 rfl (lv_at hl 0 rfl) ?_
  refine lv_aload_n C.1 C.2.1 dX3_copyFrom_25 rfl (lv_at hl 1 rfl) ?_
  refine c_get C hw (inC inW3) (kd_lt ha1 (by decide)) (ce3 ha1) rfl 3 (by decide) (wc w_401) (v := .int ((pt (pt (pt F a0 0 (F a1 0)) a0 1 ((pt F a0 0 (F a1 0)) a1 1)) a0 2 ((pt (pt F a0 0 (F a1 0)) a0 1 ((pt F a0 0 (F a1 0)) a1 1)) a1 2)) a1 3)) rfl dX3_copyFrom_26 ?_
  refine c_puti C hw (inC inW3) tyX3 tyX3_ok nmX3 (kd_lt ha0 (by decide)) (ce3 ha0) rfl 3 (by decide) (wc w_401) rfl (ty := .int) (by decide +kernel) rfl rfl (Nat.le_of_ble_eq_true rfl) rfl dX3_copyFrom_29 (fun H locs hw => ?_)
  refine lv_aload_n C.1 C.2.1 dX3_copyFrom_32 rfl (lv_at hl 0 rfl) ?_
  refine lv_aload_n C.1 C.2.1 dX3_copyFrom_33 rfl (lv_at hl 1 rfl) ?_
  refine c_get C hw (inC inW3) (kd_lt ha1 (by decide)) (ce3 ha1) rfl 4 (by decide) (wc w_403) (v := .long (L a1 4)) rfl dX3_copyFrom_34 ?_
  refine c_putl C hw (inC inW3) tyX3 tyX3_ok nmX3 (kd_lt ha0 (by decide)) (ce3 ha0) rfl 4 (by decide) (wc w_403) rfl (by decide +kernel) (Nat.le_of_ble_eq_true rfl) rfl dX3_copyFrom_37 (fun H locs hw => ?_)
  refine lv_aload_n C.1 C.2.1 dX3_copyFrom_40 rfl (lv_at hl 0 rfl) ?_
  refine lv_aload_n C.1 C.2.1 dX3_copyFrom_41 rfl (lv_at hl 1 rfl) ?_
  refine c_get C hw (inC inW3) (kd_lt ha1 (by decide)) (ce3 ha1) rfl 5 (by decide) (wc w_404) (v := .long ((ptL L a0 4 (L a1 4)) a1 5)) rfl dX3_copyFrom_42 ?_
  refine c_putl C hw (inC inW3) tyX3 tyX3_ok nmX3 (kd_lt ha0 (by decide)) (ce3 ha0) rfl 5 (by decide) (wc w_404) rfl (by decide +kernel) (Nat.le_of_ble_eq_true rfl) rfl dX3_copyFrom_45 (fun H locs hw => ?_)
  refine lv_iconst (v := (0 : Int32)) C.1 C.2.1 dX3_copyFrom_48 (by decide) ?_
  refine lv_istore_n (lv' := [(2, .int (0 : Int32)), (0, .ref (h a0)), (1, .ref (h a1))]) C.1 C.2.1 dX3_copyFrom_49 rfl hl (by decide) rfl (fun ls hl => ?_)
  obtain ⟨n, hh⟩ := hh
  exact tX3_copyFrom_b50 C hR ha0 ha1 n _ _ _ _ _ _ _ hh hw (lv_sub hl [1, 2, 0] rfl)
def wpX3_copyFrom (a0 : Nat) (a1 : Nat) (F : Nat → Nat → Int32) (L : Nat → Nat → Int64) (r : Nat → Nat → Nat) (K : cS → Prop) : Prop := wpX3_copyFrom_b0 a0 a1 F L r K
theorem ctX3_copyFrom (l : Launch) (D : va_G) (h : Nat → Nat) (cI cL cF cM : ClassId) (a0 : Nat) (a1 : Nat) (ha0 : kd a0 = 3) (ha1 : kd a1 = 3) (F : Nat → Nat → Int32) (L : Nat → Nat → Int64) (r : Nat → Nat → Nat) {K : cS → Prop} (hh : wpX3_copyFrom a0 a1 F L r K) : Cv l yX3_copyFrom wsX3_copyFrom rmX3_copyFrom [.ref (h a0), .ref (h a1)] D (cT cI cL cF cM) (cWu h cI cL cF cM) (F, L, r) K := by
  refine Cv_of (cc := cX3_copyFrom) (maxL := 3) (by decide) rfl (Nat.le_of_ble_eq_true rfl) ?_
  intro p e s m below meth c A Q C hw hR ls hl
  exact tX3_copyFrom_b0 C hR ha0 ha1 hh hw hl
theorem cdX3_copyFrom : yX3_copyFrom.cls = RX3 ∧ yX3_copyFrom.cls ≠ "java/lang/invoke/MethodHandle" ∧ yX3_copyFrom.cls ≠ "java/lang/invoke/VarHandle" ∧ (parseMethodDescriptor yX3_copyFrom.desc).map (fun d => d.parameters.length) = some 1 := by decide +kernel
abbrev rmX1_copyFrom : Room := { frames := 0, cells := 0, slots := 0, locals := 0 }
def wpX1_copyFrom_b34_body (B34 : (Nat → Nat → Int32) → (Nat → Nat → Int64) → (Nat → Nat → Nat) → Int32 → Prop) (a0 : Nat) (a1 : Nat) (F : Nat → Nat → Int32) (L : Nat → Nat → Int64) (r : Nat → Nat → Nat) (x2 : Int32) (K : cS → Prop) : Prop :=
  (((4 : Int32) ≤ x2) →
    K (F, L, r)) ∧
  (¬ ((4 : Int32) ≤ x2) →
    vp_in x2 4 ∧ vp_in x2 4 ∧ vp_in x2 4 ∧ vp_in x2 4 ∧ vp_in x2 4 ∧ vp_in x2 4 ∧ B34 (pt F (a0 + 2) (ix x2) (F (a1 + 2) (ix x2))) (ptL (ptL L (a0 + 1) (ix x2) (L (a1 + 1) (ix x2))) (a0 + 3) (ix x2) ((ptL L (a0 + 1) (ix x2) (L (a1 + 1) (ix x2))) (a1 + 3) (ix x2))) r (x2 + (1 : Int32)))
set_option maxHeartbeats 4000000 in
set_option maxRecDepth 100000 in
theorem tX1_copyFrom_b34_body {a0 : Nat} {a1 : Nat} {B34 : (Nat → Nat → Int32) → (Nat → Nat → Int64) → (Nat → Nat → Nat) → Int32 → Prop} {K : cS → Prop} (C : CallFix p m c cX1_copyFrom 3 s args wsX1_copyFrom RX1) (hR : Rtv p l e rmX1_copyFrom s m args below meth c cX1_copyFrom D A (cT cI cL cF cM) (cWu h cI cL cF cM) K Q) (ha0 : kd a0 = 1) (ha1 : kd a1 = 1) (hB34 : ∀ (F : Nat → Nat → Int32) (L : Nat → Nat → Int64) (r : Nat → Nat → Nat) (x2 : Int32) (H : Heap) (locs : List Loc) (ls : Array Slot), B34 F L r x2 → Wd D A s (cT cI cL cF cM) (cW h cI cL cF cM F L r) H locs → lv_has ls 3 [(0, .ref (h a0)), (1, .ref (h a1)), (2, .int x2)] → W p l e rmX1_copyFrom s m args below meth c H locs 0 0 Q (F0 m 34 ls [])) {F : Nat → Nat → Int32} {L : Nat → Nat → Int64} {r : Nat → Nat → Nat} {x2 : Int32} (hh : wpX1_copyFrom_b34_body B34 a0 a1 F L r x2 K) {H : Heap} {locs : List Loc} {ls : Array Slot} (hw : Wd D A s (cT cI cL cF cM) (cW h cI cL cF cM F L r) H locs) (hl : lv_has ls 3 [(0, .ref (h a0)), (1, .ref (h a1)), (2, .int x2)]) : W p l e rmX1_copyFrom s m args below meth c H locs 0 0 Q (F0 m 34 ls []) := by
  unfold wpX1_copyFrom_b34_body at hh
  refine lv_iload_n C.1 C.2.1 dX1_copyFrom_34 rfl (lv_at hl 2 rfl) ?_
  refine lv_iconst (v := (4 : Int32)) C.1 C.2.1 dX1_copyFrom_35 (by decide) ?_
  refine lv_icmp_ge (tgt := 81) C.1 C.2.1 dX1_copyFrom_36 (by decide) (fun c36 => ?_) (fun c36 => ?_)
  · replace hh := hh.1 c36
    exact hR _ _ (F, L, r) _ _ dX1_copyFrom_81 hh hw
  · replace hh := hh.2 c36
    refine lv_aload_n C.1 C.2.1 dX1_copyFrom_39 rfl (lv_at hl 0 rfl) ?_
    refine c_get C hw (inC inW1) (kd_lt ha0 (by decide)) (ce1 ha0) rfl 4 (by decide) (wc w_365) (v := .ref (h (a0 + 1))) rfl dX1_copyFrom_40 ?_
    refine lv_iload_n C.1 C.2.1 dX1_copyFrom_43 rfl (lv_at hl 2 rfl) ?_
    refine lv_aload_n C.1 C.2.1 dX1_copyFrom_44 rfl (lv_at hl 1 rfl) ?_
    refine c_get C hw (inC inW1) (kd_lt ha1 (by decide)) (ce1 ha1) rfl 4 (by decide) (wc w_365) (v := .ref (h (a1 + 1))) rfl dX1_copyFrom_45 ?_
    refine lv_iload_n C.1 C.2.1 dX1_copyFrom_48 rfl (lv_at hl 2 rfl) ?_
    obtain ⟨hi49, hh⟩ := hh
    refine c_lal C hw (kd_lt (kd1_1 ha1) (by decide)) (ce22 (kd1_1 ha1)) hi49 dX1_copyFrom_49 ?_
    obtain ⟨hi50, hh⟩ := hh
    refine c_las C hw (kd_lt (kd1_1 ha0) (by decide)) (ce22 (kd1_1 ha0)) hi50 dX1_copyFrom_50 (fun H locs hw => ?_)
    refine lv_aload_n C.1 C.2.1 dX1_copyFrom_51 rfl (lv_at hl 0 rfl) ?_
    refine c_get C hw (inC inW1) (kd_lt ha0 (by decide)) (ce1 ha0) rfl 6 (by decide) (wc w_369) (v := .ref (h (a0 + 3))) rfl dX1_copyFrom_52 ?_
    refine lv_iload_n C.1 C.2.1 dX1_copyFrom_55 rfl (lv_at hl 2 rfl) ?_
    refine lv_aload_n C.1 C.2.1 dX1_copyFrom_56 rfl (lv_at hl 1 rfl) ?_
    refine c_get C hw (inC inW1) (kd_lt ha1 (by decide)) (ce1 ha1) rfl 6 (by decide) (wc w_369) (v := .ref (h (a1 + 3))) rfl dX1_copyFrom_57 ?_
    refine lv_iload_n C.1 C.2.1 dX1_copyFrom_60 rfl (lv_at hl 2 rfl) ?_
    obtain ⟨hi61, hh⟩ := hh
    refine c_lal C hw (kd_lt (kd1_3 ha1) (by decide)) (ce22 (kd1_3 ha1)) hi61 dX1_copyFrom_61 ?_
    obtain ⟨hi62, hh⟩ := hh
    refine c_las C hw (kd_lt (kd1_3 ha0) (by decide)) (ce22 (kd1_3 ha0)) hi62 dX1_copyFrom_62 (fun H locs hw => ?_)
    refine lv_aload_n C.1 C.2.1 dX1_copyFrom_63 rfl (lv_at hl 0 rfl) ?_
    refine c_get C hw (inC inW1) (kd_lt ha0 (by decide)) (ce1 ha0) rfl 5 (by decide) (wc w_367) (v := .ref (h (a0 + 2))) rfl dX1_copyFrom_64 ?_
    refine lv_iload_n C.1 C.2.1 dX1_copyFrom_67 rfl (lv_at hl 2 rfl) ?_
    refine lv_aload_n C.1 C.2.1 dX1_copyFrom_68 rfl (lv_at hl 1 rfl) ?_
    refine c_get C hw (inC inW1) (kd_lt ha1 (by decide)) (ce1 ha1) rfl 5 (by decide) (wc w_367) (v := .ref (h (a1 + 2))) rfl dX1_copyFrom_69 ?_
    refine lv_iload_n C.1 C.2.1 dX1_copyFrom_72 rfl (lv_at hl 2 rfl) ?_
    obtain ⟨hi73, hh⟩ := hh
    refine c_ial C hw (kd_lt (kd1_2 ha1) (by decide)) (ce12 (kd1_2 ha1)) hi73 dX1_copyFrom_73 ?_
    obtain ⟨hi74, hh⟩ := hh
    refine c_ias C hw (kd_lt (kd1_2 ha0) (by decide)) (ce12 (kd1_2 ha0)) hi74 dX1_copyFrom_74 (fun H locs hw => ?_)
    refine lv_iinc (v := x2 + (1 : Int32)) (lv' := [(2, .int (x2 + (1 : Int32))), (0, .ref (h a0)), (1, .ref (h a1))]) C.1 C.2.1 dX1_copyFrom_75 hl (k := 2) rfl rfl (by decide) rfl (fun ls hl => ?_)
    refine lv_goto (tgt := 34) C.1 C.2.1 dX1_copyFrom_78 (by decide) ?_
    exact hB34 _ _ _ _ _ _ _ hh hw (lv_sub hl [1, 2, 0] rfl)
def wpX1_copyFrom_b34 (a0 : Nat) (a1 : Nat) (n_ : Nat) (F : Nat → Nat → Int32) (L : Nat → Nat → Int64) (r : Nat → Nat → Nat) (x2 : Int32) (K : cS → Prop) : Prop := match n_ with
  | 0 => False
  | n + 1 => wpX1_copyFrom_b34_body (fun F L r x2 => wpX1_copyFrom_b34 a0 a1 n F L r x2 K) a0 a1 F L r x2 K
theorem tX1_copyFrom_b34 {a0 : Nat} {a1 : Nat} {K : cS → Prop} (C : CallFix p m c cX1_copyFrom 3 s args wsX1_copyFrom RX1) (hR : Rtv p l e rmX1_copyFrom s m args below meth c cX1_copyFrom D A (cT cI cL cF cM) (cWu h cI cL cF cM) K Q) (ha0 : kd a0 = 1) (ha1 : kd a1 = 1) (n : Nat) : ∀ (F : Nat → Nat → Int32) (L : Nat → Nat → Int64) (r : Nat → Nat → Nat) (x2 : Int32) (H : Heap) (locs : List Loc) (ls : Array Slot), wpX1_copyFrom_b34 a0 a1 n F L r x2 K → Wd D A s (cT cI cL cF cM) (cW h cI cL cF cM F L r) H locs → lv_has ls 3 [(0, .ref (h a0)), (1, .ref (h a1)), (2, .int x2)] → W p l e rmX1_copyFrom s m args below meth c H locs 0 0 Q (F0 m 34 ls []) := by
  induction n with
  | zero => intro F L r x2 H locs ls hh; exact hh.elim
  | succ n ih => intro F L r x2 H locs ls hh hw hl; exact tX1_copyFrom_b34_body C hR ha0 ha1 ih hh hw hl
def wpX1_copyFrom_b0 (a0 : Nat) (a1 : Nat) (F : Nat → Nat → Int32) (L : Nat → Nat → Int64) (r : Nat → Nat → Nat) (K : cS → Prop) : Prop :=
  ∃ n, wpX1_copyFrom_b34 a0 a1 n (pt (pt (pt (pt F a0 0 (F a1 0)) a0 1 ((pt F a0 0 (F a1 0)) a1 1)) a0 2 ((pt (pt F a0 0 (F a1 0)) a0 1 ((pt F a0 0 (F a1 0)) a1 1)) a1 2)) a0 3 ((pt (pt (pt F a0 0 (F a1 0)) a0 1 ((pt F a0 0 (F a1 0)) a1 1)) a0 2 ((pt (pt F a0 0 (F a1 0)) a0 1 ((pt F a0 0 (F a1 0)) a1 1)) a1 2)) a1 3)) L r (0 : Int32) K
set_option maxHeartbeats 4000000 in
set_option maxRecDepth 100000 in
theorem tX1_copyFrom_b0 {a0 : Nat} {a1 : Nat} {K : cS → Prop} (C : CallFix p m c cX1_copyFrom 3 s args wsX1_copyFrom RX1) (hR : Rtv p l e rmX1_copyFrom s m args below meth c cX1_copyFrom D A (cT cI cL cF cM) (cWu h cI cL cF cM) K Q) (ha0 : kd a0 = 1) (ha1 : kd a1 = 1) {F : Nat → Nat → Int32} {L : Nat → Nat → Int64} {r : Nat → Nat → Nat} (hh : wpX1_copyFrom_b0 a0 a1 F L r K) {H : Heap} {locs : List Loc} {ls : Array Slot} (hw : Wd D A s (cT cI cL cF cM) (cW h cI cL cF cM F L r) H locs) (hl : lv_has ls 3 [(0, .ref (h a0)), (1, .ref (h a1))]) : W p l e rmX1_copyFrom s m args below meth c H locs 0 0 Q (F0 m 0 ls []) := by
  unfold wpX1_copyFrom_b0 at hh
  refine lv_aload_n C.1 C.2.1 dX1_copyFrom_0 rfl (lv_at hl 0 rfl) ?_
  refine lv_aload_n C.1 C.2.1 dX1_copyFrom_1 rfl (lv_at hl 1 rfl) ?_
  refine c_get C hw (inC inW1) (kd_lt ha1 (by decide)) (ce1 ha1) rfl 0 (by decide) (wc w_356) (v := .int (F a1 0)) rfl dX1_copyFrom_2 ?_
  refine c_puti C hw (inC inW1) tyX1 tyX1_ok nmX1 (kd_lt ha0 (by decide)) (ce1 ha0) rfl 0 (by decide) (wc w_356) rfl (ty := .int) (by decide +kernel) rfl rfl (Nat.le_of_ble_eq_true rfl) rfl dX1_copyFrom_5 (fun H locs hw => ?_)
  refine lv_aload_n C.1 C.2.1 dX1_copyFrom_8 rfl (lv_at hl 0 rfl) ?_
  refine lv_aload_n C.1 C.2.1 dX1_copyFrom_9 rfl (lv_at hl 1 rfl) ?_
  refine c_get C hw (inC inW1) (kd_lt ha1 (by decide)) (ce1 ha1) rfl 1 (by decide) (wc w_357) (v := .int ((pt F a0 0 (F a1 0)) a1 1)) rfl dX1_copyFrom_10 ?_
  refine c_puti C hw (inC inW1) tyX1 tyX1_ok nmX1 (kd_lt ha0 (by decide)) (ce1 ha0) rfl 1 (by decide) (wc w_357) rfl (ty := .int) (by decide +kernel) rfl rfl (Nat.le_of_ble_eq_true rfl) rfl dX1_copyFrom_13 (fun H locs hw => ?_)
  refine lv_aload_n C.1 C.2.1 dX1_copyFrom_16 rfl (lv_at hl 0 rfl) ?_
  refine lv_aload_n C.1 C.2.1 dX1_copyFrom_17 rfl (lv_at hl 1 rfl) ?_
  refine c_get C hw (inC inW1) (kd_lt ha1 (by decide)) (ce1 ha1) rfl 2 (by decide) (wc w_358) (v := .int ((pt (pt F a0 0 (F a1 0)) a0 1 ((pt F a0 0 (F a1 0)) a1 1)) a1 2)) rfl dX1_copyFrom_18 ?_
  refine c_puti C hw (inC inW1) tyX1 tyX1_ok nmX1 (kd_lt ha0 (by decide)) (ce1 ha0) rfl 2 (by decide) (wc w_358) rfl (ty := .int) (by decide +kernel) rfl rfl (Nat.le_of_ble_eq_true rfl) rfl dX1_copyFrom_21 (fun H locs hw => ?_)
  refine lv_aload_n C.1 C.2.1 dX1_copyFrom_24 rfl (lv_at hl 0 rfl) ?_
  refine lv_aload_n C.1 C.2.1 dX1_copyFrom_25 rfl (lv_at hl 1 rfl) ?_
  refine c_get C hw (inC inW1) (kd_lt ha1 (by decide)) (ce1 ha1) rfl 3 (by decide) (wc w_361) (v := .int ((pt (pt (pt F a0 0 (F a1 0)) a0 1 ((pt F a0 0 (F a1 0)) a1 1)) a0 2 ((pt (pt F a0 0 (F a1 0)) a0 1 ((pt F a0 0 (F a1 0)) a1 1)) a1 2)) a1 3)) rfl dX1_copyFrom_26 ?_
  refine c_puti C hw (inC inW1) tyX1 tyX1_ok nmX1 (kd_lt ha0 (by decide)) (ce1 ha0) rfl 3 (by decide) (wc w_361) rfl (ty := .int) (by decide +kernel) rfl rfl (Nat.le_of_ble_eq_true rfl) rfl dX1_copyFrom_29 (fun H locs hw => ?_)
  refine lv_iconst (v := (0 : Int32)) C.1 C.2.1 dX1_copyFrom_32 (by decide) ?_
  refine lv_istore_n (lv' := [(2, .int (0 : Int32)), (0, .ref (h a0)), (1, .ref (h a1))]) C.1 C.2.1 dX1_copyFrom_33 rfl hl (by decide) rfl (fun ls hl => ?_)
  obtain ⟨n, hh⟩ := hh
  exact tX1_copyFrom_b34 C hR ha0 ha1 n _ _ _ _ _ _ _ hh hw (lv_sub hl [1, 2, 0] rfl)
def wpX1_copyFrom (a0 : Nat) (a1 : Nat) (F : Nat → Nat → Int32) (L : Nat → Nat → Int64) (r : Nat → Nat → Nat) (K : cS → Prop) : Prop := wpX1_copyFrom_b0 a0 a1 F L r K
theorem ctX1_copyFrom (l : Launch) (D : va_G) (h : Nat → Nat) (cI cL cF cM : ClassId) (a0 : Nat) (a1 : Nat) (ha0 : kd a0 = 1) (ha1 : kd a1 = 1) (F : Nat → Nat → Int32) (L : Nat → Nat → Int64) (r : Nat → Nat → Nat) {K : cS → Prop} (hh : wpX1_copyFrom a0 a1 F L r K) : Cv l yX1_copyFrom wsX1_copyFrom rmX1_copyFrom [.ref (h a0), .ref (h a1)] D (cT cI cL cF cM) (cWu h cI cL cF cM) (F, L, r) K := by
  refine Cv_of (cc := cX1_copyFrom) (maxL := 3) (by decide) rfl (Nat.le_of_ble_eq_true rfl) ?_
  intro p e s m below meth c A Q C hw hR ls hl
  exact tX1_copyFrom_b0 C hR ha0 ha1 hh hw hl
theorem cdX1_copyFrom : yX1_copyFrom.cls = RX1 ∧ yX1_copyFrom.cls ≠ "java/lang/invoke/MethodHandle" ∧ yX1_copyFrom.cls ≠ "java/lang/invoke/VarHandle" ∧ (parseMethodDescriptor yX1_copyFrom.desc).map (fun d => d.parameters.length) = some 1 := by decide +kernel
abbrev rmX0_jamAll : Room := { frames := 0, cells := 0, slots := 0, locals := 0 }
def wpX0_jamAll_b0 (a0 : Nat) (F : Nat → Nat → Int32) (L : Nat → Nat → Int64) (r : Nat → Nat → Nat) (x1 : Int32) (x2 : Int32) (K : cS → Prop) : Prop :=
  K (pt (pt (pt F a0 1 x1) a0 2 (x2 &&& x1)) a0 0 ((pt (pt F a0 1 x1) a0 2 (x2 &&& x1)) a0 2), L, r)
set_option maxHeartbeats 4000000 in
set_option maxRecDepth 100000 in
theorem tX0_jamAll_b0 {a0 : Nat} {K : cS → Prop} (C : CallFix p m c cX0_jamAll 3 s args wsX0_jamAll RX0) (hR : Rtv p l e rmX0_jamAll s m args below meth c cX0_jamAll D A (cT cI cL cF cM) (cWu h cI cL cF cM) K Q) (ha0 : kd a0 = 0) {F : Nat → Nat → Int32} {L : Nat → Nat → Int64} {r : Nat → Nat → Nat} {x1 : Int32} {x2 : Int32} (hh : wpX0_jamAll_b0 a0 F L r x1 x2 K) {H : Heap} {locs : List Loc} {ls : Array Slot} (hw : Wd D A s (cT cI cL cF cM) (cW h cI cL cF cM F L r) H locs) (hl : lv_has ls 3 [(0, .ref (h a0)), (1, .int x1), (2, .int x2)]) : W p l e rmX0_jamAll s m args below meth c H locs 0 0 Q (F0 m 0 ls []) := by
  unfold wpX0_jamAll_b0 at hh
  refine lv_aload_n C.1 C.2.1 dX0_jamAll_0 rfl (lv_at hl 0 rfl) ?_
  refine lv_iload_n C.1 C.2.1 dX0_jamAll_1 rfl (lv_at hl 1 rfl) ?_
  refine c_puti C hw (inC inW0) tyX0 tyX0_ok nmX0 (kd_lt ha0 (by decide)) (ce0 ha0) rfl 1 (by decide) (wc w_441) rfl (ty := .int) (by decide +kernel) rfl rfl (Nat.le_of_ble_eq_true rfl) rfl dX0_jamAll_2 (fun H locs hw => ?_)
  refine lv_aload_n C.1 C.2.1 dX0_jamAll_5 rfl (lv_at hl 0 rfl) ?_
  refine lv_iload_n C.1 C.2.1 dX0_jamAll_6 rfl (lv_at hl 2 rfl) ?_
  refine lv_iload_n C.1 C.2.1 dX0_jamAll_7 rfl (lv_at hl 1 rfl) ?_
  refine lv_iand C.1 C.2.1 dX0_jamAll_8 ?_
  refine c_puti C hw (inC inW0) tyX0 tyX0_ok nmX0 (kd_lt ha0 (by decide)) (ce0 ha0) rfl 2 (by decide) (wc w_443) rfl (ty := .int) (by decide +kernel) rfl rfl (Nat.le_of_ble_eq_true rfl) rfl dX0_jamAll_9 (fun H locs hw => ?_)
  refine lv_aload_n C.1 C.2.1 dX0_jamAll_12 rfl (lv_at hl 0 rfl) ?_
  refine lv_aload_n C.1 C.2.1 dX0_jamAll_13 rfl (lv_at hl 0 rfl) ?_
  refine c_get C hw (inC inW0) (kd_lt ha0 (by decide)) (ce0 ha0) rfl 2 (by decide) (wc w_443) (v := .int ((pt (pt F a0 1 x1) a0 2 (x2 &&& x1)) a0 2)) rfl dX0_jamAll_14 ?_
  refine c_puti C hw (inC inW0) tyX0 tyX0_ok nmX0 (kd_lt ha0 (by decide)) (ce0 ha0) rfl 0 (by decide) (wc w_439) rfl (ty := .int) (by decide +kernel) rfl rfl (Nat.le_of_ble_eq_true rfl) rfl dX0_jamAll_17 (fun H locs hw => ?_)
  exact hR _ _ (pt (pt (pt F a0 1 x1) a0 2 (x2 &&& x1)) a0 0 ((pt (pt F a0 1 x1) a0 2 (x2 &&& x1)) a0 2), L, r) _ _ dX0_jamAll_20 hh hw
def wpX0_jamAll (a0 : Nat) (F : Nat → Nat → Int32) (L : Nat → Nat → Int64) (r : Nat → Nat → Nat) (x1 : Int32) (x2 : Int32) (K : cS → Prop) : Prop := wpX0_jamAll_b0 a0 F L r x1 x2 K
theorem ctX0_jamAll (l : Launch) (D : va_G) (h : Nat → Nat) (cI cL cF cM : ClassId) (a0 : Nat) (ha0 : kd a0 = 0) (F : Nat → Nat → Int32) (L : Nat → Nat → Int64) (r : Nat → Nat → Nat) (x1 : Int32) (x2 : Int32) {K : cS → Prop} (hh : wpX0_jamAll a0 F L r x1 x2 K) : Cv l yX0_jamAll wsX0_jamAll rmX0_jamAll [.ref (h a0), .int x1, .int x2] D (cT cI cL cF cM) (cWu h cI cL cF cM) (F, L, r) K := by
  refine Cv_of (cc := cX0_jamAll) (maxL := 3) (by decide) rfl (Nat.le_of_ble_eq_true rfl) ?_
  intro p e s m below meth c A Q C hw hR ls hl
  exact tX0_jamAll_b0 C hR ha0 hh hw hl
theorem cdX0_jamAll : yX0_jamAll.cls = RX0 ∧ yX0_jamAll.cls ≠ "java/lang/invoke/MethodHandle" ∧ yX0_jamAll.cls ≠ "java/lang/invoke/VarHandle" ∧ (parseMethodDescriptor yX0_jamAll.desc).map (fun d => d.parameters.length) = some 2 := by decide +kernel
abbrev rmX0_jamLike : Room := { frames := 1, cells := 0, slots := 0, locals := 22 }
def wpX0_jamLike_b0 (a0 : Nat) (a1 : Nat) (F : Nat → Nat → Int32) (L : Nat → Nat → Int64) (r : Nat → Nat → Nat) (K : cS → Prop) : Prop :=
  wpX0_jamAll a0 F L r (F a1 1) (F a1 2) (fun u9 =>
    K (u9.1, u9.2.1, u9.2.2))
set_option maxHeartbeats 4000000 in
set_option maxRecDepth 100000 in
theorem tX0_jamLike_b0 {a0 : Nat} {a1 : Nat} {K : cS → Prop} (C : CallFix p m c cX0_jamLike 2 s args wsX0_jamLike RX0) (hR : Rtv p l e rmX0_jamLike s m args below meth c cX0_jamLike D A (cT cI cL cF cM) (cWu h cI cL cF cM) K Q) (ha0 : kd a0 = 0) (ha1 : kd a1 = 0) {F : Nat → Nat → Int32} {L : Nat → Nat → Int64} {r : Nat → Nat → Nat} (hh : wpX0_jamLike_b0 a0 a1 F L r K) {H : Heap} {locs : List Loc} {ls : Array Slot} (hw : Wd D A s (cT cI cL cF cM) (cW h cI cL cF cM F L r) H locs) (hl : lv_has ls 2 [(0, .ref (h a0)), (1, .ref (h a1))]) : W p l e rmX0_jamLike s m args below meth c H locs 0 0 Q (F0 m 0 ls []) := by
  unfold wpX0_jamLike_b0 at hh
  refine lv_aload_n C.1 C.2.1 dX0_jamLike_0 rfl (lv_at hl 0 rfl) ?_
  refine lv_aload_n C.1 C.2.1 dX0_jamLike_1 rfl (lv_at hl 1 rfl) ?_
  refine c_get C hw (inC inW0) (kd_lt ha1 (by decide)) (ce0 ha1) rfl 1 (by decide) (wc w_441) (v := .int (F a1 1)) rfl dX0_jamLike_2 ?_
  refine lv_aload_n C.1 C.2.1 dX0_jamLike_5 rfl (lv_at hl 1 rfl) ?_
  refine c_get C hw (inC inW0) (kd_lt ha1 (by decide)) (ce0 ha1) rfl 2 (by decide) (wc w_443) (v := .int (F a1 2)) rfl dX0_jamLike_6 ?_
  refine c_Vv C hw (ctX0_jamAll l D h cI cL cF cM a0 ha0 F L r (F a1 1) (F a1 2) hh) (cwV 2 C.2.2.2.2 (gd_V w_1254 w_1255 w_1256 w_122 w_1257) rfl rfl rfl cdX0_jamAll ⟨Nat.le_of_ble_eq_true rfl, Nat.le_of_ble_eq_true rfl⟩) rfl (kd_lt ha0 (by decide)) (ce0 ha0) rfl hl.1 (Nat.le_of_ble_eq_true rfl) dX0_jamLike_9 ⟨Nat.zero_le _, Nat.zero_le _⟩ (fun u9 H locs hh hw => ?_) rfl
  exact hR _ _ (u9.1, u9.2.1, u9.2.2) _ _ dX0_jamLike_12 hh hw
def wpX0_jamLike (a0 : Nat) (a1 : Nat) (F : Nat → Nat → Int32) (L : Nat → Nat → Int64) (r : Nat → Nat → Nat) (K : cS → Prop) : Prop := wpX0_jamLike_b0 a0 a1 F L r K
theorem ctX0_jamLike (l : Launch) (D : va_G) (h : Nat → Nat) (cI cL cF cM : ClassId) (a0 : Nat) (a1 : Nat) (ha0 : kd a0 = 0) (ha1 : kd a1 = 0) (F : Nat → Nat → Int32) (L : Nat → Nat → Int64) (r : Nat → Nat → Nat) {K : cS → Prop} (hh : wpX0_jamLike a0 a1 F L r K) : Cv l yX0_jamLike wsX0_jamLike rmX0_jamLike [.ref (h a0), .ref (h a1)] D (cT cI cL cF cM) (cWu h cI cL cF cM) (F, L, r) K := by
  refine Cv_of (cc := cX0_jamLike) (maxL := 2) (by decide) rfl (Nat.le_of_ble_eq_true rfl) ?_
  intro p e s m below meth c A Q C hw hR ls hl
  exact tX0_jamLike_b0 C hR ha0 ha1 hh hw hl
theorem cdX0_jamLike : yX0_jamLike.cls = RX0 ∧ yX0_jamLike.cls ≠ "java/lang/invoke/MethodHandle" ∧ yX0_jamLike.cls ≠ "java/lang/invoke/VarHandle" ∧ (parseMethodDescriptor yX0_jamLike.desc).map (fun d => d.parameters.length) = some 1 := by decide +kernel
abbrev rmX2_begin : Room := { frames := 2, cells := 0, slots := 0, locals := 43 }
def wpX2_begin_b0 (a1 : Nat) (a2 : Nat) (a3 : Nat) (a4 : Nat) (F : Nat → Nat → Int32) (L : Nat → Nat → Int64) (r : Nat → Nat → Nat) (K : cS → Prop) : Prop :=
  wpX3_copyFrom 90 a2 F L (ptN r 102 4 a1) (fun u10 =>
    wpX1_copyFrom 70 a3 u10.1 u10.2.1 u10.2.2 (fun u18 =>
    wpX0_jamLike 44 a4 u18.1 u18.2.1 u18.2.2 (fun u27 =>
    K (u27.1, u27.2.1, u27.2.2))))
set_option maxHeartbeats 4000000 in
set_option maxRecDepth 100000 in
theorem tX2_begin_b0 {a1 : Nat} {a2 : Nat} {a3 : Nat} {a4 : Nat} {K : cS → Prop} (C : CallFix p m c cX2_begin 5 s args wsX2_begin RX2) (hR : Rtv p l e rmX2_begin s m args below meth c cX2_begin D A (cT cI cL cF cM) (cWu h cI cL cF cM) K Q) (ha1 : kd a1 = 4) (ha2 : kd a2 = 3) (ha3 : kd a3 = 1) (ha4 : kd a4 = 0) {F : Nat → Nat → Int32} {L : Nat → Nat → Int64} {r : Nat → Nat → Nat} (hh : wpX2_begin_b0 a1 a2 a3 a4 F L r K) {H : Heap} {locs : List Loc} {ls : Array Slot} (hw : Wd D A s (cT cI cL cF cM) (cW h cI cL cF cM F L r) H locs) (hl : lv_has ls 5 [(0, .ref (h 102)), (1, .ref (h a1)), (2, .ref (h a2)), (3, .ref (h a3)), (4, .ref (h a4))]) : W p l e rmX2_begin s m args below meth c H locs 0 0 Q (F0 m 0 ls []) := by
  unfold wpX2_begin_b0 at hh
  refine lv_aload_n C.1 C.2.1 dX2_begin_0 rfl (lv_at hl 0 rfl) ?_
  refine lv_aload_n C.1 C.2.1 dX2_begin_1 rfl (lv_at hl 1 rfl) ?_
  refine c_putr (v := a1) C hw (inC inW2) tyX2 tyX2_ok nmX2 (kd_lt kp102 (by decide)) (ce2 kp102) rfl 4 (by decide) (wc w_537) rfl (ty := .object "RelayMouse$Net") (by decide +kernel) rfl rfl (Nat.le_of_ble_eq_true rfl) rfl dX2_begin_2 (fun H locs hw => ?_)
  refine lv_aload_n C.1 C.2.1 dX2_begin_5 rfl (lv_at hl 0 rfl) ?_
  refine c_get C hw (inC inW2) (kd_lt kp102 (by decide)) (ce2 kp102) rfl 5 (by decide) (wc w_538) (v := .ref (h 90)) rfl dX2_begin_6 ?_
  refine lv_aload_n C.1 C.2.1 dX2_begin_9 rfl (lv_at hl 2 rfl) ?_
  refine c_Vv C hw (ctX3_copyFrom l D h cI cL cF cM 90 a2 kp90 ha2 F L (ptN r 102 4 a1) hh) (cwV 1 C.2.2.2.2 (gd_V w_1242 w_1243 w_1244 w_121 w_1245) rfl rfl rfl cdX3_copyFrom ⟨Nat.le_of_ble_eq_true rfl, Nat.le_of_ble_eq_true rfl⟩) rfl (kd_lt kp90 (by decide)) (ce3 kp90) rfl hl.1 (Nat.le_of_ble_eq_true rfl) dX2_begin_10 ⟨Nat.zero_le _, Nat.zero_le _⟩ (fun u10 H locs hh hw => ?_) rfl
  refine lv_aload_n C.1 C.2.1 dX2_begin_13 rfl (lv_at hl 0 rfl) ?_
  refine c_get C hw (inC inW2) (kd_lt kp102 (by decide)) (ce2 kp102) rfl 7 (by decide) (wc w_540) (v := .ref (h 70)) rfl dX2_begin_14 ?_
  refine lv_aload_n C.1 C.2.1 dX2_begin_17 rfl (lv_at hl 3 rfl) ?_
  refine c_Vv C hw (ctX1_copyFrom l D h cI cL cF cM 70 a3 kp70 ha3 u10.1 u10.2.1 u10.2.2 hh) (cwV 1 C.2.2.2.2 (gd_V w_1246 w_1247 w_1248 w_120 w_1249) rfl rfl rfl cdX1_copyFrom ⟨Nat.le_of_ble_eq_true rfl, Nat.le_of_ble_eq_true rfl⟩) rfl (kd_lt kp70 (by decide)) (ce1 kp70) rfl hl.1 (Nat.le_of_ble_eq_true rfl) dX2_begin_18 ⟨Nat.zero_le _, Nat.zero_le _⟩ (fun u18 H locs hh hw => ?_) rfl
  refine lv_aload_n C.1 C.2.1 dX2_begin_21 rfl (lv_at hl 0 rfl) ?_
  refine c_get C hw (inC inW2) (kd_lt kp102 (by decide)) (ce2 kp102) rfl 6 (by decide) (wc w_539) (v := .ref (h 44)) rfl dX2_begin_22 ?_
  refine lv_aload C.1 C.2.1 dX2_begin_25 (lv_at hl 4 rfl) ?_
  refine c_Vv C hw (ctX0_jamLike l D h cI cL cF cM 44 a4 kp44 ha4 u18.1 u18.2.1 u18.2.2 hh) (cwV 1 C.2.2.2.2 (gd_V w_1250 w_1251 w_1252 w_122 w_1253) rfl rfl rfl cdX0_jamLike ⟨Nat.le_of_ble_eq_true rfl, Nat.le_of_ble_eq_true rfl⟩) rfl (kd_lt kp44 (by decide)) (ce0 kp44) rfl hl.1 (Nat.le_of_ble_eq_true rfl) dX2_begin_27 ⟨Nat.zero_le _, Nat.zero_le _⟩ (fun u27 H locs hh hw => ?_) rfl
  exact hR _ _ (u27.1, u27.2.1, u27.2.2) _ _ dX2_begin_30 hh hw
def wpX2_begin (a1 : Nat) (a2 : Nat) (a3 : Nat) (a4 : Nat) (F : Nat → Nat → Int32) (L : Nat → Nat → Int64) (r : Nat → Nat → Nat) (K : cS → Prop) : Prop := wpX2_begin_b0 a1 a2 a3 a4 F L r K
theorem ctX2_begin (l : Launch) (D : va_G) (h : Nat → Nat) (cI cL cF cM : ClassId) (a1 : Nat) (a2 : Nat) (a3 : Nat) (a4 : Nat) (ha1 : kd a1 = 4) (ha2 : kd a2 = 3) (ha3 : kd a3 = 1) (ha4 : kd a4 = 0) (F : Nat → Nat → Int32) (L : Nat → Nat → Int64) (r : Nat → Nat → Nat) {K : cS → Prop} (hh : wpX2_begin a1 a2 a3 a4 F L r K) : Cv l yX2_begin wsX2_begin rmX2_begin [.ref (h 102), .ref (h a1), .ref (h a2), .ref (h a3), .ref (h a4)] D (cT cI cL cF cM) (cWu h cI cL cF cM) (F, L, r) K := by
  refine Cv_of (cc := cX2_begin) (maxL := 5) (by decide) rfl (Nat.le_of_ble_eq_true rfl) ?_
  intro p e s m below meth c A Q C hw hR ls hl
  exact tX2_begin_b0 C hR ha1 ha2 ha3 ha4 hh hw hl
theorem cdX2_begin : yX2_begin.cls = RX2 ∧ yX2_begin.cls ≠ "java/lang/invoke/MethodHandle" ∧ yX2_begin.cls ≠ "java/lang/invoke/VarHandle" ∧ (parseMethodDescriptor yX2_begin.desc).map (fun d => d.parameters.length) = some 4 := by decide +kernel
abbrev rmX3_hasWaysOf : Room := { frames := 0, cells := 0, slots := 0, locals := 0 }
def wpX3_hasWaysOf_b29 (a0 : Nat) (a1 : Nat) (F : Nat → Nat → Int32) (L : Nat → Nat → Int64) (r : Nat → Nat → Nat) (k0 : Int32) (K : Int32 → cS → Prop) : Prop :=
  isB k0 ∧ K k0 (F, L, r)
set_option maxHeartbeats 4000000 in
set_option maxRecDepth 100000 in
theorem tX3_hasWaysOf_b29 {a0 : Nat} {a1 : Nat} {K : Int32 → cS → Prop} (C : CallFix p m c cX3_hasWaysOf 2 s args wsX3_hasWaysOf RX3) (hR : Rti .boolean p l e rmX3_hasWaysOf s m args below meth c cX3_hasWaysOf D A (cT cI cL cF cM) (cWu h cI cL cF cM) K Q) (ha0 : kd a0 = 3) (ha1 : kd a1 = 3) {F : Nat → Nat → Int32} {L : Nat → Nat → Int64} {r : Nat → Nat → Nat} {k0 : Int32} (hh : wpX3_hasWaysOf_b29 a0 a1 F L r k0 K) {H : Heap} {locs : List Loc} {ls : Array Slot} (hw : Wd D A s (cT cI cL cF cM) (cW h cI cL cF cM F L r) H locs) (hl : lv_has ls 2 [(0, .ref (h a0))]) : W p l e rmX3_hasWaysOf s m args below meth c H locs 0 0 Q (F0 m 29 ls [.int k0]) := by
  unfold wpX3_hasWaysOf_b29 at hh
  obtain ⟨hb29, hh⟩ := hh
  exact hR _ _ _ (F, L, r) _ _ dX3_hasWaysOf_29 (isB_nar hb29) hh hw
def wpX3_hasWaysOf_b28 (a0 : Nat) (a1 : Nat) (F : Nat → Nat → Int32) (L : Nat → Nat → Int64) (r : Nat → Nat → Nat) (K : Int32 → cS → Prop) : Prop :=
  wpX3_hasWaysOf_b29 a0 a1 F L r (0 : Int32) K
set_option maxHeartbeats 4000000 in
set_option maxRecDepth 100000 in
theorem tX3_hasWaysOf_b28 {a0 : Nat} {a1 : Nat} {K : Int32 → cS → Prop} (C : CallFix p m c cX3_hasWaysOf 2 s args wsX3_hasWaysOf RX3) (hR : Rti .boolean p l e rmX3_hasWaysOf s m args below meth c cX3_hasWaysOf D A (cT cI cL cF cM) (cWu h cI cL cF cM) K Q) (ha0 : kd a0 = 3) (ha1 : kd a1 = 3) {F : Nat → Nat → Int32} {L : Nat → Nat → Int64} {r : Nat → Nat → Nat} (hh : wpX3_hasWaysOf_b28 a0 a1 F L r K) {H : Heap} {locs : List Loc} {ls : Array Slot} (hw : Wd D A s (cT cI cL cF cM) (cW h cI cL cF cM F L r) H locs) (hl : lv_has ls 2 [(0, .ref (h a0))]) : W p l e rmX3_hasWaysOf s m args below meth c H locs 0 0 Q (F0 m 28 ls []) := by
  unfold wpX3_hasWaysOf_b28 at hh
  refine lv_iconst (v := (0 : Int32)) C.1 C.2.1 dX3_hasWaysOf_28 (by decide) ?_
  exact tX3_hasWaysOf_b29 C hR ha0 ha1 hh hw hl
def wpX3_hasWaysOf_b0 (a0 : Nat) (a1 : Nat) (F : Nat → Nat → Int32) (L : Nat → Nat → Int64) (r : Nat → Nat → Nat) (K : Int32 → cS → Prop) : Prop :=
  (¬ ((lg_cmp (L a0 4) (L a1 4)) = 0) →
    wpX3_hasWaysOf_b28 a0 a1 F L r K) ∧
  (((lg_cmp (L a0 4) (L a1 4)) = 0) →
    (¬ ((lg_cmp (L a0 5) (L a1 5)) = 0) →
      wpX3_hasWaysOf_b28 a0 a1 F L r K) ∧
    (((lg_cmp (L a0 5) (L a1 5)) = 0) →
      wpX3_hasWaysOf_b29 a0 a1 F L r (1 : Int32) K))
set_option maxHeartbeats 4000000 in
set_option maxRecDepth 100000 in
theorem tX3_hasWaysOf_b0 {a0 : Nat} {a1 : Nat} {K : Int32 → cS → Prop} (C : CallFix p m c cX3_hasWaysOf 2 s args wsX3_hasWaysOf RX3) (hR : Rti .boolean p l e rmX3_hasWaysOf s m args below meth c cX3_hasWaysOf D A (cT cI cL cF cM) (cWu h cI cL cF cM) K Q) (ha0 : kd a0 = 3) (ha1 : kd a1 = 3) {F : Nat → Nat → Int32} {L : Nat → Nat → Int64} {r : Nat → Nat → Nat} (hh : wpX3_hasWaysOf_b0 a0 a1 F L r K) {H : Heap} {locs : List Loc} {ls : Array Slot} (hw : Wd D A s (cT cI cL cF cM) (cW h cI cL cF cM F L r) H locs) (hl : lv_has ls 2 [(0, .ref (h a0)), (1, .ref (h a1))]) : W p l e rmX3_hasWaysOf s m args below meth c H locs 0 0 Q (F0 m 0 ls []) := by
  unfold wpX3_hasWaysOf_b0 at hh
  refine lv_aload_n C.1 C.2.1 dX3_hasWaysOf_0 rfl (lv_at hl 0 rfl) ?_
  refine c_get C hw (inC inW3) (kd_lt ha0 (by decide)) (ce3 ha0) rfl 4 (by decide) (wc w_403) (v := .long (L a0 4)) rfl dX3_hasWaysOf_1 ?_
  refine lv_aload_n C.1 C.2.1 dX3_hasWaysOf_4 rfl (lv_at hl 1 rfl) ?_
  refine c_get C hw (inC inW3) (kd_lt ha1 (by decide)) (ce3 ha1) rfl 4 (by decide) (wc w_403) (v := .long (L a1 4)) rfl dX3_hasWaysOf_5 ?_
  refine W.lcmp C.1 C.2.1 dX3_hasWaysOf_8 ?_
  refine lv_if_ne (tgt := 28) C.1 C.2.1 dX3_hasWaysOf_9 (by decide) (fun c9 => ?_) (fun c9 => ?_)
  · replace hh := hh.1 c9
    exact tX3_hasWaysOf_b28 C hR ha0 ha1 hh hw (lv_sub hl [0] rfl)
  · replace hh := hh.2 c9
    refine lv_aload_n C.1 C.2.1 dX3_hasWaysOf_12 rfl (lv_at hl 0 rfl) ?_
    refine c_get C hw (inC inW3) (kd_lt ha0 (by decide)) (ce3 ha0) rfl 5 (by decide) (wc w_404) (v := .long (L a0 5)) rfl dX3_hasWaysOf_13 ?_
    refine lv_aload_n C.1 C.2.1 dX3_hasWaysOf_16 rfl (lv_at hl 1 rfl) ?_
    refine c_get C hw (inC inW3) (kd_lt ha1 (by decide)) (ce3 ha1) rfl 5 (by decide) (wc w_404) (v := .long (L a1 5)) rfl dX3_hasWaysOf_17 ?_
    refine W.lcmp C.1 C.2.1 dX3_hasWaysOf_20 ?_
    refine lv_if_ne (tgt := 28) C.1 C.2.1 dX3_hasWaysOf_21 (by decide) (fun c21 => ?_) (fun c21 => ?_)
    · replace hh := hh.1 c21
      exact tX3_hasWaysOf_b28 C hR ha0 ha1 hh hw (lv_sub hl [0] rfl)
    · replace hh := hh.2 c21
      refine lv_iconst (v := (1 : Int32)) C.1 C.2.1 dX3_hasWaysOf_24 (by decide) ?_
      refine lv_goto (tgt := 29) C.1 C.2.1 dX3_hasWaysOf_25 (by decide) ?_
      exact tX3_hasWaysOf_b29 C hR ha0 ha1 hh hw (lv_sub hl [0] rfl)
def wpX3_hasWaysOf (a0 : Nat) (a1 : Nat) (F : Nat → Nat → Int32) (L : Nat → Nat → Int64) (r : Nat → Nat → Nat) (K : Int32 → cS → Prop) : Prop := wpX3_hasWaysOf_b0 a0 a1 F L r K
theorem ctX3_hasWaysOf (l : Launch) (D : va_G) (h : Nat → Nat) (cI cL cF cM : ClassId) (a0 : Nat) (a1 : Nat) (ha0 : kd a0 = 3) (ha1 : kd a1 = 3) (F : Nat → Nat → Int32) (L : Nat → Nat → Int64) (r : Nat → Nat → Nat) {K : Int32 → cS → Prop} (hh : wpX3_hasWaysOf a0 a1 F L r K) : Ci l yX3_hasWaysOf wsX3_hasWaysOf rmX3_hasWaysOf [.ref (h a0), .ref (h a1)] D (cT cI cL cF cM) (cWu h cI cL cF cM) (F, L, r) K := by
  refine Ci_of (cc := cX3_hasWaysOf) (maxL := 2) (by decide) rfl (Nat.le_of_ble_eq_true rfl) ?_
  intro p e s m below meth c A Q C hw hR ls hl
  exact tX3_hasWaysOf_b0 C hR ha0 ha1 hh hw hl
theorem cdX3_hasWaysOf : yX3_hasWaysOf.cls = RX3 ∧ yX3_hasWaysOf.cls ≠ "java/lang/invoke/MethodHandle" ∧ yX3_hasWaysOf.cls ≠ "java/lang/invoke/VarHandle" ∧ (parseMethodDescriptor yX3_hasWaysOf.desc).map (fun d => d.parameters.length) = some 1 := by decide +kernel
abbrev rmX2_firstDifference : Room := { frames := 3, cells := 0, slots := 0, locals := 72 }
def wpX2_firstDifference_b99 (a1 : Nat) (F : Nat → Nat → Int32) (L : Nat → Nat → Int64) (r : Nat → Nat → Nat) (x3 : Int32) (K : Int32 → cS → Prop) : Prop :=
  K x3 (F, L, r)
set_option maxHeartbeats 4000000 in
set_option maxRecDepth 100000 in
theorem tX2_firstDifference_b99 {a1 : Nat} {K : Int32 → cS → Prop} (C : CallFix p m c cX2_firstDifference 4 s args wsX2_firstDifference RX2) (hR : Rti .int p l e rmX2_firstDifference s m args below meth c cX2_firstDifference D A (cT cI cL cF cM) (cWu h cI cL cF cM) K Q) (ha1 : kd a1 = 6) {F : Nat → Nat → Int32} {L : Nat → Nat → Int64} {r : Nat → Nat → Nat} {x3 : Int32} (hh : wpX2_firstDifference_b99 a1 F L r x3 K) {H : Heap} {locs : List Loc} {ls : Array Slot} (hw : Wd D A s (cT cI cL cF cM) (cW h cI cL cF cM F L r) H locs) (hl : lv_has ls 4 [(0, .ref (h 102)), (3, .int x3)]) : W p l e rmX2_firstDifference s m args below meth c H locs 0 0 Q (F0 m 99 ls []) := by
  unfold wpX2_firstDifference_b99 at hh
  refine lv_iload_n C.1 C.2.1 dX2_firstDifference_99 rfl (lv_at hl 1 rfl) ?_
  exact hR _ _ _ (F, L, r) _ _ dX2_firstDifference_100 rfl hh hw
def wpX2_firstDifference_b35_body (B35 : (Nat → Nat → Int32) → (Nat → Nat → Int64) → (Nat → Nat → Nat) → Int32 → Int32 → Prop) (a1 : Nat) (F : Nat → Nat → Int32) (L : Nat → Nat → Int64) (r : Nat → Nat → Nat) (x2 : Int32) (x3 : Int32) (K : Int32 → cS → Prop) : Prop :=
  ((x2 < x3) →
    K (0 : Int32) (F, L, r)) ∧
  (¬ (x2 < x3) →
    wpX3_obey 94 a1 70 F L r (fun u49 =>
      kd (u49.2.2 102 4) = 4 ∧ wpX0_step 45 (u49.2.2 102 4) 92 70 u49.1 u49.2.1 u49.2.2 (fun u68 =>
      wpX3_standsAs 92 94 u68.1 u68.2.1 u68.2.2 (fun r79 u79 =>
      ((r79 = 0) →
      wpX2_firstDifference_b99 a1 u79.1 u79.2.1 u79.2.2 x3 K) ∧
    (¬ (r79 = 0) →
      wpX3_hasWaysOf 92 94 u79.1 u79.2.1 u79.2.2 (fun r93 u93 =>
        (¬ (r93 = 0) →
        B35 u93.1 u93.2.1 u93.2.2 x2 (x3 + (1 : Int32))) ∧
      ((r93 = 0) →
        wpX2_firstDifference_b99 a1 u93.1 u93.2.1 u93.2.2 x3 K)))))))
set_option maxHeartbeats 4000000 in
set_option maxRecDepth 100000 in
theorem tX2_firstDifference_b35_body {a1 : Nat} {B35 : (Nat → Nat → Int32) → (Nat → Nat → Int64) → (Nat → Nat → Nat) → Int32 → Int32 → Prop} {K : Int32 → cS → Prop} (C : CallFix p m c cX2_firstDifference 4 s args wsX2_firstDifference RX2) (hR : Rti .int p l e rmX2_firstDifference s m args below meth c cX2_firstDifference D A (cT cI cL cF cM) (cWu h cI cL cF cM) K Q) (ha1 : kd a1 = 6) (hB35 : ∀ (F : Nat → Nat → Int32) (L : Nat → Nat → Int64) (r : Nat → Nat → Nat) (x2 : Int32) (x3 : Int32) (H : Heap) (locs : List Loc) (ls : Array Slot), B35 F L r x2 x3 → Wd D A s (cT cI cL cF cM) (cW h cI cL cF cM F L r) H locs → lv_has ls 4 [(0, .ref (h 102)), (1, .ref (h a1)), (2, .int x2), (3, .int x3)] → W p l e rmX2_firstDifference s m args below meth c H locs 0 0 Q (F0 m 35 ls [])) {F : Nat → Nat → Int32} {L : Nat → Nat → Int64} {r : Nat → Nat → Nat} {x2 : Int32} {x3 : Int32} (hh : wpX2_firstDifference_b35_body B35 a1 F L r x2 x3 K) {H : Heap} {locs : List Loc} {ls : Array Slot} (hw : Wd D A s (cT cI cL cF cM) (cW h cI cL cF cM F L r) H locs) (hl : lv_has ls 4 [(0, .ref (h 102)), (1, .ref (h a1)), (2, .int x2), (3, .int x3)]) : W p l e rmX2_firstDifference s m args below meth c H locs 0 0 Q (F0 m 35 ls []) := by
  unfold wpX2_firstDifference_b35_body at hh
  refine lv_iload_n C.1 C.2.1 dX2_firstDifference_35 rfl (lv_at hl 3 rfl) ?_
  refine lv_iload_n C.1 C.2.1 dX2_firstDifference_36 rfl (lv_at hl 2 rfl) ?_
  refine lv_icmp_gt (tgt := 107) C.1 C.2.1 dX2_firstDifference_37 (by decide) (fun c37 => ?_) (fun c37 => ?_)
  · replace hh := hh.1 c37
    refine lv_iconst (v := (0 : Int32)) C.1 C.2.1 dX2_firstDifference_107 (by decide) ?_
    exact hR _ _ _ (F, L, r) _ _ dX2_firstDifference_108 rfl hh hw
  · replace hh := hh.2 c37
    refine lv_aload_n C.1 C.2.1 dX2_firstDifference_40 rfl (lv_at hl 0 rfl) ?_
    refine c_get C hw (inC inW2) (kd_lt kp102 (by decide)) (ce2 kp102) rfl 9 (by decide) (wc w_542) (v := .ref (h 94)) rfl dX2_firstDifference_41 ?_
    refine lv_aload_n C.1 C.2.1 dX2_firstDifference_44 rfl (lv_at hl 1 rfl) ?_
    refine lv_aload_n C.1 C.2.1 dX2_firstDifference_45 rfl (lv_at hl 0 rfl) ?_
    refine c_get C hw (inC inW2) (kd_lt kp102 (by decide)) (ce2 kp102) rfl 7 (by decide) (wc w_540) (v := .ref (h 70)) rfl dX2_firstDifference_46 ?_
    refine c_Vv C hw (ctX3_obey l D h cI cL cF cM 94 a1 70 kp94 ha1 kp70 F L r hh) (cwV 2 C.2.2.2.2 (gd_V w_1262 w_993 w_994 w_121 w_995) rfl rfl rfl cdX3_obey ⟨Nat.le_of_ble_eq_true rfl, Nat.le_of_ble_eq_true rfl⟩) rfl (kd_lt kp94 (by decide)) (ce3 kp94) rfl hl.1 (Nat.le_of_ble_eq_true rfl) dX2_firstDifference_49 ⟨Nat.zero_le _, Nat.zero_le _⟩ (fun u49 H locs hh hw => ?_) rfl
    refine lv_aload_n C.1 C.2.1 dX2_firstDifference_52 rfl (lv_at hl 0 rfl) ?_
    refine c_get C hw (inC inW2) (kd_lt kp102 (by decide)) (ce2 kp102) rfl 10 (by decide) (wc w_543) (v := .ref (h 45)) rfl dX2_firstDifference_53 ?_
    refine lv_aload_n C.1 C.2.1 dX2_firstDifference_56 rfl (lv_at hl 0 rfl) ?_
    refine c_get C hw (inC inW2) (kd_lt kp102 (by decide)) (ce2 kp102) rfl 4 (by decide) (wc w_537) (v := .ref (h (u49.2.2 102 4))) rfl dX2_firstDifference_57 ?_
    refine lv_aload_n C.1 C.2.1 dX2_firstDifference_60 rfl (lv_at hl 0 rfl) ?_
    refine c_get C hw (inC inW2) (kd_lt kp102 (by decide)) (ce2 kp102) rfl 8 (by decide) (wc w_541) (v := .ref (h 92)) rfl dX2_firstDifference_61 ?_
    refine lv_aload_n C.1 C.2.1 dX2_firstDifference_64 rfl (lv_at hl 0 rfl) ?_
    refine c_get C hw (inC inW2) (kd_lt kp102 (by decide)) (ce2 kp102) rfl 7 (by decide) (wc w_540) (v := .ref (h 70)) rfl dX2_firstDifference_65 ?_
    obtain ⟨hk0, hh⟩ := hh
    refine c_Vv C hw (ctX0_step l D h cI cL cF cM 45 (u49.2.2 102 4) 92 70 kp45 hk0 kp92 kp70 u49.1 u49.2.1 u49.2.2 hh) (cwV 3 C.2.2.2.2 (gd_V w_1263 w_1164 w_1165 w_122 w_1166) rfl rfl rfl cdX0_step ⟨Nat.le_of_ble_eq_true rfl, Nat.le_of_ble_eq_true rfl⟩) rfl (kd_lt kp45 (by decide)) (ce0 kp45) rfl hl.1 (Nat.le_of_ble_eq_true rfl) dX2_firstDifference_68 ⟨Nat.zero_le _, Nat.zero_le _⟩ (fun u68 H locs hh hw => ?_) rfl
    refine lv_aload_n C.1 C.2.1 dX2_firstDifference_71 rfl (lv_at hl 0 rfl) ?_
    refine c_get C hw (inC inW2) (kd_lt kp102 (by decide)) (ce2 kp102) rfl 8 (by decide) (wc w_541) (v := .ref (h 92)) rfl dX2_firstDifference_72 ?_
    refine lv_aload_n C.1 C.2.1 dX2_firstDifference_75 rfl (lv_at hl 0 rfl) ?_
    refine c_get C hw (inC inW2) (kd_lt kp102 (by decide)) (ce2 kp102) rfl 9 (by decide) (wc w_542) (v := .ref (h 94)) rfl dX2_firstDifference_76 ?_
    refine c_Vi C hw (ctX3_standsAs l D h cI cL cF cM 92 94 kp92 kp94 u68.1 u68.2.1 u68.2.2 hh) (cwV 1 C.2.2.2.2 (gd_V w_1264 w_1150 w_1151 w_121 w_1152) rfl rfl rfl cdX3_standsAs ⟨Nat.le_of_ble_eq_true rfl, Nat.le_of_ble_eq_true rfl⟩) rfl (kd_lt kp92 (by decide)) (ce3 kp92) rfl hl.1 (Nat.le_of_ble_eq_true rfl) dX2_firstDifference_79 ⟨Nat.zero_le _, Nat.zero_le _⟩ (fun r79 u79 H locs hh hw => ?_) rfl
    refine lv_if_eq (tgt := 99) C.1 C.2.1 dX2_firstDifference_82 (by decide) (fun c82 => ?_) (fun c82 => ?_)
    · replace hh := hh.1 c82
      exact tX2_firstDifference_b99 C hR ha1 hh hw (lv_sub hl [0, 3] rfl)
    · replace hh := hh.2 c82
      refine lv_aload_n C.1 C.2.1 dX2_firstDifference_85 rfl (lv_at hl 0 rfl) ?_
      refine c_get C hw (inC inW2) (kd_lt kp102 (by decide)) (ce2 kp102) rfl 8 (by decide) (wc w_541) (v := .ref (h 92)) rfl dX2_firstDifference_86 ?_
      refine lv_aload_n C.1 C.2.1 dX2_firstDifference_89 rfl (lv_at hl 0 rfl) ?_
      refine c_get C hw (inC inW2) (kd_lt kp102 (by decide)) (ce2 kp102) rfl 9 (by decide) (wc w_542) (v := .ref (h 94)) rfl dX2_firstDifference_90 ?_
      refine c_Vi C hw (ctX3_hasWaysOf l D h cI cL cF cM 92 94 kp92 kp94 u79.1 u79.2.1 u79.2.2 hh) (cwV 1 C.2.2.2.2 (gd_V w_1265 w_1266 w_1267 w_121 w_1268) rfl rfl rfl cdX3_hasWaysOf ⟨Nat.le_of_ble_eq_true rfl, Nat.le_of_ble_eq_true rfl⟩) rfl (kd_lt kp92 (by decide)) (ce3 kp92) rfl hl.1 (Nat.le_of_ble_eq_true rfl) dX2_firstDifference_93 ⟨Nat.zero_le _, Nat.zero_le _⟩ (fun r93 u93 H locs hh hw => ?_) rfl
      refine lv_if_ne (tgt := 101) C.1 C.2.1 dX2_firstDifference_96 (by decide) (fun c96 => ?_) (fun c96 => ?_)
      · replace hh := hh.1 c96
        refine lv_iinc (v := x3 + (1 : Int32)) (lv' := [(3, .int (x3 + (1 : Int32))), (0, .ref (h 102)), (1, .ref (h a1)), (2, .int x2)]) C.1 C.2.1 dX2_firstDifference_101 hl (k := 3) rfl rfl (by decide) rfl (fun ls hl => ?_)
        refine lv_goto (tgt := 35) C.1 C.2.1 dX2_firstDifference_104 (by decide) ?_
        exact hB35 _ _ _ _ _ _ _ _ hh hw (lv_sub hl [1, 2, 3, 0] rfl)
      · replace hh := hh.2 c96
        exact tX2_firstDifference_b99 C hR ha1 hh hw (lv_sub hl [0, 3] rfl)
def wpX2_firstDifference_b35 (a1 : Nat) (n_ : Nat) (F : Nat → Nat → Int32) (L : Nat → Nat → Int64) (r : Nat → Nat → Nat) (x2 : Int32) (x3 : Int32) (K : Int32 → cS → Prop) : Prop := match n_ with
  | 0 => False
  | n + 1 => wpX2_firstDifference_b35_body (fun F L r x2 x3 => wpX2_firstDifference_b35 a1 n F L r x2 x3 K) a1 F L r x2 x3 K
theorem tX2_firstDifference_b35 {a1 : Nat} {K : Int32 → cS → Prop} (C : CallFix p m c cX2_firstDifference 4 s args wsX2_firstDifference RX2) (hR : Rti .int p l e rmX2_firstDifference s m args below meth c cX2_firstDifference D A (cT cI cL cF cM) (cWu h cI cL cF cM) K Q) (ha1 : kd a1 = 6) (n : Nat) : ∀ (F : Nat → Nat → Int32) (L : Nat → Nat → Int64) (r : Nat → Nat → Nat) (x2 : Int32) (x3 : Int32) (H : Heap) (locs : List Loc) (ls : Array Slot), wpX2_firstDifference_b35 a1 n F L r x2 x3 K → Wd D A s (cT cI cL cF cM) (cW h cI cL cF cM F L r) H locs → lv_has ls 4 [(0, .ref (h 102)), (1, .ref (h a1)), (2, .int x2), (3, .int x3)] → W p l e rmX2_firstDifference s m args below meth c H locs 0 0 Q (F0 m 35 ls []) := by
  induction n with
  | zero => intro F L r x2 x3 H locs ls hh; exact hh.elim
  | succ n ih => intro F L r x2 x3 H locs ls hh hw hl; exact tX2_firstDifference_b35_body C hR ha1 ih hh hw hl
def wpX2_firstDifference_b0 (a1 : Nat) (F : Nat → Nat → Int32) (L : Nat → Nat → Int64) (r : Nat → Nat → Nat) (x2 : Int32) (K : Int32 → cS → Prop) : Prop :=
  wpX3_copyFrom 94 90 F L r (fun u8 =>
    wpX3_copyFrom 92 90 u8.1 u8.2.1 u8.2.2 (fun u19 =>
    wpX0_jamLike 45 44 u19.1 u19.2.1 u19.2.2 (fun u30 =>
    ∃ n, wpX2_firstDifference_b35 a1 n u30.1 u30.2.1 u30.2.2 x2 (1 : Int32) K)))
set_option maxHeartbeats 4000000 in
set_option maxRecDepth 100000 in
theorem tX2_firstDifference_b0 {a1 : Nat} {K : Int32 → cS → Prop} (C : CallFix p m c cX2_firstDifference 4 s args wsX2_firstDifference RX2) (hR : Rti .int p l e rmX2_firstDifference s m args below meth c cX2_firstDifference D A (cT cI cL cF cM) (cWu h cI cL cF cM) K Q) (ha1 : kd a1 = 6) {F : Nat → Nat → Int32} {L : Nat → Nat → Int64} {r : Nat → Nat → Nat} {x2 : Int32} (hh : wpX2_firstDifference_b0 a1 F L r x2 K) {H : Heap} {locs : List Loc} {ls : Array Slot} (hw : Wd D A s (cT cI cL cF cM) (cW h cI cL cF cM F L r) H locs) (hl : lv_has ls 4 [(0, .ref (h 102)), (1, .ref (h a1)), (2, .int x2)]) : W p l e rmX2_firstDifference s m args below meth c H locs 0 0 Q (F0 m 0 ls []) := by
  unfold wpX2_firstDifference_b0 at hh
  refine lv_aload_n C.1 C.2.1 dX2_firstDifference_0 rfl (lv_at hl 0 rfl) ?_
  refine c_get C hw (inC inW2) (kd_lt kp102 (by decide)) (ce2 kp102) rfl 9 (by decide) (wc w_542) (v := .ref (h 94)) rfl dX2_firstDifference_1 ?_
  refine lv_aload_n C.1 C.2.1 dX2_firstDifference_4 rfl (lv_at hl 0 rfl) ?_
  refine c_get C hw (inC inW2) (kd_lt kp102 (by decide)) (ce2 kp102) rfl 5 (by decide) (wc w_538) (v := .ref (h 90)) rfl dX2_firstDifference_5 ?_
  refine c_Vv C hw (ctX3_copyFrom l D h cI cL cF cM 94 90 kp94 kp90 F L r hh) (cwV 1 C.2.2.2.2 (gd_V w_1242 w_1243 w_1244 w_121 w_1245) rfl rfl rfl cdX3_copyFrom ⟨Nat.le_of_ble_eq_true rfl, Nat.le_of_ble_eq_true rfl⟩) rfl (kd_lt kp94 (by decide)) (ce3 kp94) rfl hl.1 (Nat.le_of_ble_eq_true rfl) dX2_firstDifference_8 ⟨Nat.zero_le _, Nat.zero_le _⟩ (fun u8 H locs hh hw => ?_) rfl
  refine lv_aload_n C.1 C.2.1 dX2_firstDifference_11 rfl (lv_at hl 0 rfl) ?_
  refine c_get C hw (inC inW2) (kd_lt kp102 (by decide)) (ce2 kp102) rfl 8 (by decide) (wc w_541) (v := .ref (h 92)) rfl dX2_firstDifference_12 ?_
  refine lv_aload_n C.1 C.2.1 dX2_firstDifference_15 rfl (lv_at hl 0 rfl) ?_
  refine c_get C hw (inC inW2) (kd_lt kp102 (by decide)) (ce2 kp102) rfl 5 (by decide) (wc w_538) (v := .ref (h 90)) rfl dX2_firstDifference_16 ?_
  refine c_Vv C hw (ctX3_copyFrom l D h cI cL cF cM 92 90 kp92 kp90 u8.1 u8.2.1 u8.2.2 hh) (cwV 1 C.2.2.2.2 (gd_V w_1242 w_1243 w_1244 w_121 w_1245) rfl rfl rfl cdX3_copyFrom ⟨Nat.le_of_ble_eq_true rfl, Nat.le_of_ble_eq_true rfl⟩) rfl (kd_lt kp92 (by decide)) (ce3 kp92) rfl hl.1 (Nat.le_of_ble_eq_true rfl) dX2_firstDifference_19 ⟨Nat.zero_le _, Nat.zero_le _⟩ (fun u19 H locs hh hw => ?_) rfl
  refine lv_aload_n C.1 C.2.1 dX2_firstDifference_22 rfl (lv_at hl 0 rfl) ?_
  refine c_get C hw (inC inW2) (kd_lt kp102 (by decide)) (ce2 kp102) rfl 10 (by decide) (wc w_543) (v := .ref (h 45)) rfl dX2_firstDifference_23 ?_
  refine lv_aload_n C.1 C.2.1 dX2_firstDifference_26 rfl (lv_at hl 0 rfl) ?_
  refine c_get C hw (inC inW2) (kd_lt kp102 (by decide)) (ce2 kp102) rfl 6 (by decide) (wc w_539) (v := .ref (h 44)) rfl dX2_firstDifference_27 ?_
  refine c_Vv C hw (ctX0_jamLike l D h cI cL cF cM 45 44 kp45 kp44 u19.1 u19.2.1 u19.2.2 hh) (cwV 1 C.2.2.2.2 (gd_V w_1250 w_1251 w_1252 w_122 w_1253) rfl rfl rfl cdX0_jamLike ⟨Nat.le_of_ble_eq_true rfl, Nat.le_of_ble_eq_true rfl⟩) rfl (kd_lt kp45 (by decide)) (ce0 kp45) rfl hl.1 (Nat.le_of_ble_eq_true rfl) dX2_firstDifference_30 ⟨Nat.zero_le _, Nat.zero_le _⟩ (fun u30 H locs hh hw => ?_) rfl
  refine lv_iconst (v := (1 : Int32)) C.1 C.2.1 dX2_firstDifference_33 (by decide) ?_
  refine lv_istore_n (lv' := [(3, .int (1 : Int32)), (0, .ref (h 102)), (1, .ref (h a1)), (2, .int x2)]) C.1 C.2.1 dX2_firstDifference_34 rfl hl (by decide) rfl (fun ls hl => ?_)
  obtain ⟨n, hh⟩ := hh
  exact tX2_firstDifference_b35 C hR ha1 n _ _ _ _ _ _ _ _ hh hw (lv_sub hl [1, 2, 3, 0] rfl)
def wpX2_firstDifference (a1 : Nat) (F : Nat → Nat → Int32) (L : Nat → Nat → Int64) (r : Nat → Nat → Nat) (x2 : Int32) (K : Int32 → cS → Prop) : Prop := wpX2_firstDifference_b0 a1 F L r x2 K
theorem ctX2_firstDifference (l : Launch) (D : va_G) (h : Nat → Nat) (cI cL cF cM : ClassId) (a1 : Nat) (ha1 : kd a1 = 6) (F : Nat → Nat → Int32) (L : Nat → Nat → Int64) (r : Nat → Nat → Nat) (x2 : Int32) {K : Int32 → cS → Prop} (hh : wpX2_firstDifference a1 F L r x2 K) : Ci l yX2_firstDifference wsX2_firstDifference rmX2_firstDifference [.ref (h 102), .ref (h a1), .int x2] D (cT cI cL cF cM) (cWu h cI cL cF cM) (F, L, r) K := by
  refine Ci_of (cc := cX2_firstDifference) (maxL := 4) (by decide) rfl (Nat.le_of_ble_eq_true rfl) ?_
  intro p e s m below meth c A Q C hw hR ls hl
  exact tX2_firstDifference_b0 C hR ha1 hh hw hl
theorem cdX2_firstDifference : yX2_firstDifference.cls = RX2 ∧ yX2_firstDifference.cls ≠ "java/lang/invoke/MethodHandle" ∧ yX2_firstDifference.cls ≠ "java/lang/invoke/VarHandle" ∧ (parseMethodDescriptor yX2_firstDifference.desc).map (fun d => d.parameters.length) = some 2 := by decide +kernel
abbrev rmX10_same : Room := { frames := 4, cells := 0, slots := 0, locals := 95 }
def wpX10_same_b0 (F : Nat → Nat → Int32) (L : Nat → Nat → Int64) (r : Nat → Nat → Nat) (x1 : Int32) (K : Int32 → cS → Prop) : Prop :=
  wpX2_isLength x1 (fun r1 u1 =>
    (¬ (r1 = 0) →
    kd (r 0 4) = 4 ∧ wpX2_begin (r 0 4) 74 46 43 F L r (fun u29 =>
      kd (u29.2.2 0 3) = 6 ∧ wpX2_firstDifference (u29.2.2 0 3) u29.1 u29.2.1 u29.2.2 x1 (fun r41 u41 =>
      K r41 (u41.1, u41.2.1, u41.2.2)))) ∧
  ((r1 = 0) →
    K (-1 : Int32) (F, L, r)))
set_option maxHeartbeats 4000000 in
set_option maxRecDepth 100000 in
theorem tX10_same_b0 {K : Int32 → cS → Prop} (C : CallFix p m c cX10_same 2 s args wsX10_same RX10) (hR : Rti .int p l e rmX10_same s m args below meth c cX10_same D A (cT cI cL cF cM) (cWu h cI cL cF cM) K Q) {F : Nat → Nat → Int32} {L : Nat → Nat → Int64} {r : Nat → Nat → Nat} {x1 : Int32} (hh : wpX10_same_b0 F L r x1 K) {H : Heap} {locs : List Loc} {ls : Array Slot} (hw : Wd D A s (cT cI cL cF cM) (cW h cI cL cF cM F L r) H locs) (hl : lv_has ls 2 [(0, .ref (h 0)), (1, .int x1)]) : W p l e rmX10_same s m args below meth c H locs 0 0 Q (F0 m 0 ls []) := by
  unfold wpX10_same_b0 at hh
  refine lv_iload_n C.1 C.2.1 dX10_same_0 rfl (lv_at hl 1 rfl) ?_
  refine wd_Si C hw (ctX2_isLength l D x1 hh) (va_cwS 1 C.2.2.2.2 (gd_S w_1235 w_1236 (ini_cls rfl w_124) w_1237) rfl rfl rfl cdX2_isLength ⟨Nat.le_of_ble_eq_true rfl, Nat.le_of_ble_eq_true rfl⟩) rfl hl.1 (Nat.le_of_ble_eq_true rfl) dX10_same_1 ⟨Nat.zero_le _, Nat.zero_le _⟩ (fun r1 H locs hh hw => ?_) rfl
  refine lv_if_ne (tgt := 9) C.1 C.2.1 dX10_same_4 (by decide) (fun c4 => ?_) (fun c4 => ?_)
  · replace hh := hh.1 c4
    refine lv_aload_n C.1 C.2.1 dX10_same_9 rfl (lv_at hl 0 rfl) ?_
    refine c_get C hw (inC inW10) (kd_lt kp0 (by decide)) (ce10 kp0) rfl 14 (by decide) (wc w_584) (v := .ref (h 102)) rfl dX10_same_10 ?_
    refine lv_aload_n C.1 C.2.1 dX10_same_13 rfl (lv_at hl 0 rfl) ?_
    refine c_get C hw (inC inW10) (kd_lt kp0 (by decide)) (ce10 kp0) rfl 4 (by decide) (wc w_574) (v := .ref (h (r 0 4))) rfl dX10_same_14 ?_
    refine lv_aload_n C.1 C.2.1 dX10_same_17 rfl (lv_at hl 0 rfl) ?_
    refine c_get C hw (inC inW10) (kd_lt kp0 (by decide)) (ce10 kp0) rfl 6 (by decide) (wc w_576) (v := .ref (h 74)) rfl dX10_same_18 ?_
    refine lv_aload_n C.1 C.2.1 dX10_same_21 rfl (lv_at hl 0 rfl) ?_
    refine c_get C hw (inC inW10) (kd_lt kp0 (by decide)) (ce10 kp0) rfl 5 (by decide) (wc w_575) (v := .ref (h 46)) rfl dX10_same_22 ?_
    refine lv_aload_n C.1 C.2.1 dX10_same_25 rfl (lv_at hl 0 rfl) ?_
    refine c_get C hw (inC inW10) (kd_lt kp0 (by decide)) (ce10 kp0) rfl 7 (by decide) (wc w_577) (v := .ref (h 43)) rfl dX10_same_26 ?_
    obtain ⟨hk0, hh⟩ := hh
    refine c_Vv C hw (ctX2_begin l D h cI cL cF cM (r 0 4) 74 46 43 hk0 kp74 kp46 kp43 F L r hh) (cwV 4 C.2.2.2.2 (gd_V w_1238 w_1239 w_1240 w_124 w_1241) rfl rfl rfl cdX2_begin ⟨Nat.le_of_ble_eq_true rfl, Nat.le_of_ble_eq_true rfl⟩) rfl (kd_lt kp102 (by decide)) (ce2 kp102) rfl hl.1 (Nat.le_of_ble_eq_true rfl) dX10_same_29 ⟨Nat.zero_le _, Nat.zero_le _⟩ (fun u29 H locs hh hw => ?_) rfl
    refine lv_aload_n C.1 C.2.1 dX10_same_32 rfl (lv_at hl 0 rfl) ?_
    refine c_get C hw (inC inW10) (kd_lt kp0 (by decide)) (ce10 kp0) rfl 14 (by decide) (wc w_584) (v := .ref (h 102)) rfl dX10_same_33 ?_
    refine lv_aload_n C.1 C.2.1 dX10_same_36 rfl (lv_at hl 0 rfl) ?_
    refine c_get C hw (inC inW10) (kd_lt kp0 (by decide)) (ce10 kp0) rfl 3 (by decide) (wc w_573) (v := .ref (h (u29.2.2 0 3))) rfl dX10_same_37 ?_
    refine lv_iload_n C.1 C.2.1 dX10_same_40 rfl (lv_at hl 1 rfl) ?_
    obtain ⟨hk1, hh⟩ := hh
    refine c_Vi C hw (ctX2_firstDifference l D h cI cL cF cM (u29.2.2 0 3) hk1 u29.1 u29.2.1 u29.2.2 x1 hh) (cwV 2 C.2.2.2.2 (gd_V w_1258 w_1259 w_1260 w_124 w_1261) rfl rfl rfl cdX2_firstDifference ⟨Nat.le_of_ble_eq_true rfl, Nat.le_of_ble_eq_true rfl⟩) rfl (kd_lt kp102 (by decide)) (ce2 kp102) rfl hl.1 (Nat.le_of_ble_eq_true rfl) dX10_same_41 ⟨Nat.zero_le _, Nat.zero_le _⟩ (fun r41 u41 H locs hh hw => ?_) rfl
    exact hR _ _ _ (u41.1, u41.2.1, u41.2.2) _ _ dX10_same_44 rfl hh hw
  · replace hh := hh.2 c4
    refine lv_iconst (v := (-1 : Int32)) C.1 C.2.1 dX10_same_7 (by decide) ?_
    exact hR _ _ _ (F, L, r) _ _ dX10_same_8 rfl hh hw
def wpX10_same (F : Nat → Nat → Int32) (L : Nat → Nat → Int64) (r : Nat → Nat → Nat) (x1 : Int32) (K : Int32 → cS → Prop) : Prop := wpX10_same_b0 F L r x1 K
theorem ctX10_same (l : Launch) (D : va_G) (h : Nat → Nat) (cI cL cF cM : ClassId) (F : Nat → Nat → Int32) (L : Nat → Nat → Int64) (r : Nat → Nat → Nat) (x1 : Int32) {K : Int32 → cS → Prop} (hh : wpX10_same F L r x1 K) : Ci l yX10_same wsX10_same rmX10_same [.ref (h 0), .int x1] D (cT cI cL cF cM) (cWu h cI cL cF cM) (F, L, r) K := by
  refine Ci_of (cc := cX10_same) (maxL := 2) (by decide) rfl (Nat.le_of_ble_eq_true rfl) ?_
  intro p e s m below meth c A Q C hw hR ls hl
  exact tX10_same_b0 C hR hh hw hl
theorem cdX10_same : yX10_same.cls = RX10 ∧ yX10_same.cls ≠ "java/lang/invoke/MethodHandle" ∧ yX10_same.cls ≠ "java/lang/invoke/VarHandle" ∧ (parseMethodDescriptor yX10_same.desc).map (fun d => d.parameters.length) = some 1 := by decide +kernel
abbrev rmX2_stand : Room := { frames := 0, cells := 0, slots := 0, locals := 0 }
def wpX2_stand_b0 (F : Nat → Nat → Int32) (L : Nat → Nat → Int64) (r : Nat → Nat → Nat) (K : Int32 → cS → Prop) : Prop :=
  K (((F 92 0) * (4 : Int32)) + (F 92 1)) (F, L, r)
set_option maxHeartbeats 4000000 in
set_option maxRecDepth 100000 in
theorem tX2_stand_b0 {K : Int32 → cS → Prop} (C : CallFix p m c cX2_stand 1 s args wsX2_stand RX2) (hR : Rti .int p l e rmX2_stand s m args below meth c cX2_stand D A (cT cI cL cF cM) (cWu h cI cL cF cM) K Q) {F : Nat → Nat → Int32} {L : Nat → Nat → Int64} {r : Nat → Nat → Nat} (hh : wpX2_stand_b0 F L r K) {H : Heap} {locs : List Loc} {ls : Array Slot} (hw : Wd D A s (cT cI cL cF cM) (cW h cI cL cF cM F L r) H locs) (hl : lv_has ls 1 [(0, .ref (h 102))]) : W p l e rmX2_stand s m args below meth c H locs 0 0 Q (F0 m 0 ls []) := by
  unfold wpX2_stand_b0 at hh
  refine lv_aload_n C.1 C.2.1 dX2_stand_0 rfl (lv_at hl 0 rfl) ?_
  refine c_get C hw (inC inW2) (kd_lt kp102 (by decide)) (ce2 kp102) rfl 8 (by decide) (wc w_541) (v := .ref (h 92)) rfl dX2_stand_1 ?_
  refine c_get C hw (inC inW3) (kd_lt kp92 (by decide)) (ce3 kp92) rfl 0 (by decide) (wc w_394) (v := .int (F 92 0)) rfl dX2_stand_4 ?_
  refine lv_iconst (v := (4 : Int32)) C.1 C.2.1 dX2_stand_7 (by decide) ?_
  refine lv_imul C.1 C.2.1 dX2_stand_8 ?_
  refine lv_aload_n C.1 C.2.1 dX2_stand_9 rfl (lv_at hl 0 rfl) ?_
  refine c_get C hw (inC inW2) (kd_lt kp102 (by decide)) (ce2 kp102) rfl 8 (by decide) (wc w_541) (v := .ref (h 92)) rfl dX2_stand_10 ?_
  refine c_get C hw (inC inW3) (kd_lt kp92 (by decide)) (ce3 kp92) rfl 1 (by decide) (wc w_398) (v := .int (F 92 1)) rfl dX2_stand_13 ?_
  refine lv_iadd C.1 C.2.1 dX2_stand_16 ?_
  exact hR _ _ _ (F, L, r) _ _ dX2_stand_17 rfl hh hw
def wpX2_stand (F : Nat → Nat → Int32) (L : Nat → Nat → Int64) (r : Nat → Nat → Nat) (K : Int32 → cS → Prop) : Prop := wpX2_stand_b0 F L r K
theorem ctX2_stand (l : Launch) (D : va_G) (h : Nat → Nat) (cI cL cF cM : ClassId) (F : Nat → Nat → Int32) (L : Nat → Nat → Int64) (r : Nat → Nat → Nat) {K : Int32 → cS → Prop} (hh : wpX2_stand F L r K) : Ci l yX2_stand wsX2_stand rmX2_stand [.ref (h 102)] D (cT cI cL cF cM) (cWu h cI cL cF cM) (F, L, r) K := by
  refine Ci_of (cc := cX2_stand) (maxL := 1) (by decide) rfl (Nat.le_of_ble_eq_true rfl) ?_
  intro p e s m below meth c A Q C hw hR ls hl
  exact tX2_stand_b0 C hR hh hw hl
theorem cdX2_stand : yX2_stand.cls = RX2 ∧ yX2_stand.cls ≠ "java/lang/invoke/MethodHandle" ∧ yX2_stand.cls ≠ "java/lang/invoke/VarHandle" ∧ (parseMethodDescriptor yX2_stand.desc).map (fun d => d.parameters.length) = some 0 := by decide +kernel
abbrev rmX2_recordTrack : Room := { frames := 3, cells := 0, slots := 0, locals := 72 }
def wpX2_recordTrack_b71 (F : Nat → Nat → Int32) (L : Nat → Nat → Int64) (r : Nat → Nat → Nat) (K : cS → Prop) : Prop :=
  K (F, L, r)
set_option maxHeartbeats 4000000 in
set_option maxRecDepth 100000 in
theorem tX2_recordTrack_b71 {K : cS → Prop} (C : CallFix p m c cX2_recordTrack 3 s args wsX2_recordTrack RX2) (hR : Rtv p l e rmX2_recordTrack s m args below meth c cX2_recordTrack D A (cT cI cL cF cM) (cWu h cI cL cF cM) K Q) {F : Nat → Nat → Int32} {L : Nat → Nat → Int64} {r : Nat → Nat → Nat} (hh : wpX2_recordTrack_b71 F L r K) {H : Heap} {locs : List Loc} {ls : Array Slot} (hw : Wd D A s (cT cI cL cF cM) (cW h cI cL cF cM F L r) H locs) (hl : lv_has ls 3 [(0, .ref (h 102))]) : W p l e rmX2_recordTrack s m args below meth c H locs 0 0 Q (F0 m 71 ls []) := by
  unfold wpX2_recordTrack_b71 at hh
  exact hR _ _ (F, L, r) _ _ dX2_recordTrack_71 hh hw
def wpX2_recordTrack_b24_body (B24 : (Nat → Nat → Int32) → (Nat → Nat → Int64) → (Nat → Nat → Nat) → Int32 → Int32 → Prop) (F : Nat → Nat → Int32) (L : Nat → Nat → Int64) (r : Nat → Nat → Nat) (x1 : Int32) (x2 : Int32) (K : cS → Prop) : Prop :=
  ((x1 ≤ x2) →
    wpX2_recordTrack_b71 F L r K) ∧
  (¬ (x1 ≤ x2) →
    (((500 : Int32) ≤ x2) →
      wpX2_recordTrack_b71 F L r K) ∧
    (¬ ((500 : Int32) ≤ x2) →
      kd (r 102 4) = 4 ∧ wpX0_step 45 (r 102 4) 92 70 F L r (fun u52 =>
        wpX2_stand u52.1 u52.2.1 u52.2.2 (fun r61 u61 =>
        vp_in x2 500 ∧ B24 (pt u61.1 103 (ix x2) r61) u61.2.1 u61.2.2 x1 (x2 + (1 : Int32))))))
set_option maxHeartbeats 4000000 in
set_option maxRecDepth 100000 in
theorem tX2_recordTrack_b24_body {B24 : (Nat → Nat → Int32) → (Nat → Nat → Int64) → (Nat → Nat → Nat) → Int32 → Int32 → Prop} {K : cS → Prop} (C : CallFix p m c cX2_recordTrack 3 s args wsX2_recordTrack RX2) (hR : Rtv p l e rmX2_recordTrack s m args below meth c cX2_recordTrack D A (cT cI cL cF cM) (cWu h cI cL cF cM) K Q) (hB24 : ∀ (F : Nat → Nat → Int32) (L : Nat → Nat → Int64) (r : Nat → Nat → Nat) (x1 : Int32) (x2 : Int32) (H : Heap) (locs : List Loc) (ls : Array Slot), B24 F L r x1 x2 → Wd D A s (cT cI cL cF cM) (cW h cI cL cF cM F L r) H locs → lv_has ls 3 [(0, .ref (h 102)), (1, .int x1), (2, .int x2)] → W p l e rmX2_recordTrack s m args below meth c H locs 0 0 Q (F0 m 24 ls [])) {F : Nat → Nat → Int32} {L : Nat → Nat → Int64} {r : Nat → Nat → Nat} {x1 : Int32} {x2 : Int32} (hh : wpX2_recordTrack_b24_body B24 F L r x1 x2 K) {H : Heap} {locs : List Loc} {ls : Array Slot} (hw : Wd D A s (cT cI cL cF cM) (cW h cI cL cF cM F L r) H locs) (hl : lv_has ls 3 [(0, .ref (h 102)), (1, .int x1), (2, .int x2)]) : W p l e rmX2_recordTrack s m args below meth c H locs 0 0 Q (F0 m 24 ls []) := by
  unfold wpX2_recordTrack_b24_body at hh
  refine lv_iload_n C.1 C.2.1 dX2_recordTrack_24 rfl (lv_at hl 2 rfl) ?_
  refine lv_iload_n C.1 C.2.1 dX2_recordTrack_25 rfl (lv_at hl 1 rfl) ?_
  refine lv_icmp_ge (tgt := 71) C.1 C.2.1 dX2_recordTrack_26 (by decide) (fun c26 => ?_) (fun c26 => ?_)
  · replace hh := hh.1 c26
    exact tX2_recordTrack_b71 C hR hh hw (lv_sub hl [0] rfl)
  · replace hh := hh.2 c26
    refine lv_iload_n C.1 C.2.1 dX2_recordTrack_29 rfl (lv_at hl 2 rfl) ?_
    refine lv_sipush (v := (500 : Int32)) C.1 C.2.1 dX2_recordTrack_30 (by decide) ?_
    refine lv_icmp_ge (tgt := 71) C.1 C.2.1 dX2_recordTrack_33 (by decide) (fun c33 => ?_) (fun c33 => ?_)
    · replace hh := hh.1 c33
      exact tX2_recordTrack_b71 C hR hh hw (lv_sub hl [0] rfl)
    · replace hh := hh.2 c33
      refine lv_aload_n C.1 C.2.1 dX2_recordTrack_36 rfl (lv_at hl 0 rfl) ?_
      refine c_get C hw (inC inW2) (kd_lt kp102 (by decide)) (ce2 kp102) rfl 10 (by decide) (wc w_543) (v := .ref (h 45)) rfl dX2_recordTrack_37 ?_
      refine lv_aload_n C.1 C.2.1 dX2_recordTrack_40 rfl (lv_at hl 0 rfl) ?_
      refine c_get C hw (inC inW2) (kd_lt kp102 (by decide)) (ce2 kp102) rfl 4 (by decide) (wc w_537) (v := .ref (h (r 102 4))) rfl dX2_recordTrack_41 ?_
      refine lv_aload_n C.1 C.2.1 dX2_recordTrack_44 rfl (lv_at hl 0 rfl) ?_
      refine c_get C hw (inC inW2) (kd_lt kp102 (by decide)) (ce2 kp102) rfl 8 (by decide) (wc w_541) (v := .ref (h 92)) rfl dX2_recordTrack_45 ?_
      refine lv_aload_n C.1 C.2.1 dX2_recordTrack_48 rfl (lv_at hl 0 rfl) ?_
      refine c_get C hw (inC inW2) (kd_lt kp102 (by decide)) (ce2 kp102) rfl 7 (by decide) (wc w_540) (v := .ref (h 70)) rfl dX2_recordTrack_49 ?_
      obtain ⟨hk0, hh⟩ := hh
      refine c_Vv C hw (ctX0_step l D h cI cL cF cM 45 (r 102 4) 92 70 kp45 hk0 kp92 kp70 F L r hh) (cwV 3 C.2.2.2.2 (gd_V w_1263 w_1164 w_1165 w_122 w_1166) rfl rfl rfl cdX0_step ⟨Nat.le_of_ble_eq_true rfl, Nat.le_of_ble_eq_true rfl⟩) rfl (kd_lt kp45 (by decide)) (ce0 kp45) rfl hl.1 (Nat.le_of_ble_eq_true rfl) dX2_recordTrack_52 ⟨Nat.zero_le _, Nat.zero_le _⟩ (fun u52 H locs hh hw => ?_) rfl
      refine lv_aload_n C.1 C.2.1 dX2_recordTrack_55 rfl (lv_at hl 0 rfl) ?_
      refine c_get C hw (inC inW2) (kd_lt kp102 (by decide)) (ce2 kp102) rfl 11 (by decide) (wc w_544) (v := .ref (h 103)) rfl dX2_recordTrack_56 ?_
      refine lv_iload_n C.1 C.2.1 dX2_recordTrack_59 rfl (lv_at hl 2 rfl) ?_
      refine lv_aload_n C.1 C.2.1 dX2_recordTrack_60 rfl (lv_at hl 0 rfl) ?_
      refine c_Vi C hw (ctX2_stand l D h cI cL cF cM u52.1 u52.2.1 u52.2.2 hh) (cwV 0 C.2.2.2.2 (gd_V w_1281 w_1283 w_48 w_124 w_1284) rfl rfl rfl cdX2_stand ⟨Nat.le_of_ble_eq_true rfl, Nat.le_of_ble_eq_true rfl⟩) rfl (kd_lt kp102 (by decide)) (ce2 kp102) rfl hl.1 (Nat.le_of_ble_eq_true rfl) dX2_recordTrack_61 ⟨Nat.zero_le _, Nat.zero_le _⟩ (fun r61 u61 H locs hh hw => ?_) rfl
      obtain ⟨hi64, hh⟩ := hh
      refine c_ias C hw (kd_lt kp103 (by decide)) (ce13 kp103) hi64 dX2_recordTrack_64 (fun H locs hw => ?_)
      refine lv_iinc (v := x2 + (1 : Int32)) (lv' := [(2, .int (x2 + (1 : Int32))), (0, .ref (h 102)), (1, .int x1)]) C.1 C.2.1 dX2_recordTrack_65 hl (k := 2) rfl rfl (by decide) rfl (fun ls hl => ?_)
      refine lv_goto (tgt := 24) C.1 C.2.1 dX2_recordTrack_68 (by decide) ?_
      exact hB24 _ _ _ _ _ _ _ _ hh hw (lv_sub hl [1, 2, 0] rfl)
def wpX2_recordTrack_b24 (n_ : Nat) (F : Nat → Nat → Int32) (L : Nat → Nat → Int64) (r : Nat → Nat → Nat) (x1 : Int32) (x2 : Int32) (K : cS → Prop) : Prop := match n_ with
  | 0 => False
  | n + 1 => wpX2_recordTrack_b24_body (fun F L r x1 x2 => wpX2_recordTrack_b24 n F L r x1 x2 K) F L r x1 x2 K
theorem tX2_recordTrack_b24 {K : cS → Prop} (C : CallFix p m c cX2_recordTrack 3 s args wsX2_recordTrack RX2) (hR : Rtv p l e rmX2_recordTrack s m args below meth c cX2_recordTrack D A (cT cI cL cF cM) (cWu h cI cL cF cM) K Q) (n : Nat) : ∀ (F : Nat → Nat → Int32) (L : Nat → Nat → Int64) (r : Nat → Nat → Nat) (x1 : Int32) (x2 : Int32) (H : Heap) (locs : List Loc) (ls : Array Slot), wpX2_recordTrack_b24 n F L r x1 x2 K → Wd D A s (cT cI cL cF cM) (cW h cI cL cF cM F L r) H locs → lv_has ls 3 [(0, .ref (h 102)), (1, .int x1), (2, .int x2)] → W p l e rmX2_recordTrack s m args below meth c H locs 0 0 Q (F0 m 24 ls []) := by
  induction n with
  | zero => intro F L r x1 x2 H locs ls hh; exact hh.elim
  | succ n ih => intro F L r x1 x2 H locs ls hh hw hl; exact tX2_recordTrack_b24_body C hR ih hh hw hl
def wpX2_recordTrack_b0 (F : Nat → Nat → Int32) (L : Nat → Nat → Int64) (r : Nat → Nat → Nat) (x1 : Int32) (K : cS → Prop) : Prop :=
  wpX3_copyFrom 92 90 F L r (fun u8 =>
    wpX0_jamLike 45 44 u8.1 u8.2.1 u8.2.2 (fun u19 =>
    ∃ n, wpX2_recordTrack_b24 n u19.1 u19.2.1 u19.2.2 x1 (0 : Int32) K))
set_option maxHeartbeats 4000000 in
set_option maxRecDepth 100000 in
theorem tX2_recordTrack_b0 {K : cS → Prop} (C : CallFix p m c cX2_recordTrack 3 s args wsX2_recordTrack RX2) (hR : Rtv p l e rmX2_recordTrack s m args below meth c cX2_recordTrack D A (cT cI cL cF cM) (cWu h cI cL cF cM) K Q) {F : Nat → Nat → Int32} {L : Nat → Nat → Int64} {r : Nat → Nat → Nat} {x1 : Int32} (hh : wpX2_recordTrack_b0 F L r x1 K) {H : Heap} {locs : List Loc} {ls : Array Slot} (hw : Wd D A s (cT cI cL cF cM) (cW h cI cL cF cM F L r) H locs) (hl : lv_has ls 3 [(0, .ref (h 102)), (1, .int x1)]) : W p l e rmX2_recordTrack s m args below meth c H locs 0 0 Q (F0 m 0 ls []) := by
  unfold wpX2_recordTrack_b0 at hh
  refine lv_aload_n C.1 C.2.1 dX2_recordTrack_0 rfl (lv_at hl 0 rfl) ?_
  refine c_get C hw (inC inW2) (kd_lt kp102 (by decide)) (ce2 kp102) rfl 8 (by decide) (wc w_541) (v := .ref (h 92)) rfl dX2_recordTrack_1 ?_
  refine lv_aload_n C.1 C.2.1 dX2_recordTrack_4 rfl (lv_at hl 0 rfl) ?_
  refine c_get C hw (inC inW2) (kd_lt kp102 (by decide)) (ce2 kp102) rfl 5 (by decide) (wc w_538) (v := .ref (h 90)) rfl dX2_recordTrack_5 ?_
  refine c_Vv C hw (ctX3_copyFrom l D h cI cL cF cM 92 90 kp92 kp90 F L r hh) (cwV 1 C.2.2.2.2 (gd_V w_1242 w_1243 w_1244 w_121 w_1245) rfl rfl rfl cdX3_copyFrom ⟨Nat.le_of_ble_eq_true rfl, Nat.le_of_ble_eq_true rfl⟩) rfl (kd_lt kp92 (by decide)) (ce3 kp92) rfl hl.1 (Nat.le_of_ble_eq_true rfl) dX2_recordTrack_8 ⟨Nat.zero_le _, Nat.zero_le _⟩ (fun u8 H locs hh hw => ?_) rfl
  refine lv_aload_n C.1 C.2.1 dX2_recordTrack_11 rfl (lv_at hl 0 rfl) ?_
  refine c_get C hw (inC inW2) (kd_lt kp102 (by decide)) (ce2 kp102) rfl 10 (by decide) (wc w_543) (v := .ref (h 45)) rfl dX2_recordTrack_12 ?_
  refine lv_aload_n C.1 C.2.1 dX2_recordTrack_15 rfl (lv_at hl 0 rfl) ?_
  refine c_get C hw (inC inW2) (kd_lt kp102 (by decide)) (ce2 kp102) rfl 6 (by decide) (wc w_539) (v := .ref (h 44)) rfl dX2_recordTrack_16 ?_
  refine c_Vv C hw (ctX0_jamLike l D h cI cL cF cM 45 44 kp45 kp44 u8.1 u8.2.1 u8.2.2 hh) (cwV 1 C.2.2.2.2 (gd_V w_1250 w_1251 w_1252 w_122 w_1253) rfl rfl rfl cdX0_jamLike ⟨Nat.le_of_ble_eq_true rfl, Nat.le_of_ble_eq_true rfl⟩) rfl (kd_lt kp45 (by decide)) (ce0 kp45) rfl hl.1 (Nat.le_of_ble_eq_true rfl) dX2_recordTrack_19 ⟨Nat.zero_le _, Nat.zero_le _⟩ (fun u19 H locs hh hw => ?_) rfl
  refine lv_iconst (v := (0 : Int32)) C.1 C.2.1 dX2_recordTrack_22 (by decide) ?_
  refine lv_istore_n (lv' := [(2, .int (0 : Int32)), (0, .ref (h 102)), (1, .int x1)]) C.1 C.2.1 dX2_recordTrack_23 rfl hl (by decide) rfl (fun ls hl => ?_)
  obtain ⟨n, hh⟩ := hh
  exact tX2_recordTrack_b24 C hR n _ _ _ _ _ _ _ _ hh hw (lv_sub hl [1, 2, 0] rfl)
def wpX2_recordTrack (F : Nat → Nat → Int32) (L : Nat → Nat → Int64) (r : Nat → Nat → Nat) (x1 : Int32) (K : cS → Prop) : Prop := wpX2_recordTrack_b0 F L r x1 K
theorem ctX2_recordTrack (l : Launch) (D : va_G) (h : Nat → Nat) (cI cL cF cM : ClassId) (F : Nat → Nat → Int32) (L : Nat → Nat → Int64) (r : Nat → Nat → Nat) (x1 : Int32) {K : cS → Prop} (hh : wpX2_recordTrack F L r x1 K) : Cv l yX2_recordTrack wsX2_recordTrack rmX2_recordTrack [.ref (h 102), .int x1] D (cT cI cL cF cM) (cWu h cI cL cF cM) (F, L, r) K := by
  refine Cv_of (cc := cX2_recordTrack) (maxL := 3) (by decide) rfl (Nat.le_of_ble_eq_true rfl) ?_
  intro p e s m below meth c A Q C hw hR ls hl
  exact tX2_recordTrack_b0 C hR hh hw hl
theorem cdX2_recordTrack : yX2_recordTrack.cls = RX2 ∧ yX2_recordTrack.cls ≠ "java/lang/invoke/MethodHandle" ∧ yX2_recordTrack.cls ≠ "java/lang/invoke/VarHandle" ∧ (parseMethodDescriptor yX2_recordTrack.desc).map (fun d => d.parameters.length) = some 1 := by decide +kernel
abbrev rmX2_keepsTrack : Room := { frames := 3, cells := 0, slots := 0, locals := 72 }
def wpX2_keepsTrack_b78 (F : Nat → Nat → Int32) (L : Nat → Nat → Int64) (r : Nat → Nat → Nat) (K : Int32 → cS → Prop) : Prop :=
  K (1 : Int32) (F, L, r)
set_option maxHeartbeats 4000000 in
set_option maxRecDepth 100000 in
theorem tX2_keepsTrack_b78 {K : Int32 → cS → Prop} (C : CallFix p m c cX2_keepsTrack 5 s args wsX2_keepsTrack RX2) (hR : Rti .boolean p l e rmX2_keepsTrack s m args below meth c cX2_keepsTrack D A (cT cI cL cF cM) (cWu h cI cL cF cM) K Q) {F : Nat → Nat → Int32} {L : Nat → Nat → Int64} {r : Nat → Nat → Nat} (hh : wpX2_keepsTrack_b78 F L r K) {H : Heap} {locs : List Loc} {ls : Array Slot} (hw : Wd D A s (cT cI cL cF cM) (cW h cI cL cF cM F L r) H locs) (hl : lv_has ls 5 [(0, .ref (h 102))]) : W p l e rmX2_keepsTrack s m args below meth c H locs 0 0 Q (F0 m 78 ls []) := by
  unfold wpX2_keepsTrack_b78 at hh
  refine lv_iconst (v := (1 : Int32)) C.1 C.2.1 dX2_keepsTrack_78 (by decide) ?_
  exact hR _ _ _ (F, L, r) _ _ dX2_keepsTrack_79 rfl hh hw
def wpX2_keepsTrack_b23_body (B23 : (Nat → Nat → Int32) → (Nat → Nat → Int64) → (Nat → Nat → Nat) → Int32 → Int32 → Prop) (F : Nat → Nat → Int32) (L : Nat → Nat → Int64) (r : Nat → Nat → Nat) (x3 : Int32) (x4 : Int32) (K : Int32 → cS → Prop) : Prop :=
  ((x3 ≤ x4) →
    wpX2_keepsTrack_b78 F L r K) ∧
  (¬ (x3 ≤ x4) →
    (((500 : Int32) ≤ x4) →
      wpX2_keepsTrack_b78 F L r K) ∧
    (¬ ((500 : Int32) ≤ x4) →
      kd (r 102 4) = 4 ∧ wpX0_step 45 (r 102 4) 92 70 F L r (fun u53 =>
        vp_in x4 500 ∧ wpX2_stand u53.1 u53.2.1 u53.2.2 (fun r64 u64 =>
        (((u53.1 103 (ix x4)) = r64) →
        B23 u64.1 u64.2.1 u64.2.2 x3 (x4 + (1 : Int32))) ∧
      (¬ ((u53.1 103 (ix x4)) = r64) →
        K (0 : Int32) (u64.1, u64.2.1, u64.2.2))))))
set_option maxHeartbeats 4000000 in
set_option maxRecDepth 100000 in
theorem tX2_keepsTrack_b23_body {B23 : (Nat → Nat → Int32) → (Nat → Nat → Int64) → (Nat → Nat → Nat) → Int32 → Int32 → Prop} {K : Int32 → cS → Prop} (C : CallFix p m c cX2_keepsTrack 5 s args wsX2_keepsTrack RX2) (hR : Rti .boolean p l e rmX2_keepsTrack s m args below meth c cX2_keepsTrack D A (cT cI cL cF cM) (cWu h cI cL cF cM) K Q) (hB23 : ∀ (F : Nat → Nat → Int32) (L : Nat → Nat → Int64) (r : Nat → Nat → Nat) (x3 : Int32) (x4 : Int32) (H : Heap) (locs : List Loc) (ls : Array Slot), B23 F L r x3 x4 → Wd D A s (cT cI cL cF cM) (cW h cI cL cF cM F L r) H locs → lv_has ls 5 [(0, .ref (h 102)), (3, .int x3), (4, .int x4)] → W p l e rmX2_keepsTrack s m args below meth c H locs 0 0 Q (F0 m 23 ls [])) {F : Nat → Nat → Int32} {L : Nat → Nat → Int64} {r : Nat → Nat → Nat} {x3 : Int32} {x4 : Int32} (hh : wpX2_keepsTrack_b23_body B23 F L r x3 x4 K) {H : Heap} {locs : List Loc} {ls : Array Slot} (hw : Wd D A s (cT cI cL cF cM) (cW h cI cL cF cM F L r) H locs) (hl : lv_has ls 5 [(0, .ref (h 102)), (3, .int x3), (4, .int x4)]) : W p l e rmX2_keepsTrack s m args below meth c H locs 0 0 Q (F0 m 23 ls []) := by
  unfold wpX2_keepsTrack_b23_body at hh
  refine lv_iload C.1 C.2.1 dX2_keepsTrack_23 (lv_at hl 2 rfl) ?_
  refine lv_iload_n C.1 C.2.1 dX2_keepsTrack_25 rfl (lv_at hl 1 rfl) ?_
  refine lv_icmp_ge (tgt := 78) C.1 C.2.1 dX2_keepsTrack_26 (by decide) (fun c26 => ?_) (fun c26 => ?_)
  · replace hh := hh.1 c26
    exact tX2_keepsTrack_b78 C hR hh hw (lv_sub hl [0] rfl)
  · replace hh := hh.2 c26
    refine lv_iload C.1 C.2.1 dX2_keepsTrack_29 (lv_at hl 2 rfl) ?_
    refine lv_sipush (v := (500 : Int32)) C.1 C.2.1 dX2_keepsTrack_31 (by decide) ?_
    refine lv_icmp_ge (tgt := 78) C.1 C.2.1 dX2_keepsTrack_34 (by decide) (fun c34 => ?_) (fun c34 => ?_)
    · replace hh := hh.1 c34
      exact tX2_keepsTrack_b78 C hR hh hw (lv_sub hl [0] rfl)
    · replace hh := hh.2 c34
      refine lv_aload_n C.1 C.2.1 dX2_keepsTrack_37 rfl (lv_at hl 0 rfl) ?_
      refine c_get C hw (inC inW2) (kd_lt kp102 (by decide)) (ce2 kp102) rfl 10 (by decide) (wc w_543) (v := .ref (h 45)) rfl dX2_keepsTrack_38 ?_
      refine lv_aload_n C.1 C.2.1 dX2_keepsTrack_41 rfl (lv_at hl 0 rfl) ?_
      refine c_get C hw (inC inW2) (kd_lt kp102 (by decide)) (ce2 kp102) rfl 4 (by decide) (wc w_537) (v := .ref (h (r 102 4))) rfl dX2_keepsTrack_42 ?_
      refine lv_aload_n C.1 C.2.1 dX2_keepsTrack_45 rfl (lv_at hl 0 rfl) ?_
      refine c_get C hw (inC inW2) (kd_lt kp102 (by decide)) (ce2 kp102) rfl 8 (by decide) (wc w_541) (v := .ref (h 92)) rfl dX2_keepsTrack_46 ?_
      refine lv_aload_n C.1 C.2.1 dX2_keepsTrack_49 rfl (lv_at hl 0 rfl) ?_
      refine c_get C hw (inC inW2) (kd_lt kp102 (by decide)) (ce2 kp102) rfl 7 (by decide) (wc w_540) (v := .ref (h 70)) rfl dX2_keepsTrack_50 ?_
      obtain ⟨hk0, hh⟩ := hh
      refine c_Vv C hw (ctX0_step l D h cI cL cF cM 45 (r 102 4) 92 70 kp45 hk0 kp92 kp70 F L r hh) (cwV 3 C.2.2.2.2 (gd_V w_1263 w_1164 w_1165 w_122 w_1166) rfl rfl rfl cdX0_step ⟨Nat.le_of_ble_eq_true rfl, Nat.le_of_ble_eq_true rfl⟩) rfl (kd_lt kp45 (by decide)) (ce0 kp45) rfl hl.1 (Nat.le_of_ble_eq_true rfl) dX2_keepsTrack_53 ⟨Nat.zero_le _, Nat.zero_le _⟩ (fun u53 H locs hh hw => ?_) rfl
      refine lv_aload_n C.1 C.2.1 dX2_keepsTrack_56 rfl (lv_at hl 0 rfl) ?_
      refine c_get C hw (inC inW2) (kd_lt kp102 (by decide)) (ce2 kp102) rfl 11 (by decide) (wc w_544) (v := .ref (h 103)) rfl dX2_keepsTrack_57 ?_
      refine lv_iload C.1 C.2.1 dX2_keepsTrack_60 (lv_at hl 2 rfl) ?_
      obtain ⟨hi62, hh⟩ := hh
      refine c_ial C hw (kd_lt kp103 (by decide)) (ce13 kp103) hi62 dX2_keepsTrack_62 ?_
      refine lv_aload_n C.1 C.2.1 dX2_keepsTrack_63 rfl (lv_at hl 0 rfl) ?_
      refine c_Vi C hw (ctX2_stand l D h cI cL cF cM u53.1 u53.2.1 u53.2.2 hh) (cwV 0 C.2.2.2.2 (gd_V w_1281 w_1283 w_48 w_124 w_1284) rfl rfl rfl cdX2_stand ⟨Nat.le_of_ble_eq_true rfl, Nat.le_of_ble_eq_true rfl⟩) rfl (kd_lt kp102 (by decide)) (ce2 kp102) rfl hl.1 (Nat.le_of_ble_eq_true rfl) dX2_keepsTrack_64 ⟨Nat.zero_le _, Nat.zero_le _⟩ (fun r64 u64 H locs hh hw => ?_) rfl
      refine lv_icmp_eq (tgt := 72) C.1 C.2.1 dX2_keepsTrack_67 (by decide) (fun c67 => ?_) (fun c67 => ?_)
      · replace hh := hh.1 c67
        refine lv_iinc (v := x4 + (1 : Int32)) (lv' := [(4, .int (x4 + (1 : Int32))), (0, .ref (h 102)), (3, .int x3)]) C.1 C.2.1 dX2_keepsTrack_72 hl (k := 2) rfl rfl (by decide) rfl (fun ls hl => ?_)
        refine lv_goto (tgt := 23) C.1 C.2.1 dX2_keepsTrack_75 (by decide) ?_
        exact hB23 _ _ _ _ _ _ _ _ hh hw (lv_sub hl [1, 2, 0] rfl)
      · replace hh := hh.2 c67
        refine lv_iconst (v := (0 : Int32)) C.1 C.2.1 dX2_keepsTrack_70 (by decide) ?_
        exact hR _ _ _ (u64.1, u64.2.1, u64.2.2) _ _ dX2_keepsTrack_71 rfl hh hw
def wpX2_keepsTrack_b23 (n_ : Nat) (F : Nat → Nat → Int32) (L : Nat → Nat → Int64) (r : Nat → Nat → Nat) (x3 : Int32) (x4 : Int32) (K : Int32 → cS → Prop) : Prop := match n_ with
  | 0 => False
  | n + 1 => wpX2_keepsTrack_b23_body (fun F L r x3 x4 => wpX2_keepsTrack_b23 n F L r x3 x4 K) F L r x3 x4 K
theorem tX2_keepsTrack_b23 {K : Int32 → cS → Prop} (C : CallFix p m c cX2_keepsTrack 5 s args wsX2_keepsTrack RX2) (hR : Rti .boolean p l e rmX2_keepsTrack s m args below meth c cX2_keepsTrack D A (cT cI cL cF cM) (cWu h cI cL cF cM) K Q) (n : Nat) : ∀ (F : Nat → Nat → Int32) (L : Nat → Nat → Int64) (r : Nat → Nat → Nat) (x3 : Int32) (x4 : Int32) (H : Heap) (locs : List Loc) (ls : Array Slot), wpX2_keepsTrack_b23 n F L r x3 x4 K → Wd D A s (cT cI cL cF cM) (cW h cI cL cF cM F L r) H locs → lv_has ls 5 [(0, .ref (h 102)), (3, .int x3), (4, .int x4)] → W p l e rmX2_keepsTrack s m args below meth c H locs 0 0 Q (F0 m 23 ls []) := by
  induction n with
  | zero => intro F L r x3 x4 H locs ls hh; exact hh.elim
  | succ n ih => intro F L r x3 x4 H locs ls hh hw hl; exact tX2_keepsTrack_b23_body C hR ih hh hw hl
def wpX2_keepsTrack_b0 (F : Nat → Nat → Int32) (L : Nat → Nat → Int64) (r : Nat → Nat → Nat) (x1 : Int32) (x2 : Int32) (x3 : Int32) (K : Int32 → cS → Prop) : Prop :=
  wpX3_copyFrom 92 90 F L r (fun u8 =>
    wpX0_jamAll 45 u8.1 u8.2.1 u8.2.2 x1 x2 (fun u17 =>
    ∃ n, wpX2_keepsTrack_b23 n u17.1 u17.2.1 u17.2.2 x3 (0 : Int32) K))
set_option maxHeartbeats 4000000 in
set_option maxRecDepth 100000 in
theorem tX2_keepsTrack_b0 {K : Int32 → cS → Prop} (C : CallFix p m c cX2_keepsTrack 5 s args wsX2_keepsTrack RX2) (hR : Rti .boolean p l e rmX2_keepsTrack s m args below meth c cX2_keepsTrack D A (cT cI cL cF cM) (cWu h cI cL cF cM) K Q) {F : Nat → Nat → Int32} {L : Nat → Nat → Int64} {r : Nat → Nat → Nat} {x1 : Int32} {x2 : Int32} {x3 : Int32} (hh : wpX2_keepsTrack_b0 F L r x1 x2 x3 K) {H : Heap} {locs : List Loc} {ls : Array Slot} (hw : Wd D A s (cT cI cL cF cM) (cW h cI cL cF cM F L r) H locs) (hl : lv_has ls 5 [(0, .ref (h 102)), (1, .int x1), (2, .int x2), (3, .int x3)]) : W p l e rmX2_keepsTrack s m args below meth c H locs 0 0 Q (F0 m 0 ls []) := by
  unfold wpX2_keepsTrack_b0 at hh
  refine lv_aload_n C.1 C.2.1 dX2_keepsTrack_0 rfl (lv_at hl 0 rfl) ?_
  refine c_get C hw (inC inW2) (kd_lt kp102 (by decide)) (ce2 kp102) rfl 8 (by decide) (wc w_541) (v := .ref (h 92)) rfl dX2_keepsTrack_1 ?_
  refine lv_aload_n C.1 C.2.1 dX2_keepsTrack_4 rfl (lv_at hl 0 rfl) ?_
  refine c_get C hw (inC inW2) (kd_lt kp102 (by decide)) (ce2 kp102) rfl 5 (by decide) (wc w_538) (v := .ref (h 90)) rfl dX2_keepsTrack_5 ?_
  refine c_Vv C hw (ctX3_copyFrom l D h cI cL cF cM 92 90 kp92 kp90 F L r hh) (cwV 1 C.2.2.2.2 (gd_V w_1242 w_1243 w_1244 w_121 w_1245) rfl rfl rfl cdX3_copyFrom ⟨Nat.le_of_ble_eq_true rfl, Nat.le_of_ble_eq_true rfl⟩) rfl (kd_lt kp92 (by decide)) (ce3 kp92) rfl hl.1 (Nat.le_of_ble_eq_true rfl) dX2_keepsTrack_8 ⟨Nat.zero_le _, Nat.zero_le _⟩ (fun u8 H locs hh hw => ?_) rfl
  refine lv_aload_n C.1 C.2.1 dX2_keepsTrack_11 rfl (lv_at hl 0 rfl) ?_
  refine c_get C hw (inC inW2) (kd_lt kp102 (by decide)) (ce2 kp102) rfl 10 (by decide) (wc w_543) (v := .ref (h 45)) rfl dX2_keepsTrack_12 ?_
  refine lv_iload_n C.1 C.2.1 dX2_keepsTrack_15 rfl (lv_at hl 1 rfl) ?_
  refine lv_iload_n C.1 C.2.1 dX2_keepsTrack_16 rfl (lv_at hl 2 rfl) ?_
  refine c_Vv C hw (ctX0_jamAll l D h cI cL cF cM 45 kp45 u8.1 u8.2.1 u8.2.2 x1 x2 hh) (cwV 2 C.2.2.2.2 (gd_V w_1289 w_1255 w_1256 w_122 w_1257) rfl rfl rfl cdX0_jamAll ⟨Nat.le_of_ble_eq_true rfl, Nat.le_of_ble_eq_true rfl⟩) rfl (kd_lt kp45 (by decide)) (ce0 kp45) rfl hl.1 (Nat.le_of_ble_eq_true rfl) dX2_keepsTrack_17 ⟨Nat.zero_le _, Nat.zero_le _⟩ (fun u17 H locs hh hw => ?_) rfl
  refine lv_iconst (v := (0 : Int32)) C.1 C.2.1 dX2_keepsTrack_20 (by decide) ?_
  refine lv_istore (lv' := [(4, .int (0 : Int32)), (0, .ref (h 102)), (1, .int x1), (2, .int x2), (3, .int x3)]) C.1 C.2.1 dX2_keepsTrack_21 hl (by decide) rfl (fun ls hl => ?_)
  obtain ⟨n, hh⟩ := hh
  exact tX2_keepsTrack_b23 C hR n _ _ _ _ _ _ _ _ hh hw (lv_sub hl [1, 4, 0] rfl)
def wpX2_keepsTrack (F : Nat → Nat → Int32) (L : Nat → Nat → Int64) (r : Nat → Nat → Nat) (x1 : Int32) (x2 : Int32) (x3 : Int32) (K : Int32 → cS → Prop) : Prop := wpX2_keepsTrack_b0 F L r x1 x2 x3 K
theorem ctX2_keepsTrack (l : Launch) (D : va_G) (h : Nat → Nat) (cI cL cF cM : ClassId) (F : Nat → Nat → Int32) (L : Nat → Nat → Int64) (r : Nat → Nat → Nat) (x1 : Int32) (x2 : Int32) (x3 : Int32) {K : Int32 → cS → Prop} (hh : wpX2_keepsTrack F L r x1 x2 x3 K) : Ci l yX2_keepsTrack wsX2_keepsTrack rmX2_keepsTrack [.ref (h 102), .int x1, .int x2, .int x3] D (cT cI cL cF cM) (cWu h cI cL cF cM) (F, L, r) K := by
  refine Ci_of (cc := cX2_keepsTrack) (maxL := 5) (by decide) rfl (Nat.le_of_ble_eq_true rfl) ?_
  intro p e s m below meth c A Q C hw hR ls hl
  exact tX2_keepsTrack_b0 C hR hh hw hl
theorem cdX2_keepsTrack : yX2_keepsTrack.cls = RX2 ∧ yX2_keepsTrack.cls ≠ "java/lang/invoke/MethodHandle" ∧ yX2_keepsTrack.cls ≠ "java/lang/invoke/VarHandle" ∧ (parseMethodDescriptor yX2_keepsTrack.desc).map (fun d => d.parameters.length) = some 3 := by decide +kernel
abbrev rmX2_findSuspects : Room := { frames := 4, cells := 0, slots := 0, locals := 96 }
def wpX2_findSuspects_b83 (B28 : (Nat → Nat → Int32) → (Nat → Nat → Int64) → (Nat → Nat → Nat) → Int32 → Int32 → Prop) (F : Nat → Nat → Int32) (L : Nat → Nat → Int64) (r : Nat → Nat → Nat) (x1 : Int32) (x2 : Int32) (K : cS → Prop) : Prop :=
  B28 F L r x1 (x2 + (1 : Int32))
set_option maxHeartbeats 4000000 in
set_option maxRecDepth 100000 in
theorem tX2_findSuspects_b83 {B28 : (Nat → Nat → Int32) → (Nat → Nat → Int64) → (Nat → Nat → Nat) → Int32 → Int32 → Prop} {K : cS → Prop} (C : CallFix p m c cX2_findSuspects 4 s args wsX2_findSuspects RX2) (hR : Rtv p l e rmX2_findSuspects s m args below meth c cX2_findSuspects D A (cT cI cL cF cM) (cWu h cI cL cF cM) K Q) (hB28 : ∀ (F : Nat → Nat → Int32) (L : Nat → Nat → Int64) (r : Nat → Nat → Nat) (x1 : Int32) (x2 : Int32) (H : Heap) (locs : List Loc) (ls : Array Slot), B28 F L r x1 x2 → Wd D A s (cT cI cL cF cM) (cW h cI cL cF cM F L r) H locs → lv_has ls 4 [(0, .ref (h 102)), (1, .int x1), (2, .int x2)] → W p l e rmX2_findSuspects s m args below meth c H locs 0 0 Q (F0 m 28 ls [])) {F : Nat → Nat → Int32} {L : Nat → Nat → Int64} {r : Nat → Nat → Nat} {x1 : Int32} {x2 : Int32} (hh : wpX2_findSuspects_b83 B28 F L r x1 x2 K) {H : Heap} {locs : List Loc} {ls : Array Slot} (hw : Wd D A s (cT cI cL cF cM) (cW h cI cL cF cM F L r) H locs) (hl : lv_has ls 4 [(0, .ref (h 102)), (1, .int x1), (2, .int x2)]) : W p l e rmX2_findSuspects s m args below meth c H locs 0 0 Q (F0 m 83 ls []) := by
  unfold wpX2_findSuspects_b83 at hh
  refine lv_iinc (v := x2 + (1 : Int32)) (lv' := [(2, .int (x2 + (1 : Int32))), (0, .ref (h 102)), (1, .int x1)]) C.1 C.2.1 dX2_findSuspects_83 hl (k := 2) rfl rfl (by decide) rfl (fun ls hl => ?_)
  refine lv_goto (tgt := 28) C.1 C.2.1 dX2_findSuspects_86 (by decide) ?_
  exact hB28 _ _ _ _ _ _ _ _ hh hw (lv_sub hl [1, 2, 0] rfl)
def wpX2_findSuspects_b63 (B28 : (Nat → Nat → Int32) → (Nat → Nat → Int64) → (Nat → Nat → Nat) → Int32 → Int32 → Prop) (F : Nat → Nat → Int32) (L : Nat → Nat → Int64) (r : Nat → Nat → Nat) (x1 : Int32) (x2 : Int32) (x3 : Int32) (K : cS → Prop) : Prop :=
  wpX2_keepsTrack F L r x3 x3 x1 (fun r67 u67 =>
    ((r67 = 0) →
    wpX2_findSuspects_b83 B28 u67.1 u67.2.1 u67.2.2 x1 x2 K) ∧
  (¬ (r67 = 0) →
    wpX2_findSuspects_b83 B28 (pt u67.1 102 1 ((u67.1 102 1) ||| x3)) u67.2.1 u67.2.2 x1 x2 K))
set_option maxHeartbeats 4000000 in
set_option maxRecDepth 100000 in
theorem tX2_findSuspects_b63 {B28 : (Nat → Nat → Int32) → (Nat → Nat → Int64) → (Nat → Nat → Nat) → Int32 → Int32 → Prop} {K : cS → Prop} (C : CallFix p m c cX2_findSuspects 4 s args wsX2_findSuspects RX2) (hR : Rtv p l e rmX2_findSuspects s m args below meth c cX2_findSuspects D A (cT cI cL cF cM) (cWu h cI cL cF cM) K Q) (hB28 : ∀ (F : Nat → Nat → Int32) (L : Nat → Nat → Int64) (r : Nat → Nat → Nat) (x1 : Int32) (x2 : Int32) (H : Heap) (locs : List Loc) (ls : Array Slot), B28 F L r x1 x2 → Wd D A s (cT cI cL cF cM) (cW h cI cL cF cM F L r) H locs → lv_has ls 4 [(0, .ref (h 102)), (1, .int x1), (2, .int x2)] → W p l e rmX2_findSuspects s m args below meth c H locs 0 0 Q (F0 m 28 ls [])) {F : Nat → Nat → Int32} {L : Nat → Nat → Int64} {r : Nat → Nat → Nat} {x1 : Int32} {x2 : Int32} {x3 : Int32} (hh : wpX2_findSuspects_b63 B28 F L r x1 x2 x3 K) {H : Heap} {locs : List Loc} {ls : Array Slot} (hw : Wd D A s (cT cI cL cF cM) (cW h cI cL cF cM F L r) H locs) (hl : lv_has ls 4 [(0, .ref (h 102)), (1, .int x1), (2, .int x2), (3, .int x3)]) : W p l e rmX2_findSuspects s m args below meth c H locs 0 0 Q (F0 m 63 ls []) := by
  unfold wpX2_findSuspects_b63 at hh
  refine lv_aload_n C.1 C.2.1 dX2_findSuspects_63 rfl (lv_at hl 0 rfl) ?_
  refine lv_iload_n C.1 C.2.1 dX2_findSuspects_64 rfl (lv_at hl 3 rfl) ?_
  refine lv_iload_n C.1 C.2.1 dX2_findSuspects_65 rfl (lv_at hl 3 rfl) ?_
  refine lv_iload_n C.1 C.2.1 dX2_findSuspects_66 rfl (lv_at hl 1 rfl) ?_
  refine c_Vi C hw (ctX2_keepsTrack l D h cI cL cF cM F L r x3 x3 x1 hh) (cwV 3 C.2.2.2.2 (gd_V w_1285 w_1287 w_49 w_124 w_1288) rfl rfl rfl cdX2_keepsTrack ⟨Nat.le_of_ble_eq_true rfl, Nat.le_of_ble_eq_true rfl⟩) rfl (kd_lt kp102 (by decide)) (ce2 kp102) rfl hl.1 (Nat.le_of_ble_eq_true rfl) dX2_findSuspects_67 ⟨Nat.zero_le _, Nat.zero_le _⟩ (fun r67 u67 H locs hh hw => ?_) rfl
  refine lv_if_eq (tgt := 83) C.1 C.2.1 dX2_findSuspects_70 (by decide) (fun c70 => ?_) (fun c70 => ?_)
  · replace hh := hh.1 c70
    exact tX2_findSuspects_b83 C hR hB28 hh hw (lv_sub hl [0, 1, 2] rfl)
  · replace hh := hh.2 c70
    refine lv_aload_n C.1 C.2.1 dX2_findSuspects_73 rfl (lv_at hl 0 rfl) ?_
    refine lv_dup C.1 C.2.1 dX2_findSuspects_74 rfl ?_
    refine c_get C hw (inC inW2) (kd_lt kp102 (by decide)) (ce2 kp102) rfl 1 (by decide) (wc w_531) (v := .int (u67.1 102 1)) rfl dX2_findSuspects_75 ?_
    refine lv_iload_n C.1 C.2.1 dX2_findSuspects_78 rfl (lv_at hl 3 rfl) ?_
    refine lv_ior C.1 C.2.1 dX2_findSuspects_79 ?_
    refine c_puti C hw (inC inW2) tyX2 tyX2_ok nmX2 (kd_lt kp102 (by decide)) (ce2 kp102) rfl 1 (by decide) (wc w_531) rfl (ty := .int) (by decide +kernel) rfl rfl (Nat.le_of_ble_eq_true rfl) rfl dX2_findSuspects_80 (fun H locs hw => ?_)
    exact tX2_findSuspects_b83 C hR hB28 hh hw (lv_sub hl [0, 1, 2] rfl)
def wpX2_findSuspects_b28_body (B28 : (Nat → Nat → Int32) → (Nat → Nat → Int64) → (Nat → Nat → Nat) → Int32 → Int32 → Prop) (F : Nat → Nat → Int32) (L : Nat → Nat → Int64) (r : Nat → Nat → Nat) (x1 : Int32) (x2 : Int32) (K : cS → Prop) : Prop :=
  kd (r 102 4) = 4 ∧ (((F (r 102 4) 0) ≤ x2) →
    K (F, L, r)) ∧
  (¬ ((F (r 102 4) 0) ≤ x2) →
    wpX2_keepsTrack F L r (jshl (1 : Int32) x2) (0 : Int32) x1 (fun r47 u47 =>
      ((r47 = 0) →
      wpX2_findSuspects_b63 B28 u47.1 u47.2.1 u47.2.2 x1 x2 (jshl (1 : Int32) x2) K) ∧
    (¬ (r47 = 0) →
      wpX2_findSuspects_b63 B28 (pt u47.1 102 0 ((u47.1 102 0) ||| (jshl (1 : Int32) x2))) u47.2.1 u47.2.2 x1 x2 (jshl (1 : Int32) x2) K)))
set_option maxHeartbeats 4000000 in
set_option maxRecDepth 100000 in
theorem tX2_findSuspects_b28_body {B28 : (Nat → Nat → Int32) → (Nat → Nat → Int64) → (Nat → Nat → Nat) → Int32 → Int32 → Prop} {K : cS → Prop} (C : CallFix p m c cX2_findSuspects 4 s args wsX2_findSuspects RX2) (hR : Rtv p l e rmX2_findSuspects s m args below meth c cX2_findSuspects D A (cT cI cL cF cM) (cWu h cI cL cF cM) K Q) (hB28 : ∀ (F : Nat → Nat → Int32) (L : Nat → Nat → Int64) (r : Nat → Nat → Nat) (x1 : Int32) (x2 : Int32) (H : Heap) (locs : List Loc) (ls : Array Slot), B28 F L r x1 x2 → Wd D A s (cT cI cL cF cM) (cW h cI cL cF cM F L r) H locs → lv_has ls 4 [(0, .ref (h 102)), (1, .int x1), (2, .int x2)] → W p l e rmX2_findSuspects s m args below meth c H locs 0 0 Q (F0 m 28 ls [])) {F : Nat → Nat → Int32} {L : Nat → Nat → Int64} {r : Nat → Nat → Nat} {x1 : Int32} {x2 : Int32} (hh : wpX2_findSuspects_b28_body B28 F L r x1 x2 K) {H : Heap} {locs : List Loc} {ls : Array Slot} (hw : Wd D A s (cT cI cL cF cM) (cW h cI cL cF cM F L r) H locs) (hl : lv_has ls 4 [(0, .ref (h 102)), (1, .int x1), (2, .int x2)]) : W p l e rmX2_findSuspects s m args below meth c H locs 0 0 Q (F0 m 28 ls []) := by
  unfold wpX2_findSuspects_b28_body at hh
  refine lv_iload_n C.1 C.2.1 dX2_findSuspects_28 rfl (lv_at hl 2 rfl) ?_
  refine lv_aload_n C.1 C.2.1 dX2_findSuspects_29 rfl (lv_at hl 0 rfl) ?_
  refine c_get C hw (inC inW2) (kd_lt kp102 (by decide)) (ce2 kp102) rfl 4 (by decide) (wc w_537) (v := .ref (h (r 102 4))) rfl dX2_findSuspects_30 ?_
  obtain ⟨hk0, hh⟩ := hh
  refine c_get C hw (inC inW4) (kd_lt hk0 (by decide)) (ce4 hk0) rfl 0 (by decide) (wc w_280) (v := .int (F (r 102 4) 0)) rfl dX2_findSuspects_33 ?_
  refine lv_icmp_ge (tgt := 89) C.1 C.2.1 dX2_findSuspects_36 (by decide) (fun c36 => ?_) (fun c36 => ?_)
  · replace hh := hh.1 c36
    exact hR _ _ (F, L, r) _ _ dX2_findSuspects_89 hh hw
  · replace hh := hh.2 c36
    refine lv_iconst (v := (1 : Int32)) C.1 C.2.1 dX2_findSuspects_39 (by decide) ?_
    refine lv_iload_n C.1 C.2.1 dX2_findSuspects_40 rfl (lv_at hl 2 rfl) ?_
    refine g_ishl C dX2_findSuspects_41 ?_
    refine lv_istore_n (lv' := [(3, .int (jshl (1 : Int32) x2)), (0, .ref (h 102)), (1, .int x1), (2, .int x2)]) C.1 C.2.1 dX2_findSuspects_42 rfl hl (by decide) rfl (fun ls hl => ?_)
    refine lv_aload_n C.1 C.2.1 dX2_findSuspects_43 rfl (lv_at hl 1 rfl) ?_
    refine lv_iload_n C.1 C.2.1 dX2_findSuspects_44 rfl (lv_at hl 0 rfl) ?_
    refine lv_iconst (v := (0 : Int32)) C.1 C.2.1 dX2_findSuspects_45 (by decide) ?_
    refine lv_iload_n C.1 C.2.1 dX2_findSuspects_46 rfl (lv_at hl 2 rfl) ?_
    refine c_Vi C hw (ctX2_keepsTrack l D h cI cL cF cM F L r (jshl (1 : Int32) x2) (0 : Int32) x1 hh) (cwV 3 C.2.2.2.2 (gd_V w_1285 w_1287 w_49 w_124 w_1288) rfl rfl rfl cdX2_keepsTrack ⟨Nat.le_of_ble_eq_true rfl, Nat.le_of_ble_eq_true rfl⟩) rfl (kd_lt kp102 (by decide)) (ce2 kp102) rfl hl.1 (Nat.le_of_ble_eq_true rfl) dX2_findSuspects_47 ⟨Nat.zero_le _, Nat.zero_le _⟩ (fun r47 u47 H locs hh hw => ?_) rfl
    refine lv_if_eq (tgt := 63) C.1 C.2.1 dX2_findSuspects_50 (by decide) (fun c50 => ?_) (fun c50 => ?_)
    · replace hh := hh.1 c50
      exact tX2_findSuspects_b63 C hR hB28 hh hw (lv_sub hl [1, 2, 3, 0] rfl)
    · replace hh := hh.2 c50
      refine lv_aload_n C.1 C.2.1 dX2_findSuspects_53 rfl (lv_at hl 1 rfl) ?_
      refine lv_dup C.1 C.2.1 dX2_findSuspects_54 rfl ?_
      refine c_get C hw (inC inW2) (kd_lt kp102 (by decide)) (ce2 kp102) rfl 0 (by decide) (wc w_529) (v := .int (u47.1 102 0)) rfl dX2_findSuspects_55 ?_
      refine lv_iload_n C.1 C.2.1 dX2_findSuspects_58 rfl (lv_at hl 0 rfl) ?_
      refine lv_ior C.1 C.2.1 dX2_findSuspects_59 ?_
      refine c_puti C hw (inC inW2) tyX2 tyX2_ok nmX2 (kd_lt kp102 (by decide)) (ce2 kp102) rfl 0 (by decide) (wc w_529) rfl (ty := .int) (by decide +kernel) rfl rfl (Nat.le_of_ble_eq_true rfl) rfl dX2_findSuspects_60 (fun H locs hw => ?_)
      exact tX2_findSuspects_b63 C hR hB28 hh hw (lv_sub hl [1, 2, 3, 0] rfl)
def wpX2_findSuspects_b28 (n_ : Nat) (F : Nat → Nat → Int32) (L : Nat → Nat → Int64) (r : Nat → Nat → Nat) (x1 : Int32) (x2 : Int32) (K : cS → Prop) : Prop := match n_ with
  | 0 => False
  | n + 1 => wpX2_findSuspects_b28_body (fun F L r x1 x2 => wpX2_findSuspects_b28 n F L r x1 x2 K) F L r x1 x2 K
theorem tX2_findSuspects_b28 {K : cS → Prop} (C : CallFix p m c cX2_findSuspects 4 s args wsX2_findSuspects RX2) (hR : Rtv p l e rmX2_findSuspects s m args below meth c cX2_findSuspects D A (cT cI cL cF cM) (cWu h cI cL cF cM) K Q) (n : Nat) : ∀ (F : Nat → Nat → Int32) (L : Nat → Nat → Int64) (r : Nat → Nat → Nat) (x1 : Int32) (x2 : Int32) (H : Heap) (locs : List Loc) (ls : Array Slot), wpX2_findSuspects_b28 n F L r x1 x2 K → Wd D A s (cT cI cL cF cM) (cW h cI cL cF cM F L r) H locs → lv_has ls 4 [(0, .ref (h 102)), (1, .int x1), (2, .int x2)] → W p l e rmX2_findSuspects s m args below meth c H locs 0 0 Q (F0 m 28 ls []) := by
  induction n with
  | zero => intro F L r x1 x2 H locs ls hh; exact hh.elim
  | succ n ih => intro F L r x1 x2 H locs ls hh hw hl; exact tX2_findSuspects_b28_body C hR ih hh hw hl
def wpX2_findSuspects_b0 (F : Nat → Nat → Int32) (L : Nat → Nat → Int64) (r : Nat → Nat → Nat) (x1 : Int32) (K : cS → Prop) : Prop :=
  wpX2_recordTrack (pt (pt F 102 0 (0 : Int32)) 102 1 (0 : Int32)) L r x1 (fun u12 =>
    wpX2_keepsTrack u12.1 u12.2.1 u12.2.2 (0 : Int32) (0 : Int32) x1 (fun r19 u19 =>
    ((r19 = 0) →
    ∃ n, wpX2_findSuspects_b28 n u19.1 u19.2.1 u19.2.2 x1 (0 : Int32) K) ∧
  (¬ (r19 = 0) →
    K (u19.1, u19.2.1, u19.2.2))))
set_option maxHeartbeats 4000000 in
set_option maxRecDepth 100000 in
theorem tX2_findSuspects_b0 {K : cS → Prop} (C : CallFix p m c cX2_findSuspects 4 s args wsX2_findSuspects RX2) (hR : Rtv p l e rmX2_findSuspects s m args below meth c cX2_findSuspects D A (cT cI cL cF cM) (cWu h cI cL cF cM) K Q) {F : Nat → Nat → Int32} {L : Nat → Nat → Int64} {r : Nat → Nat → Nat} {x1 : Int32} (hh : wpX2_findSuspects_b0 F L r x1 K) {H : Heap} {locs : List Loc} {ls : Array Slot} (hw : Wd D A s (cT cI cL cF cM) (cW h cI cL cF cM F L r) H locs) (hl : lv_has ls 4 [(0, .ref (h 102)), (1, .int x1)]) : W p l e rmX2_findSuspects s m args below meth c H locs 0 0 Q (F0 m 0 ls []) := by
  unfold wpX2_findSuspects_b0 at hh
  refine lv_aload_n C.1 C.2.1 dX2_findSuspects_0 rfl (lv_at hl 0 rfl) ?_
  refine lv_iconst (v := (0 : Int32)) C.1 C.2.1 dX2_findSuspects_1 (by decide) ?_
  refine c_puti C hw (inC inW2) tyX2 tyX2_ok nmX2 (kd_lt kp102 (by decide)) (ce2 kp102) rfl 0 (by decide) (wc w_529) rfl (ty := .int) (by decide +kernel) rfl rfl (Nat.le_of_ble_eq_true rfl) rfl dX2_findSuspects_2 (fun H locs hw => ?_)
  refine lv_aload_n C.1 C.2.1 dX2_findSuspects_5 rfl (lv_at hl 0 rfl) ?_
  refine lv_iconst (v := (0 : Int32)) C.1 C.2.1 dX2_findSuspects_6 (by decide) ?_
  refine c_puti C hw (inC inW2) tyX2 tyX2_ok nmX2 (kd_lt kp102 (by decide)) (ce2 kp102) rfl 1 (by decide) (wc w_531) rfl (ty := .int) (by decide +kernel) rfl rfl (Nat.le_of_ble_eq_true rfl) rfl dX2_findSuspects_7 (fun H locs hw => ?_)
  refine lv_aload_n C.1 C.2.1 dX2_findSuspects_10 rfl (lv_at hl 0 rfl) ?_
  refine lv_iload_n C.1 C.2.1 dX2_findSuspects_11 rfl (lv_at hl 1 rfl) ?_
  refine c_Vv C hw (ctX2_recordTrack l D h cI cL cF cM (pt (pt F 102 0 (0 : Int32)) 102 1 (0 : Int32)) L r x1 hh) (cwV 1 C.2.2.2.2 (gd_V w_1277 w_1279 w_47 w_124 w_1280) rfl rfl rfl cdX2_recordTrack ⟨Nat.le_of_ble_eq_true rfl, Nat.le_of_ble_eq_true rfl⟩) rfl (kd_lt kp102 (by decide)) (ce2 kp102) rfl hl.1 (Nat.le_of_ble_eq_true rfl) dX2_findSuspects_12 ⟨Nat.zero_le _, Nat.zero_le _⟩ (fun u12 H locs hh hw => ?_) rfl
  refine lv_aload_n C.1 C.2.1 dX2_findSuspects_15 rfl (lv_at hl 0 rfl) ?_
  refine lv_iconst (v := (0 : Int32)) C.1 C.2.1 dX2_findSuspects_16 (by decide) ?_
  refine lv_iconst (v := (0 : Int32)) C.1 C.2.1 dX2_findSuspects_17 (by decide) ?_
  refine lv_iload_n C.1 C.2.1 dX2_findSuspects_18 rfl (lv_at hl 1 rfl) ?_
  refine c_Vi C hw (ctX2_keepsTrack l D h cI cL cF cM u12.1 u12.2.1 u12.2.2 (0 : Int32) (0 : Int32) x1 hh) (cwV 3 C.2.2.2.2 (gd_V w_1285 w_1287 w_49 w_124 w_1288) rfl rfl rfl cdX2_keepsTrack ⟨Nat.le_of_ble_eq_true rfl, Nat.le_of_ble_eq_true rfl⟩) rfl (kd_lt kp102 (by decide)) (ce2 kp102) rfl hl.1 (Nat.le_of_ble_eq_true rfl) dX2_findSuspects_19 ⟨Nat.zero_le _, Nat.zero_le _⟩ (fun r19 u19 H locs hh hw => ?_) rfl
  refine lv_if_eq (tgt := 26) C.1 C.2.1 dX2_findSuspects_22 (by decide) (fun c22 => ?_) (fun c22 => ?_)
  · replace hh := hh.1 c22
    refine lv_iconst (v := (0 : Int32)) C.1 C.2.1 dX2_findSuspects_26 (by decide) ?_
    refine lv_istore_n (lv' := [(2, .int (0 : Int32)), (0, .ref (h 102)), (1, .int x1)]) C.1 C.2.1 dX2_findSuspects_27 rfl hl (by decide) rfl (fun ls hl => ?_)
    obtain ⟨n, hh⟩ := hh
    exact tX2_findSuspects_b28 C hR n _ _ _ _ _ _ _ _ hh hw (lv_sub hl [1, 2, 0] rfl)
  · replace hh := hh.2 c22
    exact hR _ _ (u19.1, u19.2.1, u19.2.2) _ _ dX2_findSuspects_25 hh hw
def wpX2_findSuspects (F : Nat → Nat → Int32) (L : Nat → Nat → Int64) (r : Nat → Nat → Nat) (x1 : Int32) (K : cS → Prop) : Prop := wpX2_findSuspects_b0 F L r x1 K
theorem ctX2_findSuspects (l : Launch) (D : va_G) (h : Nat → Nat) (cI cL cF cM : ClassId) (F : Nat → Nat → Int32) (L : Nat → Nat → Int64) (r : Nat → Nat → Nat) (x1 : Int32) {K : cS → Prop} (hh : wpX2_findSuspects F L r x1 K) : Cv l yX2_findSuspects wsX2_findSuspects rmX2_findSuspects [.ref (h 102), .int x1] D (cT cI cL cF cM) (cWu h cI cL cF cM) (F, L, r) K := by
  refine Cv_of (cc := cX2_findSuspects) (maxL := 4) (by decide) rfl (Nat.le_of_ble_eq_true rfl) ?_
  intro p e s m below meth c A Q C hw hR ls hl
  exact tX2_findSuspects_b0 C hR hh hw hl
theorem cdX2_findSuspects : yX2_findSuspects.cls = RX2 ∧ yX2_findSuspects.cls ≠ "java/lang/invoke/MethodHandle" ∧ yX2_findSuspects.cls ≠ "java/lang/invoke/VarHandle" ∧ (parseMethodDescriptor yX2_findSuspects.desc).map (fun d => d.parameters.length) = some 1 := by decide +kernel
abbrev rmX10_suspects : Room := { frames := 5, cells := 0, slots := 0, locals := 119 }
def wpX10_suspects_b16 (F : Nat → Nat → Int32) (L : Nat → Nat → Int64) (r : Nat → Nat → Nat) (K : Int32 → cS → Prop) : Prop :=
  K (-1 : Int32) (F, L, r)
set_option maxHeartbeats 4000000 in
set_option maxRecDepth 100000 in
theorem tX10_suspects_b16 {K : Int32 → cS → Prop} (C : CallFix p m c cX10_suspects 3 s args wsX10_suspects RX10) (hR : Rti .int p l e rmX10_suspects s m args below meth c cX10_suspects D A (cT cI cL cF cM) (cWu h cI cL cF cM) K Q) {F : Nat → Nat → Int32} {L : Nat → Nat → Int64} {r : Nat → Nat → Nat} (hh : wpX10_suspects_b16 F L r K) {H : Heap} {locs : List Loc} {ls : Array Slot} (hw : Wd D A s (cT cI cL cF cM) (cW h cI cL cF cM F L r) H locs) (hl : lv_has ls 3 [(0, .ref (h 0))]) : W p l e rmX10_suspects s m args below meth c H locs 0 0 Q (F0 m 16 ls []) := by
  unfold wpX10_suspects_b16 at hh
  refine lv_iconst (v := (-1 : Int32)) C.1 C.2.1 dX10_suspects_16 (by decide) ?_
  exact hR _ _ _ (F, L, r) _ _ dX10_suspects_17 rfl hh hw
def wpX10_suspects_b70 (F : Nat → Nat → Int32) (L : Nat → Nat → Int64) (r : Nat → Nat → Nat) (k0 : Int32) (K : Int32 → cS → Prop) : Prop :=
  K k0 (F, L, r)
set_option maxHeartbeats 4000000 in
set_option maxRecDepth 100000 in
theorem tX10_suspects_b70 {K : Int32 → cS → Prop} (C : CallFix p m c cX10_suspects 3 s args wsX10_suspects RX10) (hR : Rti .int p l e rmX10_suspects s m args below meth c cX10_suspects D A (cT cI cL cF cM) (cWu h cI cL cF cM) K Q) {F : Nat → Nat → Int32} {L : Nat → Nat → Int64} {r : Nat → Nat → Nat} {k0 : Int32} (hh : wpX10_suspects_b70 F L r k0 K) {H : Heap} {locs : List Loc} {ls : Array Slot} (hw : Wd D A s (cT cI cL cF cM) (cW h cI cL cF cM F L r) H locs) (hl : lv_has ls 3 [(0, .ref (h 0))]) : W p l e rmX10_suspects s m args below meth c H locs 0 0 Q (F0 m 70 ls [.int k0]) := by
  unfold wpX10_suspects_b70 at hh
  exact hR _ _ _ (F, L, r) _ _ dX10_suspects_70 rfl hh hw
def wpX10_suspects_b0 (F : Nat → Nat → Int32) (L : Nat → Nat → Int64) (r : Nat → Nat → Nat) (x1 : Int32) (x2 : Int32) (K : Int32 → cS → Prop) : Prop :=
  wpX2_isLength x1 (fun r1 u1 =>
    ((r1 = 0) →
    wpX10_suspects_b16 F L r K) ∧
  (¬ (r1 = 0) →
    ((x2 < 0) →
      wpX10_suspects_b16 F L r K) ∧
    (¬ (x2 < 0) →
      ((x2 ≤ (1 : Int32)) →
        kd (r 0 4) = 4 ∧ wpX2_begin (r 0 4) 74 46 43 F L r (fun u38 =>
          wpX2_findSuspects u38.1 u38.2.1 u38.2.2 x1 (fun u46 =>
          (¬ (x2 = 0) →
          wpX10_suspects_b70 u46.1 u46.2.1 u46.2.2 (u46.1 102 1) K) ∧
        ((x2 = 0) →
          wpX10_suspects_b70 u46.1 u46.2.1 u46.2.2 (u46.1 102 0) K)))) ∧
      (¬ (x2 ≤ (1 : Int32)) →
        wpX10_suspects_b16 F L r K))))
set_option maxHeartbeats 4000000 in
set_option maxRecDepth 100000 in
theorem tX10_suspects_b0 {K : Int32 → cS → Prop} (C : CallFix p m c cX10_suspects 3 s args wsX10_suspects RX10) (hR : Rti .int p l e rmX10_suspects s m args below meth c cX10_suspects D A (cT cI cL cF cM) (cWu h cI cL cF cM) K Q) {F : Nat → Nat → Int32} {L : Nat → Nat → Int64} {r : Nat → Nat → Nat} {x1 : Int32} {x2 : Int32} (hh : wpX10_suspects_b0 F L r x1 x2 K) {H : Heap} {locs : List Loc} {ls : Array Slot} (hw : Wd D A s (cT cI cL cF cM) (cW h cI cL cF cM F L r) H locs) (hl : lv_has ls 3 [(0, .ref (h 0)), (1, .int x1), (2, .int x2)]) : W p l e rmX10_suspects s m args below meth c H locs 0 0 Q (F0 m 0 ls []) := by
  unfold wpX10_suspects_b0 at hh
  refine lv_iload_n C.1 C.2.1 dX10_suspects_0 rfl (lv_at hl 1 rfl) ?_
  refine wd_Si C hw (ctX2_isLength l D x1 hh) (va_cwS 1 C.2.2.2.2 (gd_S w_1235 w_1236 (ini_cls rfl w_124) w_1237) rfl rfl rfl cdX2_isLength ⟨Nat.le_of_ble_eq_true rfl, Nat.le_of_ble_eq_true rfl⟩) rfl hl.1 (Nat.le_of_ble_eq_true rfl) dX10_suspects_1 ⟨Nat.zero_le _, Nat.zero_le _⟩ (fun r1 H locs hh hw => ?_) rfl
  refine lv_if_eq (tgt := 16) C.1 C.2.1 dX10_suspects_4 (by decide) (fun c4 => ?_) (fun c4 => ?_)
  · replace hh := hh.1 c4
    exact tX10_suspects_b16 C hR hh hw (lv_sub hl [0] rfl)
  · replace hh := hh.2 c4
    refine lv_iload_n C.1 C.2.1 dX10_suspects_7 rfl (lv_at hl 2 rfl) ?_
    refine lv_if_lt (tgt := 16) C.1 C.2.1 dX10_suspects_8 (by decide) (fun c8 => ?_) (fun c8 => ?_)
    · replace hh := hh.1 c8
      exact tX10_suspects_b16 C hR hh hw (lv_sub hl [0] rfl)
    · replace hh := hh.2 c8
      refine lv_iload_n C.1 C.2.1 dX10_suspects_11 rfl (lv_at hl 2 rfl) ?_
      refine lv_iconst (v := (1 : Int32)) C.1 C.2.1 dX10_suspects_12 (by decide) ?_
      refine lv_icmp_le (tgt := 18) C.1 C.2.1 dX10_suspects_13 (by decide) (fun c13 => ?_) (fun c13 => ?_)
      · replace hh := hh.1 c13
        refine lv_aload_n C.1 C.2.1 dX10_suspects_18 rfl (lv_at hl 0 rfl) ?_
        refine c_get C hw (inC inW10) (kd_lt kp0 (by decide)) (ce10 kp0) rfl 14 (by decide) (wc w_584) (v := .ref (h 102)) rfl dX10_suspects_19 ?_
        refine lv_aload_n C.1 C.2.1 dX10_suspects_22 rfl (lv_at hl 0 rfl) ?_
        refine c_get C hw (inC inW10) (kd_lt kp0 (by decide)) (ce10 kp0) rfl 4 (by decide) (wc w_574) (v := .ref (h (r 0 4))) rfl dX10_suspects_23 ?_
        refine lv_aload_n C.1 C.2.1 dX10_suspects_26 rfl (lv_at hl 0 rfl) ?_
        refine c_get C hw (inC inW10) (kd_lt kp0 (by decide)) (ce10 kp0) rfl 6 (by decide) (wc w_576) (v := .ref (h 74)) rfl dX10_suspects_27 ?_
        refine lv_aload_n C.1 C.2.1 dX10_suspects_30 rfl (lv_at hl 0 rfl) ?_
        refine c_get C hw (inC inW10) (kd_lt kp0 (by decide)) (ce10 kp0) rfl 5 (by decide) (wc w_575) (v := .ref (h 46)) rfl dX10_suspects_31 ?_
        refine lv_aload_n C.1 C.2.1 dX10_suspects_34 rfl (lv_at hl 0 rfl) ?_
        refine c_get C hw (inC inW10) (kd_lt kp0 (by decide)) (ce10 kp0) rfl 7 (by decide) (wc w_577) (v := .ref (h 43)) rfl dX10_suspects_35 ?_
        obtain ⟨hk0, hh⟩ := hh
        refine c_Vv C hw (ctX2_begin l D h cI cL cF cM (r 0 4) 74 46 43 hk0 kp74 kp46 kp43 F L r hh) (cwV 4 C.2.2.2.2 (gd_V w_1238 w_1239 w_1240 w_124 w_1241) rfl rfl rfl cdX2_begin ⟨Nat.le_of_ble_eq_true rfl, Nat.le_of_ble_eq_true rfl⟩) rfl (kd_lt kp102 (by decide)) (ce2 kp102) rfl hl.1 (Nat.le_of_ble_eq_true rfl) dX10_suspects_38 ⟨Nat.zero_le _, Nat.zero_le _⟩ (fun u38 H locs hh hw => ?_) rfl
        refine lv_aload_n C.1 C.2.1 dX10_suspects_41 rfl (lv_at hl 0 rfl) ?_
        refine c_get C hw (inC inW10) (kd_lt kp0 (by decide)) (ce10 kp0) rfl 14 (by decide) (wc w_584) (v := .ref (h 102)) rfl dX10_suspects_42 ?_
        refine lv_iload_n C.1 C.2.1 dX10_suspects_45 rfl (lv_at hl 1 rfl) ?_
        refine c_Vv C hw (ctX2_findSuspects l D h cI cL cF cM u38.1 u38.2.1 u38.2.2 x1 hh) (cwV 1 C.2.2.2.2 (gd_V w_1273 w_1274 w_1275 w_124 w_1276) rfl rfl rfl cdX2_findSuspects ⟨Nat.le_of_ble_eq_true rfl, Nat.le_of_ble_eq_true rfl⟩) rfl (kd_lt kp102 (by decide)) (ce2 kp102) rfl hl.1 (Nat.le_of_ble_eq_true rfl) dX10_suspects_46 ⟨Nat.zero_le _, Nat.zero_le _⟩ (fun u46 H locs hh hw => ?_) rfl
        refine lv_iload_n C.1 C.2.1 dX10_suspects_49 rfl (lv_at hl 2 rfl) ?_
        refine lv_if_ne (tgt := 63) C.1 C.2.1 dX10_suspects_50 (by decide) (fun c50 => ?_) (fun c50 => ?_)
        · replace hh := hh.1 c50
          refine lv_aload_n C.1 C.2.1 dX10_suspects_63 rfl (lv_at hl 0 rfl) ?_
          refine c_get C hw (inC inW10) (kd_lt kp0 (by decide)) (ce10 kp0) rfl 14 (by decide) (wc w_584) (v := .ref (h 102)) rfl dX10_suspects_64 ?_
          refine c_get C hw (inC inW2) (kd_lt kp102 (by decide)) (ce2 kp102) rfl 1 (by decide) (wc w_532) (v := .int (u46.1 102 1)) rfl dX10_suspects_67 ?_
          exact tX10_suspects_b70 C hR hh hw (lv_sub hl [0] rfl)
        · replace hh := hh.2 c50
          refine lv_aload_n C.1 C.2.1 dX10_suspects_53 rfl (lv_at hl 0 rfl) ?_
          refine c_get C hw (inC inW10) (kd_lt kp0 (by decide)) (ce10 kp0) rfl 14 (by decide) (wc w_584) (v := .ref (h 102)) rfl dX10_suspects_54 ?_
          refine c_get C hw (inC inW2) (kd_lt kp102 (by decide)) (ce2 kp102) rfl 0 (by decide) (wc w_530) (v := .int (u46.1 102 0)) rfl dX10_suspects_57 ?_
          refine lv_goto (tgt := 70) C.1 C.2.1 dX10_suspects_60 (by decide) ?_
          exact tX10_suspects_b70 C hR hh hw (lv_sub hl [0] rfl)
      · replace hh := hh.2 c13
        exact tX10_suspects_b16 C hR hh hw (lv_sub hl [0] rfl)
def wpX10_suspects (F : Nat → Nat → Int32) (L : Nat → Nat → Int64) (r : Nat → Nat → Nat) (x1 : Int32) (x2 : Int32) (K : Int32 → cS → Prop) : Prop := wpX10_suspects_b0 F L r x1 x2 K
theorem ctX10_suspects (l : Launch) (D : va_G) (h : Nat → Nat) (cI cL cF cM : ClassId) (F : Nat → Nat → Int32) (L : Nat → Nat → Int64) (r : Nat → Nat → Nat) (x1 : Int32) (x2 : Int32) {K : Int32 → cS → Prop} (hh : wpX10_suspects F L r x1 x2 K) : Ci l yX10_suspects wsX10_suspects rmX10_suspects [.ref (h 0), .int x1, .int x2] D (cT cI cL cF cM) (cWu h cI cL cF cM) (F, L, r) K := by
  refine Ci_of (cc := cX10_suspects) (maxL := 3) (by decide) rfl (Nat.le_of_ble_eq_true rfl) ?_
  intro p e s m below meth c A Q C hw hR ls hl
  exact tX10_suspects_b0 C hR hh hw hl
theorem cdX10_suspects : yX10_suspects.cls = RX10 ∧ yX10_suspects.cls ≠ "java/lang/invoke/MethodHandle" ∧ yX10_suspects.cls ≠ "java/lang/invoke/VarHandle" ∧ (parseMethodDescriptor yX10_suspects.desc).map (fun d => d.parameters.length) = some 2 := by decide +kernel
abbrev rmJ6_bitCount_0f7a4 : Room := { frames := 0, cells := 0, slots := 0, locals := 0 }
def wpJ6_bitCount_0f7a4_b0 (x0 : Int32) (K : Int32 → Unit → Prop) : Prop :=
  ∀ y9 : Int32, y9 = x0 - ((jushr x0 (1 : Int32)) &&& (1431655765 : Int32)) → ∀ y23 : Int32, y23 = (y9 &&& (858993459 : Int32)) + ((jushr y9 (2 : Int32)) &&& (858993459 : Int32)) → ∀ y33 : Int32, y33 = (y23 + (jushr y23 (4 : Int32))) &&& (252645135 : Int32) → ∀ y47 : Int32, y47 = (y33 + (jushr y33 (8 : Int32))) + (jushr (y33 + (jushr y33 (8 : Int32))) (16 : Int32)) → K (y47 &&& (63 : Int32)) ()
set_option maxHeartbeats 4000000 in
set_option maxRecDepth 100000 in
theorem tJ6_bitCount_0f7a4_b0 {K : Int32 → Unit → Prop} (C : CallFix p m c cJ6_bitCount_0f7a4 1 s args wsJ6_bitCount_0f7a4 RJ6) (hR : Rti .int p l e rmJ6_bitCount_0f7a4 s m args below meth c cJ6_bitCount_0f7a4 D A [] (fun _ : Unit => []) K Q) {x0 : Int32} (hh : wpJ6_bitCount_0f7a4_b0 x0 K) {H : Heap} {locs : List Loc} {ls : Array Slot} (hw : Wd D A s [] [] H locs) (hl : lv_has ls 1 [(0, .int x0)]) : W p l e rmJ6_bitCount_0f7a4 s m args below meth c H locs 0 0 Q (F0 m 0 ls []) := by
  unfold wpJ6_bitCount_0f7a4_b0 at hh
  refine lv_iload_n C.1 C.2.1 dJ6_bitCount_0f7a4_0 rfl (lv_at hl 0 rfl) ?_
  refine lv_iload_n C.1 C.2.1 dJ6_bitCount_0f7a4_1 rfl (lv_at hl 0 rfl) ?_
  refine lv_iconst (v := (1 : Int32)) C.1 C.2.1 dJ6_bitCount_0f7a4_2 (by decide) ?_
  refine g_iushr C dJ6_bitCount_0f7a4_3 ?_
  refine lv_ldcw C.1 C.2.1 C.2.2.2.1 (C.2.2.2.2 _ (wc w_1301)) dJ6_bitCount_0f7a4_4 ?_
  refine lv_iand C.1 C.2.1 dJ6_bitCount_0f7a4_7 ?_
  refine lv_isub C.1 C.2.1 dJ6_bitCount_0f7a4_8 ?_
  refine lv_topi (fun y9 ey9 => ?_)
  replace hh := hh y9 ey9
  refine lv_istore_n (lv' := [(0, .int y9)]) C.1 C.2.1 dJ6_bitCount_0f7a4_9 rfl hl (by decide) rfl (fun ls hl => ?_)
  refine lv_iload_n C.1 C.2.1 dJ6_bitCount_0f7a4_10 rfl (lv_at hl 0 rfl) ?_
  refine lv_ldcw C.1 C.2.1 C.2.2.2.1 (C.2.2.2.2 _ (wc w_1302)) dJ6_bitCount_0f7a4_11 ?_
  refine lv_iand C.1 C.2.1 dJ6_bitCount_0f7a4_14 ?_
  refine lv_iload_n C.1 C.2.1 dJ6_bitCount_0f7a4_15 rfl (lv_at hl 0 rfl) ?_
  refine lv_iconst (v := (2 : Int32)) C.1 C.2.1 dJ6_bitCount_0f7a4_16 (by decide) ?_
  refine g_iushr C dJ6_bitCount_0f7a4_17 ?_
  refine lv_ldcw C.1 C.2.1 C.2.2.2.1 (C.2.2.2.2 _ (wc w_1302)) dJ6_bitCount_0f7a4_18 ?_
  refine lv_iand C.1 C.2.1 dJ6_bitCount_0f7a4_21 ?_
  refine lv_iadd C.1 C.2.1 dJ6_bitCount_0f7a4_22 ?_
  refine lv_topi (fun y23 ey23 => ?_)
  replace hh := hh y23 ey23
  refine lv_istore_n (lv' := [(0, .int y23)]) C.1 C.2.1 dJ6_bitCount_0f7a4_23 rfl hl (by decide) rfl (fun ls hl => ?_)
  refine lv_iload_n C.1 C.2.1 dJ6_bitCount_0f7a4_24 rfl (lv_at hl 0 rfl) ?_
  refine lv_iload_n C.1 C.2.1 dJ6_bitCount_0f7a4_25 rfl (lv_at hl 0 rfl) ?_
  refine lv_iconst (v := (4 : Int32)) C.1 C.2.1 dJ6_bitCount_0f7a4_26 (by decide) ?_
  refine g_iushr C dJ6_bitCount_0f7a4_27 ?_
  refine lv_iadd C.1 C.2.1 dJ6_bitCount_0f7a4_28 ?_
  refine lv_ldcw C.1 C.2.1 C.2.2.2.1 (C.2.2.2.2 _ (wc w_1303)) dJ6_bitCount_0f7a4_29 ?_
  refine lv_iand C.1 C.2.1 dJ6_bitCount_0f7a4_32 ?_
  refine lv_topi (fun y33 ey33 => ?_)
  replace hh := hh y33 ey33
  refine lv_istore_n (lv' := [(0, .int y33)]) C.1 C.2.1 dJ6_bitCount_0f7a4_33 rfl hl (by decide) rfl (fun ls hl => ?_)
  refine lv_iload_n C.1 C.2.1 dJ6_bitCount_0f7a4_34 rfl (lv_at hl 0 rfl) ?_
  refine lv_iload_n C.1 C.2.1 dJ6_bitCount_0f7a4_35 rfl (lv_at hl 0 rfl) ?_
  refine lv_bipush (v := (8 : Int32)) C.1 C.2.1 dJ6_bitCount_0f7a4_36 (by decide) ?_
  refine g_iushr C dJ6_bitCount_0f7a4_38 ?_
  refine lv_iadd C.1 C.2.1 dJ6_bitCount_0f7a4_39 ?_
  refine lv_istore_n (lv' := [(0, .int (y33 + (jushr y33 (8 : Int32))))]) C.1 C.2.1 dJ6_bitCount_0f7a4_40 rfl hl (by decide) rfl (fun ls hl => ?_)
  refine lv_iload_n C.1 C.2.1 dJ6_bitCount_0f7a4_41 rfl (lv_at hl 0 rfl) ?_
  refine lv_iload_n C.1 C.2.1 dJ6_bitCount_0f7a4_42 rfl (lv_at hl 0 rfl) ?_
  refine lv_bipush (v := (16 : Int32)) C.1 C.2.1 dJ6_bitCount_0f7a4_43 (by decide) ?_
  refine g_iushr C dJ6_bitCount_0f7a4_45 ?_
  refine lv_iadd C.1 C.2.1 dJ6_bitCount_0f7a4_46 ?_
  refine lv_topi (fun y47 ey47 => ?_)
  replace hh := hh y47 ey47
  refine lv_istore_n (lv' := [(0, .int y47)]) C.1 C.2.1 dJ6_bitCount_0f7a4_47 rfl hl (by decide) rfl (fun ls hl => ?_)
  refine lv_iload_n C.1 C.2.1 dJ6_bitCount_0f7a4_48 rfl (lv_at hl 0 rfl) ?_
  refine lv_bipush (v := (63 : Int32)) C.1 C.2.1 dJ6_bitCount_0f7a4_49 (by decide) ?_
  refine lv_iand C.1 C.2.1 dJ6_bitCount_0f7a4_51 ?_
  exact hR _ _ _ () _ _ dJ6_bitCount_0f7a4_52 rfl hh hw
def wpJ6_bitCount_0f7a4 (x0 : Int32) (K : Int32 → Unit → Prop) : Prop := wpJ6_bitCount_0f7a4_b0  x0 K
theorem ctJ6_bitCount_0f7a4 (l : Launch) (D : va_G) (x0 : Int32) {K : Int32 → Unit → Prop} (hh : wpJ6_bitCount_0f7a4 x0 K) : Ci l yJ6_bitCount_0f7a4 wsJ6_bitCount_0f7a4 rmJ6_bitCount_0f7a4 [.int x0] D [] (fun _ : Unit => []) () K := by
  refine Ci_of (cc := cJ6_bitCount_0f7a4) (maxL := 1) (by decide) rfl (Nat.le_of_ble_eq_true rfl) ?_
  intro p e s m below meth c A Q C hw hR ls hl
  exact tJ6_bitCount_0f7a4_b0 C hR hh hw hl
theorem cdJ6_bitCount_0f7a4 : yJ6_bitCount_0f7a4.cls ≠ "java/lang/invoke/MethodHandle" ∧ yJ6_bitCount_0f7a4.cls ≠ "java/lang/invoke/VarHandle" ∧ (parseMethodDescriptor yJ6_bitCount_0f7a4.desc).map (fun d => d.parameters.length) = some 1 := by decide +kernel
abbrev rmX2_suspectCount : Room := { frames := 1, cells := 0, slots := 0, locals := 20 }
def wpX2_suspectCount_b0 (F : Nat → Nat → Int32) (L : Nat → Nat → Int64) (r : Nat → Nat → Nat) (K : Int32 → cS → Prop) : Prop :=
  wpJ6_bitCount_0f7a4 (F 102 0) (fun r4 u4 =>
    wpJ6_bitCount_0f7a4 (F 102 1) (fun r11 u11 =>
    K (r4 + r11) (F, L, r)))
set_option maxHeartbeats 4000000 in
set_option maxRecDepth 100000 in
theorem tX2_suspectCount_b0 {K : Int32 → cS → Prop} (C : CallFix p m c cX2_suspectCount 1 s args wsX2_suspectCount RX2) (hR : Rti .int p l e rmX2_suspectCount s m args below meth c cX2_suspectCount D A (cT cI cL cF cM) (cWu h cI cL cF cM) K Q) {F : Nat → Nat → Int32} {L : Nat → Nat → Int64} {r : Nat → Nat → Nat} (hh : wpX2_suspectCount_b0 F L r K) {H : Heap} {locs : List Loc} {ls : Array Slot} (hw : Wd D A s (cT cI cL cF cM) (cW h cI cL cF cM F L r) H locs) (hl : lv_has ls 1 [(0, .ref (h 102))]) : W p l e rmX2_suspectCount s m args below meth c H locs 0 0 Q (F0 m 0 ls []) := by
  unfold wpX2_suspectCount_b0 at hh
  refine lv_aload_n C.1 C.2.1 dX2_suspectCount_0 rfl (lv_at hl 0 rfl) ?_
  refine c_get C hw (inC inW2) (kd_lt kp102 (by decide)) (ce2 kp102) rfl 0 (by decide) (wc w_529) (v := .int (F 102 0)) rfl dX2_suspectCount_1 ?_
  refine wd_Si C hw (ctJ6_bitCount_0f7a4 l D (F 102 0) hh) (va_cwS 1 C.2.2.2.2 (gd_S w_1298 w_1299 (ini_cls rfl w_137) w_1300) rfl rfl rfl cdJ6_bitCount_0f7a4 ⟨Nat.le_of_ble_eq_true rfl, Nat.le_of_ble_eq_true rfl⟩) rfl hl.1 (Nat.le_of_ble_eq_true rfl) dX2_suspectCount_4 ⟨Nat.zero_le _, Nat.zero_le _⟩ (fun r4 H locs hh hw => ?_) rfl
  refine lv_aload_n C.1 C.2.1 dX2_suspectCount_7 rfl (lv_at hl 0 rfl) ?_
  refine c_get C hw (inC inW2) (kd_lt kp102 (by decide)) (ce2 kp102) rfl 1 (by decide) (wc w_531) (v := .int (F 102 1)) rfl dX2_suspectCount_8 ?_
  refine wd_Si C hw (ctJ6_bitCount_0f7a4 l D (F 102 1) hh) (va_cwS 1 C.2.2.2.2 (gd_S w_1298 w_1299 (ini_cls rfl w_137) w_1300) rfl rfl rfl cdJ6_bitCount_0f7a4 ⟨Nat.le_of_ble_eq_true rfl, Nat.le_of_ble_eq_true rfl⟩) rfl hl.1 (Nat.le_of_ble_eq_true rfl) dX2_suspectCount_11 ⟨Nat.zero_le _, Nat.zero_le _⟩ (fun r11 H locs hh hw => ?_) rfl
  refine lv_iadd C.1 C.2.1 dX2_suspectCount_14 ?_
  exact hR _ _ _ (F, L, r) _ _ dX2_suspectCount_15 rfl hh hw
def wpX2_suspectCount (F : Nat → Nat → Int32) (L : Nat → Nat → Int64) (r : Nat → Nat → Nat) (K : Int32 → cS → Prop) : Prop := wpX2_suspectCount_b0 F L r K
theorem ctX2_suspectCount (l : Launch) (D : va_G) (h : Nat → Nat) (cI cL cF cM : ClassId) (F : Nat → Nat → Int32) (L : Nat → Nat → Int64) (r : Nat → Nat → Nat) {K : Int32 → cS → Prop} (hh : wpX2_suspectCount F L r K) : Ci l yX2_suspectCount wsX2_suspectCount rmX2_suspectCount [.ref (h 102)] D (cT cI cL cF cM) (cWu h cI cL cF cM) (F, L, r) K := by
  refine Ci_of (cc := cX2_suspectCount) (maxL := 1) (by decide) rfl (Nat.le_of_ble_eq_true rfl) ?_
  intro p e s m below meth c A Q C hw hR ls hl
  exact tX2_suspectCount_b0 C hR hh hw hl
theorem cdX2_suspectCount : yX2_suspectCount.cls = RX2 ∧ yX2_suspectCount.cls ≠ "java/lang/invoke/MethodHandle" ∧ yX2_suspectCount.cls ≠ "java/lang/invoke/VarHandle" ∧ (parseMethodDescriptor yX2_suspectCount.desc).map (fun d => d.parameters.length) = some 0 := by decide +kernel
abbrev rmX10_trial : Room := { frames := 5, cells := 0, slots := 0, locals := 119 }
def wpX10_trial_b16 (F : Nat → Nat → Int32) (L : Nat → Nat → Int64) (r : Nat → Nat → Nat) (K : Int32 → cS → Prop) : Prop :=
  K (-1 : Int32) (F, L, r)
set_option maxHeartbeats 4000000 in
set_option maxRecDepth 100000 in
theorem tX10_trial_b16 {K : Int32 → cS → Prop} (C : CallFix p m c cX10_trial 3 s args wsX10_trial RX10) (hR : Rti .int p l e rmX10_trial s m args below meth c cX10_trial D A (cT cI cL cF cM) (cWu h cI cL cF cM) K Q) {F : Nat → Nat → Int32} {L : Nat → Nat → Int64} {r : Nat → Nat → Nat} (hh : wpX10_trial_b16 F L r K) {H : Heap} {locs : List Loc} {ls : Array Slot} (hw : Wd D A s (cT cI cL cF cM) (cW h cI cL cF cM F L r) H locs) (hl : lv_has ls 3 [(0, .ref (h 0))]) : W p l e rmX10_trial s m args below meth c H locs 0 0 Q (F0 m 16 ls []) := by
  unfold wpX10_trial_b16 at hh
  refine lv_iconst (v := (-1 : Int32)) C.1 C.2.1 dX10_trial_16 (by decide) ?_
  exact hR _ _ _ (F, L, r) _ _ dX10_trial_17 rfl hh hw
def wpX10_trial_b0 (F : Nat → Nat → Int32) (L : Nat → Nat → Int64) (r : Nat → Nat → Nat) (x1 : Int32) (x2 : Int32) (K : Int32 → cS → Prop) : Prop :=
  wpX2_isLength x1 (fun r1 u1 =>
    ((r1 = 0) →
    wpX10_trial_b16 F L r K) ∧
  (¬ (r1 = 0) →
    ((x2 < 0) →
      wpX10_trial_b16 F L r K) ∧
    (¬ (x2 < 0) →
      ((x2 ≤ (1 : Int32)) →
        kd (r 0 4) = 4 ∧ wpX2_begin (r 0 4) 74 46 43 F L r (fun u38 =>
          wpX2_findSuspects u38.1 u38.2.1 u38.2.2 x1 (fun u46 =>
          wpX2_suspectCount u46.1 u46.2.1 u46.2.2 (fun r53 u53 =>
          (((2 : Int32) ≤ r53) →
          False) ∧
        (¬ ((2 : Int32) ≤ r53) →
          K (-1 : Int32) (u53.1, u53.2.1, u53.2.2)))))) ∧
      (¬ (x2 ≤ (1 : Int32)) →
        wpX10_trial_b16 F L r K))))
set_option maxHeartbeats 4000000 in
set_option maxRecDepth 100000 in
theorem tX10_trial_b0 {K : Int32 → cS → Prop} (C : CallFix p m c cX10_trial 3 s args wsX10_trial RX10) (hR : Rti .int p l e rmX10_trial s m args below meth c cX10_trial D A (cT cI cL cF cM) (cWu h cI cL cF cM) K Q) {F : Nat → Nat → Int32} {L : Nat → Nat → Int64} {r : Nat → Nat → Nat} {x1 : Int32} {x2 : Int32} (hh : wpX10_trial_b0 F L r x1 x2 K) {H : Heap} {locs : List Loc} {ls : Array Slot} (hw : Wd D A s (cT cI cL cF cM) (cW h cI cL cF cM F L r) H locs) (hl : lv_has ls 3 [(0, .ref (h 0)), (1, .int x1), (2, .int x2)]) : W p l e rmX10_trial s m args below meth c H locs 0 0 Q (F0 m 0 ls []) := by
  unfold wpX10_trial_b0 at hh
  refine lv_iload_n C.1 C.2.1 dX10_trial_0 rfl (lv_at hl 1 rfl) ?_
  refine wd_Si C hw (ctX2_isLength l D x1 hh) (va_cwS 1 C.2.2.2.2 (gd_S w_1235 w_1236 (ini_cls rfl w_124) w_1237) rfl rfl rfl cdX2_isLength ⟨Nat.le_of_ble_eq_true rfl, Nat.le_of_ble_eq_true rfl⟩) rfl hl.1 (Nat.le_of_ble_eq_true rfl) dX10_trial_1 ⟨Nat.zero_le _, Nat.zero_le _⟩ (fun r1 H locs hh hw => ?_) rfl
  refine lv_if_eq (tgt := 16) C.1 C.2.1 dX10_trial_4 (by decide) (fun c4 => ?_) (fun c4 => ?_)
  · replace hh := hh.1 c4
    exact tX10_trial_b16 C hR hh hw (lv_sub hl [0] rfl)
  · replace hh := hh.2 c4
    refine lv_iload_n C.1 C.2.1 dX10_trial_7 rfl (lv_at hl 2 rfl) ?_
    refine lv_if_lt (tgt := 16) C.1 C.2.1 dX10_trial_8 (by decide) (fun c8 => ?_) (fun c8 => ?_)
    · replace hh := hh.1 c8
      exact tX10_trial_b16 C hR hh hw (lv_sub hl [0] rfl)
    · replace hh := hh.2 c8
      refine lv_iload_n C.1 C.2.1 dX10_trial_11 rfl (lv_at hl 2 rfl) ?_
      refine lv_iconst (v := (1 : Int32)) C.1 C.2.1 dX10_trial_12 (by decide) ?_
      refine lv_icmp_le (tgt := 18) C.1 C.2.1 dX10_trial_13 (by decide) (fun c13 => ?_) (fun c13 => ?_)
      · replace hh := hh.1 c13
        refine lv_aload_n C.1 C.2.1 dX10_trial_18 rfl (lv_at hl 0 rfl) ?_
        refine c_get C hw (inC inW10) (kd_lt kp0 (by decide)) (ce10 kp0) rfl 14 (by decide) (wc w_584) (v := .ref (h 102)) rfl dX10_trial_19 ?_
        refine lv_aload_n C.1 C.2.1 dX10_trial_22 rfl (lv_at hl 0 rfl) ?_
        refine c_get C hw (inC inW10) (kd_lt kp0 (by decide)) (ce10 kp0) rfl 4 (by decide) (wc w_574) (v := .ref (h (r 0 4))) rfl dX10_trial_23 ?_
        refine lv_aload_n C.1 C.2.1 dX10_trial_26 rfl (lv_at hl 0 rfl) ?_
        refine c_get C hw (inC inW10) (kd_lt kp0 (by decide)) (ce10 kp0) rfl 6 (by decide) (wc w_576) (v := .ref (h 74)) rfl dX10_trial_27 ?_
        refine lv_aload_n C.1 C.2.1 dX10_trial_30 rfl (lv_at hl 0 rfl) ?_
        refine c_get C hw (inC inW10) (kd_lt kp0 (by decide)) (ce10 kp0) rfl 5 (by decide) (wc w_575) (v := .ref (h 46)) rfl dX10_trial_31 ?_
        refine lv_aload_n C.1 C.2.1 dX10_trial_34 rfl (lv_at hl 0 rfl) ?_
        refine c_get C hw (inC inW10) (kd_lt kp0 (by decide)) (ce10 kp0) rfl 7 (by decide) (wc w_577) (v := .ref (h 43)) rfl dX10_trial_35 ?_
        obtain ⟨hk0, hh⟩ := hh
        refine c_Vv C hw (ctX2_begin l D h cI cL cF cM (r 0 4) 74 46 43 hk0 kp74 kp46 kp43 F L r hh) (cwV 4 C.2.2.2.2 (gd_V w_1238 w_1239 w_1240 w_124 w_1241) rfl rfl rfl cdX2_begin ⟨Nat.le_of_ble_eq_true rfl, Nat.le_of_ble_eq_true rfl⟩) rfl (kd_lt kp102 (by decide)) (ce2 kp102) rfl hl.1 (Nat.le_of_ble_eq_true rfl) dX10_trial_38 ⟨Nat.zero_le _, Nat.zero_le _⟩ (fun u38 H locs hh hw => ?_) rfl
        refine lv_aload_n C.1 C.2.1 dX10_trial_41 rfl (lv_at hl 0 rfl) ?_
        refine c_get C hw (inC inW10) (kd_lt kp0 (by decide)) (ce10 kp0) rfl 14 (by decide) (wc w_584) (v := .ref (h 102)) rfl dX10_trial_42 ?_
        refine lv_iload_n C.1 C.2.1 dX10_trial_45 rfl (lv_at hl 1 rfl) ?_
        refine c_Vv C hw (ctX2_findSuspects l D h cI cL cF cM u38.1 u38.2.1 u38.2.2 x1 hh) (cwV 1 C.2.2.2.2 (gd_V w_1273 w_1274 w_1275 w_124 w_1276) rfl rfl rfl cdX2_findSuspects ⟨Nat.le_of_ble_eq_true rfl, Nat.le_of_ble_eq_true rfl⟩) rfl (kd_lt kp102 (by decide)) (ce2 kp102) rfl hl.1 (Nat.le_of_ble_eq_true rfl) dX10_trial_46 ⟨Nat.zero_le _, Nat.zero_le _⟩ (fun u46 H locs hh hw => ?_) rfl
        refine lv_aload_n C.1 C.2.1 dX10_trial_49 rfl (lv_at hl 0 rfl) ?_
        refine c_get C hw (inC inW10) (kd_lt kp0 (by decide)) (ce10 kp0) rfl 14 (by decide) (wc w_584) (v := .ref (h 102)) rfl dX10_trial_50 ?_
        refine c_Vi C hw (ctX2_suspectCount l D h cI cL cF cM u46.1 u46.2.1 u46.2.2 hh) (cwV 0 C.2.2.2.2 (gd_V w_1294 w_1295 w_1296 w_124 w_1297) rfl rfl rfl cdX2_suspectCount ⟨Nat.le_of_ble_eq_true rfl, Nat.le_of_ble_eq_true rfl⟩) rfl (kd_lt kp102 (by decide)) (ce2 kp102) rfl hl.1 (Nat.le_of_ble_eq_true rfl) dX10_trial_53 ⟨Nat.zero_le _, Nat.zero_le _⟩ (fun r53 u53 H locs hh hw => ?_) rfl
        refine lv_iconst (v := (2 : Int32)) C.1 C.2.1 dX10_trial_56 (by decide) ?_
        refine lv_icmp_ge (tgt := 62) C.1 C.2.1 dX10_trial_57 (by decide) (fun c57 => ?_) (fun c57 => ?_)
        · replace hh := hh.1 c57
          refine lv_aload_n C.1 C.2.1 dX10_trial_62 rfl (lv_at hl 0 rfl) ?_
          refine c_get C hw (inC inW10) (kd_lt kp0 (by decide)) (ce10 kp0) rfl 14 (by decide) (wc w_584) (v := .ref (h 102)) rfl dX10_trial_63 ?_
          refine lv_iload_n C.1 C.2.1 dX10_trial_66 rfl (lv_at hl 1 rfl) ?_
          exact hh.elim
        · replace hh := hh.2 c57
          refine lv_iconst (v := (-1 : Int32)) C.1 C.2.1 dX10_trial_60 (by decide) ?_
          exact hR _ _ _ (u53.1, u53.2.1, u53.2.2) _ _ dX10_trial_61 rfl hh hw
      · replace hh := hh.2 c13
        exact tX10_trial_b16 C hR hh hw (lv_sub hl [0] rfl)
def wpX10_trial (F : Nat → Nat → Int32) (L : Nat → Nat → Int64) (r : Nat → Nat → Nat) (x1 : Int32) (x2 : Int32) (K : Int32 → cS → Prop) : Prop := wpX10_trial_b0 F L r x1 x2 K
theorem ctX10_trial (l : Launch) (D : va_G) (h : Nat → Nat) (cI cL cF cM : ClassId) (F : Nat → Nat → Int32) (L : Nat → Nat → Int64) (r : Nat → Nat → Nat) (x1 : Int32) (x2 : Int32) {K : Int32 → cS → Prop} (hh : wpX10_trial F L r x1 x2 K) : Ci l yX10_trial wsX10_trial rmX10_trial [.ref (h 0), .int x1, .int x2] D (cT cI cL cF cM) (cWu h cI cL cF cM) (F, L, r) K := by
  refine Ci_of (cc := cX10_trial) (maxL := 3) (by decide) rfl (Nat.le_of_ble_eq_true rfl) ?_
  intro p e s m below meth c A Q C hw hR ls hl
  exact tX10_trial_b0 C hR hh hw hl
theorem cdX10_trial : yX10_trial.cls = RX10 ∧ yX10_trial.cls ≠ "java/lang/invoke/MethodHandle" ∧ yX10_trial.cls ≠ "java/lang/invoke/VarHandle" ∧ (parseMethodDescriptor yX10_trial.desc).map (fun d => d.parameters.length) = some 2 := by decide +kernel
abbrev rmX10_keep : Room := { frames := 1, cells := 0, slots := 0, locals := 22 }
def wpX10_keep_b9 (F : Nat → Nat → Int32) (L : Nat → Nat → Int64) (r : Nat → Nat → Nat) (K : Int32 → cS → Prop) : Prop :=
  K (0 : Int32) (F, L, r)
set_option maxHeartbeats 4000000 in
set_option maxRecDepth 100000 in
theorem tX10_keep_b9 {K : Int32 → cS → Prop} (C : CallFix p m c cX10_keep 2 s args wsX10_keep RX10) (hR : Rti .boolean p l e rmX10_keep s m args below meth c cX10_keep D A (cT cI cL cF cM) (cWu h cI cL cF cM) K Q) {F : Nat → Nat → Int32} {L : Nat → Nat → Int64} {r : Nat → Nat → Nat} (hh : wpX10_keep_b9 F L r K) {H : Heap} {locs : List Loc} {ls : Array Slot} (hw : Wd D A s (cT cI cL cF cM) (cW h cI cL cF cM F L r) H locs) (hl : lv_has ls 2 [(0, .ref (h 0))]) : W p l e rmX10_keep s m args below meth c H locs 0 0 Q (F0 m 9 ls []) := by
  unfold wpX10_keep_b9 at hh
  refine lv_iconst (v := (0 : Int32)) C.1 C.2.1 dX10_keep_9 (by decide) ?_
  exact hR _ _ _ (F, L, r) _ _ dX10_keep_10 rfl hh hw
def wpX10_keep_b0 (F : Nat → Nat → Int32) (L : Nat → Nat → Int64) (r : Nat → Nat → Nat) (x1 : Int32) (K : Int32 → cS → Prop) : Prop :=
  ((x1 < 0) →
    wpX10_keep_b9 F L r K) ∧
  (¬ (x1 < 0) →
    ((x1 < (4 : Int32)) →
      vp_in x1 4 ∧ wpX1_copyFrom (50 + 4 * ix x1) 46 F L r (fun u21 =>
        vp_in x1 4 ∧ wpX3_copyFrom (76 + 2 * ix x1) 74 u21.1 u21.2.1 u21.2.2 (fun u34 =>
        vp_in x1 4 ∧ K (1 : Int32) (pt (pt u34.1 3 (ix x1) (u34.1 43 0)) 0 11 (((pt u34.1 3 (ix x1) (u34.1 43 0)) 0 11) ||| (jshl (1 : Int32) x1)), u34.2.1, u34.2.2)))) ∧
    (¬ (x1 < (4 : Int32)) →
      wpX10_keep_b9 F L r K))
set_option maxHeartbeats 4000000 in
set_option maxRecDepth 100000 in
theorem tX10_keep_b0 {K : Int32 → cS → Prop} (C : CallFix p m c cX10_keep 2 s args wsX10_keep RX10) (hR : Rti .boolean p l e rmX10_keep s m args below meth c cX10_keep D A (cT cI cL cF cM) (cWu h cI cL cF cM) K Q) {F : Nat → Nat → Int32} {L : Nat → Nat → Int64} {r : Nat → Nat → Nat} {x1 : Int32} (hh : wpX10_keep_b0 F L r x1 K) {H : Heap} {locs : List Loc} {ls : Array Slot} (hw : Wd D A s (cT cI cL cF cM) (cW h cI cL cF cM F L r) H locs) (hl : lv_has ls 2 [(0, .ref (h 0)), (1, .int x1)]) : W p l e rmX10_keep s m args below meth c H locs 0 0 Q (F0 m 0 ls []) := by
  unfold wpX10_keep_b0 at hh
  refine lv_iload_n C.1 C.2.1 dX10_keep_0 rfl (lv_at hl 1 rfl) ?_
  refine lv_if_lt (tgt := 9) C.1 C.2.1 dX10_keep_1 (by decide) (fun c1 => ?_) (fun c1 => ?_)
  · replace hh := hh.1 c1
    exact tX10_keep_b9 C hR hh hw (lv_sub hl [0] rfl)
  · replace hh := hh.2 c1
    refine lv_iload_n C.1 C.2.1 dX10_keep_4 rfl (lv_at hl 1 rfl) ?_
    refine lv_iconst (v := (4 : Int32)) C.1 C.2.1 dX10_keep_5 (by decide) ?_
    refine lv_icmp_lt (tgt := 11) C.1 C.2.1 dX10_keep_6 (by decide) (fun c6 => ?_) (fun c6 => ?_)
    · replace hh := hh.1 c6
      refine lv_aload_n C.1 C.2.1 dX10_keep_11 rfl (lv_at hl 0 rfl) ?_
      refine c_get C hw (inC inW10) (kd_lt kp0 (by decide)) (ce10 kp0) rfl 8 (by decide) (wc w_578) (v := .ref (h 1)) rfl dX10_keep_12 ?_
      refine lv_iload_n C.1 C.2.1 dX10_keep_15 rfl (lv_at hl 1 rfl) ?_
      obtain ⟨hi16, hh⟩ := hh
      refine c_aal (t0 := 2) C hw (kd_lt kp1 (by decide)) (ce24 kp1) rfl hi16 dX10_keep_16 ?_
      refine lv_aload_n C.1 C.2.1 dX10_keep_17 rfl (lv_at hl 0 rfl) ?_
      refine c_get C hw (inC inW10) (kd_lt kp0 (by decide)) (ce10 kp0) rfl 5 (by decide) (wc w_575) (v := .ref (h 46)) rfl dX10_keep_18 ?_
      refine c_Vv C hw (ctX1_copyFrom l D h cI cL cF cM (50 + 4 * ix x1) 46 (kdF hi16) kp46 F L r hh) (cwV 1 C.2.2.2.2 (gd_V w_1323 w_1247 w_1248 w_120 w_1249) rfl rfl rfl cdX1_copyFrom ⟨Nat.le_of_ble_eq_true rfl, Nat.le_of_ble_eq_true rfl⟩) rfl (kd_lt (kdF hi16) (by decide)) (ce1 (kdF hi16)) rfl hl.1 (Nat.le_of_ble_eq_true rfl) dX10_keep_21 ⟨Nat.zero_le _, Nat.zero_le _⟩ (fun u21 H locs hh hw => ?_) rfl
      refine lv_aload_n C.1 C.2.1 dX10_keep_24 rfl (lv_at hl 0 rfl) ?_
      refine c_get C hw (inC inW10) (kd_lt kp0 (by decide)) (ce10 kp0) rfl 9 (by decide) (wc w_579) (v := .ref (h 2)) rfl dX10_keep_25 ?_
      refine lv_iload_n C.1 C.2.1 dX10_keep_28 rfl (lv_at hl 1 rfl) ?_
      obtain ⟨hi29, hh⟩ := hh
      refine c_aal (t0 := 3) C hw (kd_lt kp2 (by decide)) (ce25 kp2) rfl hi29 dX10_keep_29 ?_
      refine lv_aload_n C.1 C.2.1 dX10_keep_30 rfl (lv_at hl 0 rfl) ?_
      refine c_get C hw (inC inW10) (kd_lt kp0 (by decide)) (ce10 kp0) rfl 6 (by decide) (wc w_576) (v := .ref (h 74)) rfl dX10_keep_31 ?_
      refine c_Vv C hw (ctX3_copyFrom l D h cI cL cF cM (76 + 2 * ix x1) 74 (kdM hi29) kp74 u21.1 u21.2.1 u21.2.2 hh) (cwV 1 C.2.2.2.2 (gd_V w_1324 w_1243 w_1244 w_121 w_1245) rfl rfl rfl cdX3_copyFrom ⟨Nat.le_of_ble_eq_true rfl, Nat.le_of_ble_eq_true rfl⟩) rfl (kd_lt (kdM hi29) (by decide)) (ce3 (kdM hi29)) rfl hl.1 (Nat.le_of_ble_eq_true rfl) dX10_keep_34 ⟨Nat.zero_le _, Nat.zero_le _⟩ (fun u34 H locs hh hw => ?_) rfl
      refine lv_aload_n C.1 C.2.1 dX10_keep_37 rfl (lv_at hl 0 rfl) ?_
      refine c_get C hw (inC inW10) (kd_lt kp0 (by decide)) (ce10 kp0) rfl 10 (by decide) (wc w_580) (v := .ref (h 3)) rfl dX10_keep_38 ?_
      refine lv_iload_n C.1 C.2.1 dX10_keep_41 rfl (lv_at hl 1 rfl) ?_
      refine lv_aload_n C.1 C.2.1 dX10_keep_42 rfl (lv_at hl 0 rfl) ?_
      refine c_get C hw (inC inW10) (kd_lt kp0 (by decide)) (ce10 kp0) rfl 7 (by decide) (wc w_577) (v := .ref (h 43)) rfl dX10_keep_43 ?_
      refine c_get C hw (inC inW0) (kd_lt kp43 (by decide)) (ce0 kp43) rfl 0 (by decide) (wc w_440) (v := .int (u34.1 43 0)) rfl dX10_keep_46 ?_
      obtain ⟨hi49, hh⟩ := hh
      refine c_ias C hw (kd_lt kp3 (by decide)) (ce12 kp3) hi49 dX10_keep_49 (fun H locs hw => ?_)
      refine lv_aload_n C.1 C.2.1 dX10_keep_50 rfl (lv_at hl 0 rfl) ?_
      refine lv_dup C.1 C.2.1 dX10_keep_51 rfl ?_
      refine c_get C hw (inC inW10) (kd_lt kp0 (by decide)) (ce10 kp0) rfl 11 (by decide) (wc w_581) (v := .int ((pt u34.1 3 (ix x1) (u34.1 43 0)) 0 11)) rfl dX10_keep_52 ?_
      refine lv_iconst (v := (1 : Int32)) C.1 C.2.1 dX10_keep_55 (by decide) ?_
      refine lv_iload_n C.1 C.2.1 dX10_keep_56 rfl (lv_at hl 1 rfl) ?_
      refine g_ishl C dX10_keep_57 ?_
      refine lv_ior C.1 C.2.1 dX10_keep_58 ?_
      refine c_puti C hw (inC inW10) tyX10 tyX10_ok nmX10 (kd_lt kp0 (by decide)) (ce10 kp0) rfl 11 (by decide) (wc w_581) rfl (ty := .int) (by decide +kernel) rfl rfl (Nat.le_of_ble_eq_true rfl) rfl dX10_keep_59 (fun H locs hw => ?_)
      refine lv_iconst (v := (1 : Int32)) C.1 C.2.1 dX10_keep_62 (by decide) ?_
      exact hR _ _ _ (pt (pt u34.1 3 (ix x1) (u34.1 43 0)) 0 11 (((pt u34.1 3 (ix x1) (u34.1 43 0)) 0 11) ||| (jshl (1 : Int32) x1)), u34.2.1, u34.2.2) _ _ dX10_keep_63 rfl hh hw
    · replace hh := hh.2 c6
      exact tX10_keep_b9 C hR hh hw (lv_sub hl [0] rfl)
def wpX10_keep (F : Nat → Nat → Int32) (L : Nat → Nat → Int64) (r : Nat → Nat → Nat) (x1 : Int32) (K : Int32 → cS → Prop) : Prop := wpX10_keep_b0 F L r x1 K
theorem ctX10_keep (l : Launch) (D : va_G) (h : Nat → Nat) (cI cL cF cM : ClassId) (F : Nat → Nat → Int32) (L : Nat → Nat → Int64) (r : Nat → Nat → Nat) (x1 : Int32) {K : Int32 → cS → Prop} (hh : wpX10_keep F L r x1 K) : Ci l yX10_keep wsX10_keep rmX10_keep [.ref (h 0), .int x1] D (cT cI cL cF cM) (cWu h cI cL cF cM) (F, L, r) K := by
  refine Ci_of (cc := cX10_keep) (maxL := 2) (by decide) rfl (Nat.le_of_ble_eq_true rfl) ?_
  intro p e s m below meth c A Q C hw hR ls hl
  exact tX10_keep_b0 C hR hh hw hl
theorem cdX10_keep : yX10_keep.cls = RX10 ∧ yX10_keep.cls ≠ "java/lang/invoke/MethodHandle" ∧ yX10_keep.cls ≠ "java/lang/invoke/VarHandle" ∧ (parseMethodDescriptor yX10_keep.desc).map (fun d => d.parameters.length) = some 1 := by decide +kernel
abbrev rmX10_restore : Room := { frames := 1, cells := 0, slots := 0, locals := 22 }
def wpX10_restore_b20 (F : Nat → Nat → Int32) (L : Nat → Nat → Int64) (r : Nat → Nat → Nat) (K : Int32 → cS → Prop) : Prop :=
  K (0 : Int32) (F, L, r)
set_option maxHeartbeats 4000000 in
set_option maxRecDepth 100000 in
theorem tX10_restore_b20 {K : Int32 → cS → Prop} (C : CallFix p m c cX10_restore 2 s args wsX10_restore RX10) (hR : Rti .boolean p l e rmX10_restore s m args below meth c cX10_restore D A (cT cI cL cF cM) (cWu h cI cL cF cM) K Q) {F : Nat → Nat → Int32} {L : Nat → Nat → Int64} {r : Nat → Nat → Nat} (hh : wpX10_restore_b20 F L r K) {H : Heap} {locs : List Loc} {ls : Array Slot} (hw : Wd D A s (cT cI cL cF cM) (cW h cI cL cF cM F L r) H locs) (hl : lv_has ls 2 [(0, .ref (h 0))]) : W p l e rmX10_restore s m args below meth c H locs 0 0 Q (F0 m 20 ls []) := by
  unfold wpX10_restore_b20 at hh
  refine lv_iconst (v := (0 : Int32)) C.1 C.2.1 dX10_restore_20 (by decide) ?_
  exact hR _ _ _ (F, L, r) _ _ dX10_restore_21 rfl hh hw
def wpX10_restore_b0 (F : Nat → Nat → Int32) (L : Nat → Nat → Int64) (r : Nat → Nat → Nat) (x1 : Int32) (K : Int32 → cS → Prop) : Prop :=
  ((x1 < 0) →
    wpX10_restore_b20 F L r K) ∧
  (¬ (x1 < 0) →
    (((4 : Int32) ≤ x1) →
      wpX10_restore_b20 F L r K) ∧
    (¬ ((4 : Int32) ≤ x1) →
      (¬ (((jshr (F 0 11) x1) &&& (1 : Int32)) = 0) →
        vp_in x1 4 ∧ wpX1_copyFrom 46 (50 + 4 * ix x1) F L r (fun u32 =>
          vp_in x1 4 ∧ wpX3_copyFrom 74 (76 + 2 * ix x1) u32.1 u32.2.1 u32.2.2 (fun u45 =>
          vp_in x1 4 ∧ wpX0_settle 43 u45.1 u45.2.1 u45.2.2 (u45.1 3 (ix x1)) (fun u58 =>
          K (1 : Int32) (u58.1, u58.2.1, u58.2.2))))) ∧
      ((((jshr (F 0 11) x1) &&& (1 : Int32)) = 0) →
        wpX10_restore_b20 F L r K)))
set_option maxHeartbeats 4000000 in
set_option maxRecDepth 100000 in
theorem tX10_restore_b0 {K : Int32 → cS → Prop} (C : CallFix p m c cX10_restore 2 s args wsX10_restore RX10) (hR : Rti .boolean p l e rmX10_restore s m args below meth c cX10_restore D A (cT cI cL cF cM) (cWu h cI cL cF cM) K Q) {F : Nat → Nat → Int32} {L : Nat → Nat → Int64} {r : Nat → Nat → Nat} {x1 : Int32} (hh : wpX10_restore_b0 F L r x1 K) {H : Heap} {locs : List Loc} {ls : Array Slot} (hw : Wd D A s (cT cI cL cF cM) (cW h cI cL cF cM F L r) H locs) (hl : lv_has ls 2 [(0, .ref (h 0)), (1, .int x1)]) : W p l e rmX10_restore s m args below meth c H locs 0 0 Q (F0 m 0 ls []) := by
  unfold wpX10_restore_b0 at hh
  refine lv_iload_n C.1 C.2.1 dX10_restore_0 rfl (lv_at hl 1 rfl) ?_
  refine lv_if_lt (tgt := 20) C.1 C.2.1 dX10_restore_1 (by decide) (fun c1 => ?_) (fun c1 => ?_)
  · replace hh := hh.1 c1
    exact tX10_restore_b20 C hR hh hw (lv_sub hl [0] rfl)
  · replace hh := hh.2 c1
    refine lv_iload_n C.1 C.2.1 dX10_restore_4 rfl (lv_at hl 1 rfl) ?_
    refine lv_iconst (v := (4 : Int32)) C.1 C.2.1 dX10_restore_5 (by decide) ?_
    refine lv_icmp_ge (tgt := 20) C.1 C.2.1 dX10_restore_6 (by decide) (fun c6 => ?_) (fun c6 => ?_)
    · replace hh := hh.1 c6
      exact tX10_restore_b20 C hR hh hw (lv_sub hl [0] rfl)
    · replace hh := hh.2 c6
      refine lv_aload_n C.1 C.2.1 dX10_restore_9 rfl (lv_at hl 0 rfl) ?_
      refine c_get C hw (inC inW10) (kd_lt kp0 (by decide)) (ce10 kp0) rfl 11 (by decide) (wc w_581) (v := .int (F 0 11)) rfl dX10_restore_10 ?_
      refine lv_iload_n C.1 C.2.1 dX10_restore_13 rfl (lv_at hl 1 rfl) ?_
      refine g_ishr C dX10_restore_14 ?_
      refine lv_iconst (v := (1 : Int32)) C.1 C.2.1 dX10_restore_15 (by decide) ?_
      refine lv_iand C.1 C.2.1 dX10_restore_16 ?_
      refine lv_if_ne (tgt := 22) C.1 C.2.1 dX10_restore_17 (by decide) (fun c17 => ?_) (fun c17 => ?_)
      · replace hh := hh.1 c17
        refine lv_aload_n C.1 C.2.1 dX10_restore_22 rfl (lv_at hl 0 rfl) ?_
        refine c_get C hw (inC inW10) (kd_lt kp0 (by decide)) (ce10 kp0) rfl 5 (by decide) (wc w_575) (v := .ref (h 46)) rfl dX10_restore_23 ?_
        refine lv_aload_n C.1 C.2.1 dX10_restore_26 rfl (lv_at hl 0 rfl) ?_
        refine c_get C hw (inC inW10) (kd_lt kp0 (by decide)) (ce10 kp0) rfl 8 (by decide) (wc w_578) (v := .ref (h 1)) rfl dX10_restore_27 ?_
        refine lv_iload_n C.1 C.2.1 dX10_restore_30 rfl (lv_at hl 1 rfl) ?_
        obtain ⟨hi31, hh⟩ := hh
        refine c_aal (t0 := 2) C hw (kd_lt kp1 (by decide)) (ce24 kp1) rfl hi31 dX10_restore_31 ?_
        refine c_Vv C hw (ctX1_copyFrom l D h cI cL cF cM 46 (50 + 4 * ix x1) kp46 (kdF hi31) F L r hh) (cwV 1 C.2.2.2.2 (gd_V w_1323 w_1247 w_1248 w_120 w_1249) rfl rfl rfl cdX1_copyFrom ⟨Nat.le_of_ble_eq_true rfl, Nat.le_of_ble_eq_true rfl⟩) rfl (kd_lt kp46 (by decide)) (ce1 kp46) rfl hl.1 (Nat.le_of_ble_eq_true rfl) dX10_restore_32 ⟨Nat.zero_le _, Nat.zero_le _⟩ (fun u32 H locs hh hw => ?_) rfl
        refine lv_aload_n C.1 C.2.1 dX10_restore_35 rfl (lv_at hl 0 rfl) ?_
        refine c_get C hw (inC inW10) (kd_lt kp0 (by decide)) (ce10 kp0) rfl 6 (by decide) (wc w_576) (v := .ref (h 74)) rfl dX10_restore_36 ?_
        refine lv_aload_n C.1 C.2.1 dX10_restore_39 rfl (lv_at hl 0 rfl) ?_
        refine c_get C hw (inC inW10) (kd_lt kp0 (by decide)) (ce10 kp0) rfl 9 (by decide) (wc w_579) (v := .ref (h 2)) rfl dX10_restore_40 ?_
        refine lv_iload_n C.1 C.2.1 dX10_restore_43 rfl (lv_at hl 1 rfl) ?_
        obtain ⟨hi44, hh⟩ := hh
        refine c_aal (t0 := 3) C hw (kd_lt kp2 (by decide)) (ce25 kp2) rfl hi44 dX10_restore_44 ?_
        refine c_Vv C hw (ctX3_copyFrom l D h cI cL cF cM 74 (76 + 2 * ix x1) kp74 (kdM hi44) u32.1 u32.2.1 u32.2.2 hh) (cwV 1 C.2.2.2.2 (gd_V w_1324 w_1243 w_1244 w_121 w_1245) rfl rfl rfl cdX3_copyFrom ⟨Nat.le_of_ble_eq_true rfl, Nat.le_of_ble_eq_true rfl⟩) rfl (kd_lt kp74 (by decide)) (ce3 kp74) rfl hl.1 (Nat.le_of_ble_eq_true rfl) dX10_restore_45 ⟨Nat.zero_le _, Nat.zero_le _⟩ (fun u45 H locs hh hw => ?_) rfl
        refine lv_aload_n C.1 C.2.1 dX10_restore_48 rfl (lv_at hl 0 rfl) ?_
        refine c_get C hw (inC inW10) (kd_lt kp0 (by decide)) (ce10 kp0) rfl 7 (by decide) (wc w_577) (v := .ref (h 43)) rfl dX10_restore_49 ?_
        refine lv_aload_n C.1 C.2.1 dX10_restore_52 rfl (lv_at hl 0 rfl) ?_
        refine c_get C hw (inC inW10) (kd_lt kp0 (by decide)) (ce10 kp0) rfl 10 (by decide) (wc w_580) (v := .ref (h 3)) rfl dX10_restore_53 ?_
        refine lv_iload_n C.1 C.2.1 dX10_restore_56 rfl (lv_at hl 1 rfl) ?_
        obtain ⟨hi57, hh⟩ := hh
        refine c_ial C hw (kd_lt kp3 (by decide)) (ce12 kp3) hi57 dX10_restore_57 ?_
        refine c_Vv C hw (ctX0_settle l D h cI cL cF cM 43 kp43 u45.1 u45.2.1 u45.2.2 (u45.1 3 (ix x1)) hh) (cwV 1 C.2.2.2.2 (gd_V w_1329 w_930 w_931 w_122 w_932) rfl rfl rfl cdX0_settle ⟨Nat.le_of_ble_eq_true rfl, Nat.le_of_ble_eq_true rfl⟩) rfl (kd_lt kp43 (by decide)) (ce0 kp43) rfl hl.1 (Nat.le_of_ble_eq_true rfl) dX10_restore_58 ⟨Nat.zero_le _, Nat.zero_le _⟩ (fun u58 H locs hh hw => ?_) rfl
        refine lv_iconst (v := (1 : Int32)) C.1 C.2.1 dX10_restore_61 (by decide) ?_
        exact hR _ _ _ (u58.1, u58.2.1, u58.2.2) _ _ dX10_restore_62 rfl hh hw
      · replace hh := hh.2 c17
        exact tX10_restore_b20 C hR hh hw (lv_sub hl [0] rfl)
def wpX10_restore (F : Nat → Nat → Int32) (L : Nat → Nat → Int64) (r : Nat → Nat → Nat) (x1 : Int32) (K : Int32 → cS → Prop) : Prop := wpX10_restore_b0 F L r x1 K
theorem ctX10_restore (l : Launch) (D : va_G) (h : Nat → Nat) (cI cL cF cM : ClassId) (F : Nat → Nat → Int32) (L : Nat → Nat → Int64) (r : Nat → Nat → Nat) (x1 : Int32) {K : Int32 → cS → Prop} (hh : wpX10_restore F L r x1 K) : Ci l yX10_restore wsX10_restore rmX10_restore [.ref (h 0), .int x1] D (cT cI cL cF cM) (cWu h cI cL cF cM) (F, L, r) K := by
  refine Ci_of (cc := cX10_restore) (maxL := 2) (by decide) rfl (Nat.le_of_ble_eq_true rfl) ?_
  intro p e s m below meth c A Q C hw hR ls hl
  exact tX10_restore_b0 C hR hh hw hl
theorem cdX10_restore : yX10_restore.cls = RX10 ∧ yX10_restore.cls ≠ "java/lang/invoke/MethodHandle" ∧ yX10_restore.cls ≠ "java/lang/invoke/VarHandle" ∧ (parseMethodDescriptor yX10_restore.desc).map (fun d => d.parameters.length) = some 1 := by decide +kernel
abbrev rmX1_standingWalls : Room := { frames := 1, cells := 0, slots := 0, locals := 21 }
def wpX1_standingWalls_b0 (a0 : Nat) (F : Nat → Nat → Int32) (L : Nat → Nat → Int64) (r : Nat → Nat → Nat) (K : Int32 → cS → Prop) : Prop :=
  vp_in (1 : Int32) 4 ∧ vp_in (1 : Int32) 4 ∧ wpJ13_bitCount_95d88 ((L (a0 + 1) (ix (1 : Int32))) &&& ((L (a0 + 3) (ix (1 : Int32))) ^^^ (-1 : Int64))) (fun r17 u17 =>
    vp_in (2 : Int32) 4 ∧ vp_in (2 : Int32) 4 ∧ wpJ13_bitCount_95d88 ((L (a0 + 1) (ix (2 : Int32))) &&& ((L (a0 + 3) (ix (2 : Int32))) ^^^ (-1 : Int64))) (fun r37 u37 =>
    K (r17 + r37) (F, L, r)))
set_option maxHeartbeats 4000000 in
set_option maxRecDepth 100000 in
theorem tX1_standingWalls_b0 {a0 : Nat} {K : Int32 → cS → Prop} (C : CallFix p m c cX1_standingWalls 1 s args wsX1_standingWalls RX1) (hR : Rti .int p l e rmX1_standingWalls s m args below meth c cX1_standingWalls D A (cT cI cL cF cM) (cWu h cI cL cF cM) K Q) (ha0 : kd a0 = 1) {F : Nat → Nat → Int32} {L : Nat → Nat → Int64} {r : Nat → Nat → Nat} (hh : wpX1_standingWalls_b0 a0 F L r K) {H : Heap} {locs : List Loc} {ls : Array Slot} (hw : Wd D A s (cT cI cL cF cM) (cW h cI cL cF cM F L r) H locs) (hl : lv_has ls 1 [(0, .ref (h a0))]) : W p l e rmX1_standingWalls s m args below meth c H locs 0 0 Q (F0 m 0 ls []) := by
  unfold wpX1_standingWalls_b0 at hh
  refine lv_aload_n C.1 C.2.1 dX1_standingWalls_0 rfl (lv_at hl 0 rfl) ?_
  refine c_get C hw (inC inW1) (kd_lt ha0 (by decide)) (ce1 ha0) rfl 4 (by decide) (wc w_365) (v := .ref (h (a0 + 1))) rfl dX1_standingWalls_1 ?_
  refine lv_iconst (v := (1 : Int32)) C.1 C.2.1 dX1_standingWalls_4 (by decide) ?_
  obtain ⟨hi5, hh⟩ := hh
  refine c_lal C hw (kd_lt (kd1_1 ha0) (by decide)) (ce22 (kd1_1 ha0)) hi5 dX1_standingWalls_5 ?_
  refine lv_aload_n C.1 C.2.1 dX1_standingWalls_6 rfl (lv_at hl 0 rfl) ?_
  refine c_get C hw (inC inW1) (kd_lt ha0 (by decide)) (ce1 ha0) rfl 6 (by decide) (wc w_369) (v := .ref (h (a0 + 3))) rfl dX1_standingWalls_7 ?_
  refine lv_iconst (v := (1 : Int32)) C.1 C.2.1 dX1_standingWalls_10 (by decide) ?_
  obtain ⟨hi11, hh⟩ := hh
  refine c_lal C hw (kd_lt (kd1_3 ha0) (by decide)) (ce22 (kd1_3 ha0)) hi11 dX1_standingWalls_11 ?_
  refine lv_ldc2 C.1 C.2.1 C.2.2.2.1 (C.2.2.2.2 _ (wc w_960)) dX1_standingWalls_12 ?_
  refine lv_lxor C.1 C.2.1 dX1_standingWalls_15 ?_
  refine lv_land C.1 C.2.1 dX1_standingWalls_16 ?_
  refine wd_Si C hw (ctJ13_bitCount_95d88 l D ((L (a0 + 1) (ix (1 : Int32))) &&& ((L (a0 + 3) (ix (1 : Int32))) ^^^ (-1 : Int64))) hh) (va_cwS 1 C.2.2.2.2 (gd_S w_1338 w_982 (ini_cls rfl w_131) w_983) rfl rfl rfl cdJ13_bitCount_95d88 ⟨Nat.le_of_ble_eq_true rfl, Nat.le_of_ble_eq_true rfl⟩) rfl hl.1 (Nat.le_of_ble_eq_true rfl) dX1_standingWalls_17 ⟨Nat.zero_le _, Nat.zero_le _⟩ (fun r17 H locs hh hw => ?_) rfl
  refine lv_aload_n C.1 C.2.1 dX1_standingWalls_20 rfl (lv_at hl 0 rfl) ?_
  refine c_get C hw (inC inW1) (kd_lt ha0 (by decide)) (ce1 ha0) rfl 4 (by decide) (wc w_365) (v := .ref (h (a0 + 1))) rfl dX1_standingWalls_21 ?_
  refine lv_iconst (v := (2 : Int32)) C.1 C.2.1 dX1_standingWalls_24 (by decide) ?_
  obtain ⟨hi25, hh⟩ := hh
  refine c_lal C hw (kd_lt (kd1_1 ha0) (by decide)) (ce22 (kd1_1 ha0)) hi25 dX1_standingWalls_25 ?_
  refine lv_aload_n C.1 C.2.1 dX1_standingWalls_26 rfl (lv_at hl 0 rfl) ?_
  refine c_get C hw (inC inW1) (kd_lt ha0 (by decide)) (ce1 ha0) rfl 6 (by decide) (wc w_369) (v := .ref (h (a0 + 3))) rfl dX1_standingWalls_27 ?_
  refine lv_iconst (v := (2 : Int32)) C.1 C.2.1 dX1_standingWalls_30 (by decide) ?_
  obtain ⟨hi31, hh⟩ := hh
  refine c_lal C hw (kd_lt (kd1_3 ha0) (by decide)) (ce22 (kd1_3 ha0)) hi31 dX1_standingWalls_31 ?_
  refine lv_ldc2 C.1 C.2.1 C.2.2.2.1 (C.2.2.2.2 _ (wc w_960)) dX1_standingWalls_32 ?_
  refine lv_lxor C.1 C.2.1 dX1_standingWalls_35 ?_
  refine lv_land C.1 C.2.1 dX1_standingWalls_36 ?_
  refine wd_Si C hw (ctJ13_bitCount_95d88 l D ((L (a0 + 1) (ix (2 : Int32))) &&& ((L (a0 + 3) (ix (2 : Int32))) ^^^ (-1 : Int64))) hh) (va_cwS 1 C.2.2.2.2 (gd_S w_1338 w_982 (ini_cls rfl w_131) w_983) rfl rfl rfl cdJ13_bitCount_95d88 ⟨Nat.le_of_ble_eq_true rfl, Nat.le_of_ble_eq_true rfl⟩) rfl hl.1 (Nat.le_of_ble_eq_true rfl) dX1_standingWalls_37 ⟨Nat.zero_le _, Nat.zero_le _⟩ (fun r37 H locs hh hw => ?_) rfl
  refine lv_iadd C.1 C.2.1 dX1_standingWalls_40 ?_
  exact hR _ _ _ (F, L, r) _ _ dX1_standingWalls_41 rfl hh hw
def wpX1_standingWalls (a0 : Nat) (F : Nat → Nat → Int32) (L : Nat → Nat → Int64) (r : Nat → Nat → Nat) (K : Int32 → cS → Prop) : Prop := wpX1_standingWalls_b0 a0 F L r K
theorem ctX1_standingWalls (l : Launch) (D : va_G) (h : Nat → Nat) (cI cL cF cM : ClassId) (a0 : Nat) (ha0 : kd a0 = 1) (F : Nat → Nat → Int32) (L : Nat → Nat → Int64) (r : Nat → Nat → Nat) {K : Int32 → cS → Prop} (hh : wpX1_standingWalls a0 F L r K) : Ci l yX1_standingWalls wsX1_standingWalls rmX1_standingWalls [.ref (h a0)] D (cT cI cL cF cM) (cWu h cI cL cF cM) (F, L, r) K := by
  refine Ci_of (cc := cX1_standingWalls) (maxL := 1) (by decide) rfl (Nat.le_of_ble_eq_true rfl) ?_
  intro p e s m below meth c A Q C hw hR ls hl
  exact tX1_standingWalls_b0 C hR ha0 hh hw hl
theorem cdX1_standingWalls : yX1_standingWalls.cls = RX1 ∧ yX1_standingWalls.cls ≠ "java/lang/invoke/MethodHandle" ∧ yX1_standingWalls.cls ≠ "java/lang/invoke/VarHandle" ∧ (parseMethodDescriptor yX1_standingWalls.desc).map (fun d => d.parameters.length) = some 0 := by decide +kernel
abbrev rmX10_count : Room := { frames := 2, cells := 0, slots := 0, locals := 41 }
def wpX10_count_b0 (F : Nat → Nat → Int32) (L : Nat → Nat → Int64) (r : Nat → Nat → Nat) (x1 : Int32) (K : Int32 → cS → Prop) : Prop :=
  (x1 = (0 : Int32) →
    K (F 46 2) (F, L, r)) ∧
  (x1 = (1 : Int32) →
    kd (r 0 3) = 6 ∧ K (F (r 0 3) 0) (F, L, r)) ∧
  (x1 = (2 : Int32) →
    kd (r 0 4) = 4 ∧ K (F (r 0 4) 0) (F, L, r)) ∧
  (x1 = (3 : Int32) →
    kd (r 0 4) = 4 ∧ K (F (r 0 4) 1) (F, L, r)) ∧
  (x1 = (4 : Int32) →
    wpX1_standingWalls 46 F L r (fun r80 u80 =>
        K r80 (u80.1, u80.2.1, u80.2.2))) ∧
  (x1 = (5 : Int32) →
    K (F 46 3) (F, L, r)) ∧
  (x1 = (6 : Int32) →
    wpJ6_bitCount_0f7a4 (F 0 11) (fun r96 u96 =>
        K r96 (F, L, r))) ∧
  ((x1).toInt < 0 ∨ 6 < (x1).toInt →
    K (-1 : Int32) (F, L, r))
set_option maxHeartbeats 4000000 in
set_option maxRecDepth 100000 in
theorem tX10_count_b0 {K : Int32 → cS → Prop} (C : CallFix p m c cX10_count 2 s args wsX10_count RX10) (hR : Rti .int p l e rmX10_count s m args below meth c cX10_count D A (cT cI cL cF cM) (cWu h cI cL cF cM) K Q) {F : Nat → Nat → Int32} {L : Nat → Nat → Int64} {r : Nat → Nat → Nat} {x1 : Int32} (hh : wpX10_count_b0 F L r x1 K) {H : Heap} {locs : List Loc} {ls : Array Slot} (hw : Wd D A s (cT cI cL cF cM) (cW h cI cL cF cM F L r) H locs) (hl : lv_has ls 2 [(0, .ref (h 0)), (1, .int x1)]) : W p l e rmX10_count s m args below meth c H locs 0 0 Q (F0 m 0 ls []) := by
  unfold wpX10_count_b0 at hh
  refine lv_iload_n C.1 C.2.1 dX10_count_0 rfl (lv_at hl 1 rfl) ?_
  refine sw_in (x := x1) (lo := 0) (hi := 6) (fun hlo hhi => ?_) (fun ho => ?_)
  · have hv : (x1).toInt = 0 ∨ (x1).toInt = 1 ∨ (x1).toInt = 2 ∨ (x1).toInt = 3 ∨ (x1).toInt = 4 ∨ (x1).toInt = 5 ∨ (x1).toInt = 6 := by omega
    rcases hv with hv | hv | hv | hv | hv | hv | hv
    · replace hh := hh.1 (sw_eq hv (by decide))
      refine lv_tableIn (off := 43) (tgt := 44) C.1 C.2.1 dX10_count_1 hlo hhi (by rw [hv]; rfl) (by decide) ?_
      refine lv_aload_n C.1 C.2.1 dX10_count_44 rfl (lv_at hl 0 rfl) ?_
      refine c_get C hw (inC inW10) (kd_lt kp0 (by decide)) (ce10 kp0) rfl 5 (by decide) (wc w_575) (v := .ref (h 46)) rfl dX10_count_45 ?_
      refine c_get C hw (inC inW1) (kd_lt kp46 (by decide)) (ce1 kp46) rfl 2 (by decide) (wc w_360) (v := .int (F 46 2)) rfl dX10_count_48 ?_
      exact hR _ _ _ (F, L, r) _ _ dX10_count_51 rfl hh hw
    · replace hh := hh.2.1 (sw_eq hv (by decide))
      refine lv_tableIn (off := 51) (tgt := 52) C.1 C.2.1 dX10_count_1 hlo hhi (by rw [hv]; rfl) (by decide) ?_
      refine lv_aload_n C.1 C.2.1 dX10_count_52 rfl (lv_at hl 0 rfl) ?_
      refine c_get C hw (inC inW10) (kd_lt kp0 (by decide)) (ce10 kp0) rfl 3 (by decide) (wc w_573) (v := .ref (h (r 0 3))) rfl dX10_count_53 ?_
      obtain ⟨hk0, hh⟩ := hh
      refine c_get C hw (inC inW6) (kd_lt hk0 (by decide)) (ce6 hk0) rfl 0 (by decide) (wc w_229) (v := .int (F (r 0 3) 0)) rfl dX10_count_56 ?_
      exact hR _ _ _ (F, L, r) _ _ dX10_count_59 rfl hh hw
    · replace hh := hh.2.2.1 (sw_eq hv (by decide))
      refine lv_tableIn (off := 59) (tgt := 60) C.1 C.2.1 dX10_count_1 hlo hhi (by rw [hv]; rfl) (by decide) ?_
      refine lv_aload_n C.1 C.2.1 dX10_count_60 rfl (lv_at hl 0 rfl) ?_
      refine c_get C hw (inC inW10) (kd_lt kp0 (by decide)) (ce10 kp0) rfl 4 (by decide) (wc w_574) (v := .ref (h (r 0 4))) rfl dX10_count_61 ?_
      obtain ⟨hk1, hh⟩ := hh
      refine c_get C hw (inC inW4) (kd_lt hk1 (by decide)) (ce4 hk1) rfl 0 (by decide) (wc w_279) (v := .int (F (r 0 4) 0)) rfl dX10_count_64 ?_
      exact hR _ _ _ (F, L, r) _ _ dX10_count_67 rfl hh hw
    · replace hh := hh.2.2.2.1 (sw_eq hv (by decide))
      refine lv_tableIn (off := 67) (tgt := 68) C.1 C.2.1 dX10_count_1 hlo hhi (by rw [hv]; rfl) (by decide) ?_
      refine lv_aload_n C.1 C.2.1 dX10_count_68 rfl (lv_at hl 0 rfl) ?_
      refine c_get C hw (inC inW10) (kd_lt kp0 (by decide)) (ce10 kp0) rfl 4 (by decide) (wc w_574) (v := .ref (h (r 0 4))) rfl dX10_count_69 ?_
      obtain ⟨hk2, hh⟩ := hh
      refine c_get C hw (inC inW4) (kd_lt hk2 (by decide)) (ce4 hk2) rfl 1 (by decide) (wc w_285) (v := .int (F (r 0 4) 1)) rfl dX10_count_72 ?_
      exact hR _ _ _ (F, L, r) _ _ dX10_count_75 rfl hh hw
    · replace hh := hh.2.2.2.2.1 (sw_eq hv (by decide))
      refine lv_tableIn (off := 75) (tgt := 76) C.1 C.2.1 dX10_count_1 hlo hhi (by rw [hv]; rfl) (by decide) ?_
      refine lv_aload_n C.1 C.2.1 dX10_count_76 rfl (lv_at hl 0 rfl) ?_
      refine c_get C hw (inC inW10) (kd_lt kp0 (by decide)) (ce10 kp0) rfl 5 (by decide) (wc w_575) (v := .ref (h 46)) rfl dX10_count_77 ?_
      refine c_Vi C hw (ctX1_standingWalls l D h cI cL cF cM 46 kp46 F L r hh) (cwV 0 C.2.2.2.2 (gd_V w_1334 w_1335 w_1336 w_120 w_1337) rfl rfl rfl cdX1_standingWalls ⟨Nat.le_of_ble_eq_true rfl, Nat.le_of_ble_eq_true rfl⟩) rfl (kd_lt kp46 (by decide)) (ce1 kp46) rfl hl.1 (Nat.le_of_ble_eq_true rfl) dX10_count_80 ⟨Nat.zero_le _, Nat.zero_le _⟩ (fun r80 u80 H locs hh hw => ?_) rfl
      exact hR _ _ _ (u80.1, u80.2.1, u80.2.2) _ _ dX10_count_83 rfl hh hw
    · replace hh := hh.2.2.2.2.2.1 (sw_eq hv (by decide))
      refine lv_tableIn (off := 83) (tgt := 84) C.1 C.2.1 dX10_count_1 hlo hhi (by rw [hv]; rfl) (by decide) ?_
      refine lv_aload_n C.1 C.2.1 dX10_count_84 rfl (lv_at hl 0 rfl) ?_
      refine c_get C hw (inC inW10) (kd_lt kp0 (by decide)) (ce10 kp0) rfl 5 (by decide) (wc w_575) (v := .ref (h 46)) rfl dX10_count_85 ?_
      refine c_get C hw (inC inW1) (kd_lt kp46 (by decide)) (ce1 kp46) rfl 3 (by decide) (wc w_362) (v := .int (F 46 3)) rfl dX10_count_88 ?_
      exact hR _ _ _ (F, L, r) _ _ dX10_count_91 rfl hh hw
    · replace hh := hh.2.2.2.2.2.2.1 (sw_eq hv (by decide))
      refine lv_tableIn (off := 91) (tgt := 92) C.1 C.2.1 dX10_count_1 hlo hhi (by rw [hv]; rfl) (by decide) ?_
      refine lv_aload_n C.1 C.2.1 dX10_count_92 rfl (lv_at hl 0 rfl) ?_
      refine c_get C hw (inC inW10) (kd_lt kp0 (by decide)) (ce10 kp0) rfl 11 (by decide) (wc w_581) (v := .int (F 0 11)) rfl dX10_count_93 ?_
      refine wd_Si C hw (ctJ6_bitCount_0f7a4 l D (F 0 11) hh) (va_cwS 1 C.2.2.2.2 (gd_S w_1339 w_1299 (ini_cls rfl w_137) w_1300) rfl rfl rfl cdJ6_bitCount_0f7a4 ⟨Nat.le_of_ble_eq_true rfl, Nat.le_of_ble_eq_true rfl⟩) rfl hl.1 (Nat.le_of_ble_eq_true rfl) dX10_count_96 ⟨Nat.zero_le _, Nat.zero_le _⟩ (fun r96 H locs hh hw => ?_) rfl
      exact hR _ _ _ (F, L, r) _ _ dX10_count_99 rfl hh hw
  · replace hh := hh.2.2.2.2.2.2.2 ho
    refine lv_tableOut (tgt := 100) C.1 C.2.1 dX10_count_1 ho (by decide) ?_
    refine lv_iconst (v := (-1 : Int32)) C.1 C.2.1 dX10_count_100 (by decide) ?_
    exact hR _ _ _ (F, L, r) _ _ dX10_count_101 rfl hh hw
def wpX10_count (F : Nat → Nat → Int32) (L : Nat → Nat → Int64) (r : Nat → Nat → Nat) (x1 : Int32) (K : Int32 → cS → Prop) : Prop := wpX10_count_b0 F L r x1 K
theorem ctX10_count (l : Launch) (D : va_G) (h : Nat → Nat) (cI cL cF cM : ClassId) (F : Nat → Nat → Int32) (L : Nat → Nat → Int64) (r : Nat → Nat → Nat) (x1 : Int32) {K : Int32 → cS → Prop} (hh : wpX10_count F L r x1 K) : Ci l yX10_count wsX10_count rmX10_count [.ref (h 0), .int x1] D (cT cI cL cF cM) (cWu h cI cL cF cM) (F, L, r) K := by
  refine Ci_of (cc := cX10_count) (maxL := 2) (by decide) rfl (Nat.le_of_ble_eq_true rfl) ?_
  intro p e s m below meth c A Q C hw hR ls hl
  exact tX10_count_b0 C hR hh hw hl
theorem cdX10_count : yX10_count.cls = RX10 ∧ yX10_count.cls ≠ "java/lang/invoke/MethodHandle" ∧ yX10_count.cls ≠ "java/lang/invoke/VarHandle" ∧ (parseMethodDescriptor yX10_count.desc).map (fun d => d.parameters.length) = some 1 := by decide +kernel
end
