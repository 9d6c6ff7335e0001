section
variable {p : Program} {l : Launch} {e : Env} {s : State} {m : MethodId} {args : Array Value} {below : List Frame} {meth : Method} {c : Code} {D : va_G} {A : Nat → Prop} {h : Nat → Nat} {cI cL cF cM : ClassId} {Q : State → Prop}
abbrev rmX1_clearWalls : Room := { frames := 0, cells := 0, slots := 0, locals := 0 }
def wpX1_clearWalls_b2_body (B2 : (Nat → Nat → Int32) → (Nat → Nat → Int64) → (Nat → Nat → Nat) → Int32 → Prop) (a0 : Nat) (F : Nat → Nat → Int32) (L : Nat → Nat → Int64) (r : Nat → Nat → Nat) (x1 : Int32) (K : cS → Prop) : Prop :=
  (((4 : Int32) ≤ x1) →
    K (F, L, r)) ∧
  (¬ ((4 : Int32) ≤ x1) →
    vp_in x1 4 ∧ vp_in x1 4 ∧ B2 F (ptL L (a0 + 1) (ix x1) (L (a0 + 3) (ix x1))) r (x1 + (1 : Int32)))
set_option maxHeartbeats 4000000 in
set_option maxRecDepth 100000 in
theorem tX1_clearWalls_b2_body {a0 : Nat} {B2 : (Nat → Nat → Int32) → (Nat → Nat → Int64) → (Nat → Nat → Nat) → Int32 → Prop} {K : cS → Prop} (C : CallFix p m c cX1_clearWalls 2 s args wsX1_clearWalls RX1) (hR : Rtv p l e rmX1_clearWalls s m args below meth c cX1_clearWalls D A (cT cI cL cF cM) (cWu h cI cL cF cM) K Q) (ha0 : kd a0 = 1) (hB2 : ∀ (F : Nat → Nat → Int32) (L : Nat → Nat → Int64) (r : Nat → Nat → Nat) (x1 : Int32) (H : Heap) (locs : List Loc) (ls : Array Slot), B2 F L r x1 → Wd D A s (cT cI cL cF cM) (cW h cI cL cF cM F L r) H locs → lv_has ls 2 [(0, .ref (h a0)), (1, .int x1)] → W p l e rmX1_clearWalls s m args below meth c H locs 0 0 Q (F0 m 2 ls [])) {F : Nat → Nat → Int32} {L : Nat → Nat → Int64} {r : Nat → Nat → Nat} {x1 : Int32} (hh : wpX1_clearWalls_b2_body B2 a0 F L r x1 K) {H : Heap} {locs : List Loc} {ls : Array Slot} (hw : Wd D A s (cT cI cL cF cM) (cW h cI cL cF cM F L r) H locs) (hl : lv_has ls 2 [(0, .ref (h a0)), (1, .int x1)]) : W p l e rmX1_clearWalls s m args below meth c H locs 0 0 Q (F0 m 2 ls []) := by
  unfold wpX1_clearWalls_b2_body at hh
  refine lv_iload_n C.1 C.2.1 dX1_clearWalls_2 rfl (lv_at hl 1 rfl) ?_
  refine lv_iconst (v := (4 : Int32)) C.1 C.2.1 dX1_clearWalls_3 (by decide) ?_
  refine lv_icmp_ge (tgt := 25) C.1 C.2.1 dX1_clearWalls_4 (by decide) (fun c4 => ?_) (fun c4 => ?_)
  · replace hh := hh.1 c4
    exact hR _ _ (F, L, r) _ _ dX1_clearWalls_25 hh hw
  · replace hh := hh.2 c4
    refine lv_aload_n C.1 C.2.1 dX1_clearWalls_7 rfl (lv_at hl 0 rfl) ?_
    refine c_get C hw (inC inW1) (kd_lt ha0 (by decide)) (ce1 ha0) rfl 4 (by decide) (wc w_365) (v := .ref (h (a0 + 1))) rfl dX1_clearWalls_8 ?_
    refine lv_iload_n C.1 C.2.1 dX1_clearWalls_11 rfl (lv_at hl 1 rfl) ?_
    refine lv_aload_n C.1 C.2.1 dX1_clearWalls_12 rfl (lv_at hl 0 rfl) ?_
    refine c_get C hw (inC inW1) (kd_lt ha0 (by decide)) (ce1 ha0) rfl 6 (by decide) (wc w_369) (v := .ref (h (a0 + 3))) rfl dX1_clearWalls_13 ?_
    refine lv_iload_n C.1 C.2.1 dX1_clearWalls_16 rfl (lv_at hl 1 rfl) ?_
    obtain ⟨hi17, hh⟩ := hh
    refine c_lal C hw (kd_lt (kd1_3 ha0) (by decide)) (ce22 (kd1_3 ha0)) hi17 dX1_clearWalls_17 ?_
    obtain ⟨hi18, hh⟩ := hh
    refine c_las C hw (kd_lt (kd1_1 ha0) (by decide)) (ce22 (kd1_1 ha0)) hi18 dX1_clearWalls_18 (fun H locs hw => ?_)
    refine lv_iinc (v := x1 + (1 : Int32)) (lv' := [(1, .int (x1 + (1 : Int32))), (0, .ref (h a0))]) C.1 C.2.1 dX1_clearWalls_19 hl (k := 1) rfl rfl (by decide) rfl (fun ls hl => ?_)
    refine lv_goto (tgt := 2) C.1 C.2.1 dX1_clearWalls_22 (by decide) ?_
    exact hB2 _ _ _ _ _ _ _ hh hw (lv_sub hl [1, 0] rfl)
def wpX1_clearWalls_b2 (a0 : Nat) (n_ : Nat) (F : Nat → Nat → Int32) (L : Nat → Nat → Int64) (r : Nat → Nat → Nat) (x1 : Int32) (K : cS → Prop) : Prop := match n_ with
  | 0 => False
  | n + 1 => wpX1_clearWalls_b2_body (fun F L r x1 => wpX1_clearWalls_b2 a0 n F L r x1 K) a0 F L r x1 K
theorem tX1_clearWalls_b2 {a0 : Nat} {K : cS → Prop} (C : CallFix p m c cX1_clearWalls 2 s args wsX1_clearWalls RX1) (hR : Rtv p l e rmX1_clearWalls s m args below meth c cX1_clearWalls D A (cT cI cL cF cM) (cWu h cI cL cF cM) K Q) (ha0 : kd a0 = 1) (n : Nat) : ∀ (F : Nat → Nat → Int32) (L : Nat → Nat → Int64) (r : Nat → Nat → Nat) (x1 : Int32) (H : Heap) (locs : List Loc) (ls : Array Slot), wpX1_clearWalls_b2 a0 n F L r x1 K → Wd D A s (cT cI cL cF cM) (cW h cI cL cF cM F L r) H locs → lv_has ls 2 [(0, .ref (h a0)), (1, .int x1)] → W p l e rmX1_clearWalls s m args below meth c H locs 0 0 Q (F0 m 2 ls []) := by
  induction n with
  | zero => intro F L r x1 H locs ls hh; exact hh.elim
  | succ n ih => intro F L r x1 H locs ls hh hw hl; exact tX1_clearWalls_b2_body C hR ha0 ih hh hw hl
def wpX1_clearWalls_b0 (a0 : Nat) (F : Nat → Nat → Int32) (L : Nat → Nat → Int64) (r : Nat → Nat → Nat) (K : cS → Prop) : Prop :=
  ∃ n, wpX1_clearWalls_b2 a0 n F L r (0 : Int32) K
set_option maxHeartbeats 4000000 in
set_option maxRecDepth 100000 in
theorem tX1_clearWalls_b0 {a0 : Nat} {K : cS → Prop} (C : CallFix p m c cX1_clearWalls 2 s args wsX1_clearWalls RX1) (hR : Rtv p l e rmX1_clearWalls s m args below meth c cX1_clearWalls D A (cT cI cL cF cM) (cWu h cI cL cF cM) K Q) (ha0 : kd a0 = 1) {F : Nat → Nat → Int32} {L : Nat → Nat → Int64} {r : Nat → Nat → Nat} (hh : wpX1_clearWalls_b0 a0 F L r K) {H : Heap} {locs : List Loc} {ls : Array Slot} (hw : Wd D A s (cT cI cL cF cM) (cW h cI cL cF cM F L r) H locs) (hl : lv_has ls 2 [(0, .ref (h a0))]) : W p l e rmX1_clearWalls s m args below meth c H locs 0 0 Q (F0 m 0 ls []) := by
  unfold wpX1_clearWalls_b0 at hh
  refine lv_iconst (v := (0 : Int32)) C.1 C.2.1 dX1_clearWalls_0 (by decide) ?_
  refine lv_istore_n (lv' := [(1, .int (0 : Int32)), (0, .ref (h a0))]) C.1 C.2.1 dX1_clearWalls_1 rfl hl (by decide) rfl (fun ls hl => ?_)
  obtain ⟨n, hh⟩ := hh
  exact tX1_clearWalls_b2 C hR ha0 n _ _ _ _ _ _ _ hh hw (lv_sub hl [1, 0] rfl)
def wpX1_clearWalls (a0 : Nat) (F : Nat → Nat → Int32) (L : Nat → Nat → Int64) (r : Nat → Nat → Nat) (K : cS → Prop) : Prop := wpX1_clearWalls_b0 a0 F L r K
theorem ctX1_clearWalls (l : Launch) (D : va_G) (h : Nat → Nat) (cI cL cF cM : ClassId) (a0 : Nat) (ha0 : kd a0 = 1) (F : Nat → Nat → Int32) (L : Nat → Nat → Int64) (r : Nat → Nat → Nat) {K : cS → Prop} (hh : wpX1_clearWalls a0 F L r K) : Cv l yX1_clearWalls wsX1_clearWalls rmX1_clearWalls [.ref (h a0)] D (cT cI cL cF cM) (cWu h cI cL cF cM) (F, L, r) K := by
  refine Cv_of (cc := cX1_clearWalls) (maxL := 2) (by decide) rfl (Nat.le_of_ble_eq_true rfl) ?_
  intro p e s m below meth c A Q C hw hR ls hl
  exact tX1_clearWalls_b0 C hR ha0 hh hw hl
theorem cdX1_clearWalls : yX1_clearWalls.cls = RX1 ∧ yX1_clearWalls.cls ≠ "java/lang/invoke/MethodHandle" ∧ yX1_clearWalls.cls ≠ "java/lang/invoke/VarHandle" ∧ (parseMethodDescriptor yX1_clearWalls.desc).map (fun d => d.parameters.length) = some 0 := by decide +kernel
abbrev rmX1_lay : Room := { frames := 1, cells := 0, slots := 0, locals := 21 }
def wpX1_lay_b32_body (B32 : (Nat → Nat → Int32) → (Nat → Nat → Int64) → (Nat → Nat → Nat) → Int32 → Int32 → Int64 → Int32 → Prop) (a0 : Nat) (F : Nat → Nat → Int32) (L : Nat → Nat → Int64) (r : Nat → Nat → Nat) (x1 : Int32) (x2 : Int32) (x3 : Int64) (x5 : Int32) (K : cS → Prop) : Prop :=
  ((x2 ≤ x5) →
    vp_in (0 : Int32) 4 ∧ vp_in (1 : Int32) 4 ∧ vp_in (0 : Int32) 4 ∧ vp_in (2 : Int32) 4 ∧ vp_in (3 : Int32) 4 ∧ vp_in (0 : Int32) 4 ∧ vp_in (1 : Int32) 4 ∧ vp_in (2 : Int32) 4 ∧ vp_in (3 : Int32) 4 ∧ wpX1_clearWalls a0 (pt (pt (pt (pt F (a0 + 2) (ix (0 : Int32)) (-x1)) (a0 + 2) (ix (1 : Int32)) (1 : Int32)) (a0 + 2) (ix (2 : Int32)) x1) (a0 + 2) (ix (3 : Int32)) (-1 : Int32)) (ptL (ptL (ptL (ptL L (a0 + 3) (ix (0 : Int32)) ((jlshl (1 : Int64) x1) - (1 : Int64))) (a0 + 3) (ix (1 : Int32)) (jlshl x3 (x1 - (1 : Int32)))) (a0 + 3) (ix (2 : Int32)) (jlshl ((ptL (ptL L (a0 + 3) (ix (0 : Int32)) ((jlshl (1 : Int64) x1) - (1 : Int64))) (a0 + 3) (ix (1 : Int32)) (jlshl x3 (x1 - (1 : Int32)))) (a0 + 3) (ix (0 : Int32))) ((F a0 2) - x1))) (a0 + 3) (ix (3 : Int32)) x3) r (fun u131 =>
      K (u131.1, u131.2.1, u131.2.2))) ∧
  (¬ (x2 ≤ x5) →
    B32 F L r x1 x2 (x3 ||| (jlshl (1 : Int64) (x5 * x1))) (x5 + (1 : Int32)))
set_option maxHeartbeats 4000000 in
set_option maxRecDepth 100000 in
theorem tX1_lay_b32_body {a0 : Nat} {B32 : (Nat → Nat → Int32) → (Nat → Nat → Int64) → (Nat → Nat → Nat) → Int32 → Int32 → Int64 → Int32 → Prop} {K : cS → Prop} (C : CallFix p m c cX1_lay 6 s args wsX1_lay RX1) (hR : Rtv p l e rmX1_lay s m args below meth c cX1_lay D A (cT cI cL cF cM) (cWu h cI cL cF cM) K Q) (ha0 : kd a0 = 1) (hB32 : ∀ (F : Nat → Nat → Int32) (L : Nat → Nat → Int64) (r : Nat → Nat → Nat) (x1 : Int32) (x2 : Int32) (x3 : Int64) (x5 : Int32) (H : Heap) (locs : List Loc) (ls : Array Slot), B32 F L r x1 x2 x3 x5 → Wd D A s (cT cI cL cF cM) (cW h cI cL cF cM F L r) H locs → lv_has ls 6 [(0, .ref (h a0)), (1, .int x1), (2, .int x2), (3, .long x3), (5, .int x5)] → W p l e rmX1_lay s m args below meth c H locs 0 0 Q (F0 m 32 ls [])) {F : Nat → Nat → Int32} {L : Nat → Nat → Int64} {r : Nat → Nat → Nat} {x1 : Int32} {x2 : Int32} {x3 : Int64} {x5 : Int32} (hh : wpX1_lay_b32_body B32 a0 F L r x1 x2 x3 x5 K) {H : Heap} {locs : List Loc} {ls : Array Slot} (hw : Wd D A s (cT cI cL cF cM) (cW h cI cL cF cM F L r) H locs) (hl : lv_has ls 6 [(0, .ref (h a0)), (1, .int x1), (2, .int x2), (3, .long x3), (5, .int x5)]) : W p l e rmX1_lay s m args below meth c H locs 0 0 Q (F0 m 32 ls []) := by
  unfold wpX1_lay_b32_body at hh
  refine lv_iload C.1 C.2.1 dX1_lay_32 (lv_at hl 4 rfl) ?_
  refine lv_iload_n C.1 C.2.1 dX1_lay_34 rfl (lv_at hl 2 rfl) ?_
  refine lv_icmp_ge (tgt := 53) C.1 C.2.1 dX1_lay_35 (by decide) (fun c35 => ?_) (fun c35 => ?_)
  · replace hh := hh.1 c35
    refine lv_aload_n C.1 C.2.1 dX1_lay_53 rfl (lv_at hl 0 rfl) ?_
    refine c_get C hw (inC inW1) (kd_lt ha0 (by decide)) (ce1 ha0) rfl 6 (by decide) (wc w_369) (v := .ref (h (a0 + 3))) rfl dX1_lay_54 ?_
    refine lv_iconst (v := (0 : Int32)) C.1 C.2.1 dX1_lay_57 (by decide) ?_
    refine lv_lconst (v := (1 : Int64)) C.1 C.2.1 dX1_lay_58 (by decide) ?_
    refine lv_iload_n C.1 C.2.1 dX1_lay_59 rfl (lv_at hl 1 rfl) ?_
    refine lv_lshl (v := jlshl (1 : Int64) x1) C.1 C.2.1 dX1_lay_60 rfl ?_
    refine lv_lconst (v := (1 : Int64)) C.1 C.2.1 dX1_lay_61 (by decide) ?_
    refine lv_lsub C.1 C.2.1 dX1_lay_62 ?_
    obtain ⟨hi63, hh⟩ := hh
    refine c_las C hw (kd_lt (kd1_3 ha0) (by decide)) (ce22 (kd1_3 ha0)) hi63 dX1_lay_63 (fun H locs hw => ?_)
    refine lv_aload_n C.1 C.2.1 dX1_lay_64 rfl (lv_at hl 0 rfl) ?_
    refine c_get C hw (inC inW1) (kd_lt ha0 (by decide)) (ce1 ha0) rfl 6 (by decide) (wc w_369) (v := .ref (h (a0 + 3))) rfl dX1_lay_65 ?_
    refine lv_iconst (v := (1 : Int32)) C.1 C.2.1 dX1_lay_68 (by decide) ?_
    refine lv_lload_n C.1 C.2.1 dX1_lay_69 rfl (lv_at hl 3 rfl) ?_
    refine lv_iload_n C.1 C.2.1 dX1_lay_70 rfl (lv_at hl 1 rfl) ?_
    refine lv_iconst (v := (1 : Int32)) C.1 C.2.1 dX1_lay_71 (by decide) ?_
    refine lv_isub C.1 C.2.1 dX1_lay_72 ?_
    refine lv_lshl (v := jlshl x3 (x1 - (1 : Int32))) C.1 C.2.1 dX1_lay_73 rfl ?_
    obtain ⟨hi74, hh⟩ := hh
    refine c_las C hw (kd_lt (kd1_3 ha0) (by decide)) (ce22 (kd1_3 ha0)) hi74 dX1_lay_74 (fun H locs hw => ?_)
    refine lv_aload_n C.1 C.2.1 dX1_lay_75 rfl (lv_at hl 0 rfl) ?_
    refine c_get C hw (inC inW1) (kd_lt ha0 (by decide)) (ce1 ha0) rfl 6 (by decide) (wc w_369) (v := .ref (h (a0 + 3))) rfl dX1_lay_76 ?_
    refine lv_iconst (v := (2 : Int32)) C.1 C.2.1 dX1_lay_79 (by decide) ?_
    refine lv_aload_n C.1 C.2.1 dX1_lay_80 rfl (lv_at hl 0 rfl) ?_
    refine c_get C hw (inC inW1) (kd_lt ha0 (by decide)) (ce1 ha0) rfl 6 (by decide) (wc w_369) (v := .ref (h (a0 + 3))) rfl dX1_lay_81 ?_
    refine lv_iconst (v := (0 : Int32)) C.1 C.2.1 dX1_lay_84 (by decide) ?_
    obtain ⟨hi85, hh⟩ := hh
    refine c_lal C hw (kd_lt (kd1_3 ha0) (by decide)) (ce22 (kd1_3 ha0)) hi85 dX1_lay_85 ?_
    refine lv_aload_n C.1 C.2.1 dX1_lay_86 rfl (lv_at hl 0 rfl) ?_
    refine c_get C hw (inC inW1) (kd_lt ha0 (by decide)) (ce1 ha0) rfl 2 (by decide) (wc w_358) (v := .int (F a0 2)) rfl dX1_lay_87 ?_
    refine lv_iload_n C.1 C.2.1 dX1_lay_90 rfl (lv_at hl 1 rfl) ?_
    refine lv_isub C.1 C.2.1 dX1_lay_91 ?_
    refine lv_lshl (v := jlshl ((ptL (ptL L (a0 + 3) (ix (0 : Int32)) ((jlshl (1 : Int64) x1) - (1 : Int64))) (a0 + 3) (ix (1 : Int32)) (jlshl x3 (x1 - (1 : Int32)))) (a0 + 3) (ix (0 : Int32))) ((F a0 2) - x1)) C.1 C.2.1 dX1_lay_92 rfl ?_
    obtain ⟨hi93, hh⟩ := hh
    refine c_las C hw (kd_lt (kd1_3 ha0) (by decide)) (ce22 (kd1_3 ha0)) hi93 dX1_lay_93 (fun H locs hw => ?_)
    refine lv_aload_n C.1 C.2.1 dX1_lay_94 rfl (lv_at hl 0 rfl) ?_
    refine c_get C hw (inC inW1) (kd_lt ha0 (by decide)) (ce1 ha0) rfl 6 (by decide) (wc w_369) (v := .ref (h (a0 + 3))) rfl dX1_lay_95 ?_
    refine lv_iconst (v := (3 : Int32)) C.1 C.2.1 dX1_lay_98 (by decide) ?_
    refine lv_lload_n C.1 C.2.1 dX1_lay_99 rfl (lv_at hl 3 rfl) ?_
    obtain ⟨hi100, hh⟩ := hh
    refine c_las C hw (kd_lt (kd1_3 ha0) (by decide)) (ce22 (kd1_3 ha0)) hi100 dX1_lay_100 (fun H locs hw => ?_)
    refine lv_aload_n C.1 C.2.1 dX1_lay_101 rfl (lv_at hl 0 rfl) ?_
    refine c_get C hw (inC inW1) (kd_lt ha0 (by decide)) (ce1 ha0) rfl 5 (by decide) (wc w_367) (v := .ref (h (a0 + 2))) rfl dX1_lay_102 ?_
    refine lv_iconst (v := (0 : Int32)) C.1 C.2.1 dX1_lay_105 (by decide) ?_
    refine lv_iload_n C.1 C.2.1 dX1_lay_106 rfl (lv_at hl 1 rfl) ?_
    refine lv_ineg C.1 C.2.1 dX1_lay_107 ?_
    obtain ⟨hi108, hh⟩ := hh
    refine c_ias C hw (kd_lt (kd1_2 ha0) (by decide)) (ce12 (kd1_2 ha0)) hi108 dX1_lay_108 (fun H locs hw => ?_)
    refine lv_aload_n C.1 C.2.1 dX1_lay_109 rfl (lv_at hl 0 rfl) ?_
    refine c_get C hw (inC inW1) (kd_lt ha0 (by decide)) (ce1 ha0) rfl 5 (by decide) (wc w_367) (v := .ref (h (a0 + 2))) rfl dX1_lay_110 ?_
    refine lv_iconst (v := (1 : Int32)) C.1 C.2.1 dX1_lay_113 (by decide) ?_
    refine lv_iconst (v := (1 : Int32)) C.1 C.2.1 dX1_lay_114 (by decide) ?_
    obtain ⟨hi115, hh⟩ := hh
    refine c_ias C hw (kd_lt (kd1_2 ha0) (by decide)) (ce12 (kd1_2 ha0)) hi115 dX1_lay_115 (fun H locs hw => ?_)
    refine lv_aload_n C.1 C.2.1 dX1_lay_116 rfl (lv_at hl 0 rfl) ?_
    refine c_get C hw (inC inW1) (kd_lt ha0 (by decide)) (ce1 ha0) rfl 5 (by decide) (wc w_367) (v := .ref (h (a0 + 2))) rfl dX1_lay_117 ?_
    refine lv_iconst (v := (2 : Int32)) C.1 C.2.1 dX1_lay_120 (by decide) ?_
    refine lv_iload_n C.1 C.2.1 dX1_lay_121 rfl (lv_at hl 1 rfl) ?_
    obtain ⟨hi122, hh⟩ := hh
    refine c_ias C hw (kd_lt (kd1_2 ha0) (by decide)) (ce12 (kd1_2 ha0)) hi122 dX1_lay_122 (fun H locs hw => ?_)
    refine lv_aload_n C.1 C.2.1 dX1_lay_123 rfl (lv_at hl 0 rfl) ?_
    refine c_get C hw (inC inW1) (kd_lt ha0 (by decide)) (ce1 ha0) rfl 5 (by decide) (wc w_367) (v := .ref (h (a0 + 2))) rfl dX1_lay_124 ?_
    refine lv_iconst (v := (3 : Int32)) C.1 C.2.1 dX1_lay_127 (by decide) ?_
    refine lv_iconst (v := (-1 : Int32)) C.1 C.2.1 dX1_lay_128 (by decide) ?_
    obtain ⟨hi129, hh⟩ := hh
    refine c_ias C hw (kd_lt (kd1_2 ha0) (by decide)) (ce12 (kd1_2 ha0)) hi129 dX1_lay_129 (fun H locs hw => ?_)
    refine lv_aload_n C.1 C.2.1 dX1_lay_130 rfl (lv_at hl 0 rfl) ?_
    refine c_Vv C hw (ctX1_clearWalls l D h cI cL cF cM a0 ha0 (pt (pt (pt (pt F (a0 + 2) (ix (0 : Int32)) (-x1)) (a0 + 2) (ix (1 : Int32)) (1 : Int32)) (a0 + 2) (ix (2 : Int32)) x1) (a0 + 2) (ix (3 : Int32)) (-1 : Int32)) (ptL (ptL (ptL (ptL L (a0 + 3) (ix (0 : Int32)) ((jlshl (1 : Int64) x1) - (1 : Int64))) (a0 + 3) (ix (1 : Int32)) (jlshl x3 (x1 - (1 : Int32)))) (a0 + 3) (ix (2 : Int32)) (jlshl ((ptL (ptL L (a0 + 3) (ix (0 : Int32)) ((jlshl (1 : Int64) x1) - (1 : Int64))) (a0 + 3) (ix (1 : Int32)) (jlshl x3 (x1 - (1 : Int32)))) (a0 + 3) (ix (0 : Int32))) ((F a0 2) - x1))) (a0 + 3) (ix (3 : Int32)) x3) r hh) (cwV 0 C.2.2.2.2 (gd_V w_352 w_354 w_0 w_120 w_355) rfl rfl rfl cdX1_clearWalls ⟨Nat.le_of_ble_eq_true rfl, Nat.le_of_ble_eq_true rfl⟩) rfl (kd_lt ha0 (by decide)) (ce1 ha0) rfl hl.1 (Nat.le_of_ble_eq_true rfl) dX1_lay_131 ⟨Nat.zero_le _, Nat.zero_le _⟩ (fun u131 H locs hh hw => ?_) rfl
    exact hR _ _ (u131.1, u131.2.1, u131.2.2) _ _ dX1_lay_134 hh hw
  · replace hh := hh.2 c35
    refine lv_lload_n C.1 C.2.1 dX1_lay_38 rfl (lv_at hl 3 rfl) ?_
    refine lv_lconst (v := (1 : Int64)) C.1 C.2.1 dX1_lay_39 (by decide) ?_
    refine lv_iload C.1 C.2.1 dX1_lay_40 (lv_at hl 4 rfl) ?_
    refine lv_iload_n C.1 C.2.1 dX1_lay_42 rfl (lv_at hl 1 rfl) ?_
    refine lv_imul C.1 C.2.1 dX1_lay_43 ?_
    refine lv_lshl (v := jlshl (1 : Int64) (x5 * x1)) C.1 C.2.1 dX1_lay_44 rfl ?_
    refine lv_lor C.1 C.2.1 dX1_lay_45 ?_
    refine lv_lstore_n (lv' := [(3, .long (x3 ||| (jlshl (1 : Int64) (x5 * x1)))), (0, .ref (h a0)), (1, .int x1), (2, .int x2), (5, .int x5)]) C.1 C.2.1 dX1_lay_46 rfl hl (by decide) rfl (fun ls hl => ?_)
    refine lv_iinc (v := x5 + (1 : Int32)) (lv' := [(5, .int (x5 + (1 : Int32))), (3, .long (x3 ||| (jlshl (1 : Int64) (x5 * x1)))), (0, .ref (h a0)), (1, .int x1), (2, .int x2)]) C.1 C.2.1 dX1_lay_47 hl (k := 4) rfl rfl (by decide) rfl (fun ls hl => ?_)
    refine lv_goto (tgt := 32) C.1 C.2.1 dX1_lay_50 (by decide) ?_
    exact hB32 _ _ _ _ _ _ _ _ _ _ hh hw (lv_sub hl [2, 3, 4, 1, 0] rfl)
def wpX1_lay_b32 (a0 : Nat) (n_ : Nat) (F : Nat → Nat → Int32) (L : Nat → Nat → Int64) (r : Nat → Nat → Nat) (x1 : Int32) (x2 : Int32) (x3 : Int64) (x5 : Int32) (K : cS → Prop) : Prop := match n_ with
  | 0 => False
  | n + 1 => wpX1_lay_b32_body (fun F L r x1 x2 x3 x5 => wpX1_lay_b32 a0 n F L r x1 x2 x3 x5 K) a0 F L r x1 x2 x3 x5 K
theorem tX1_lay_b32 {a0 : Nat} {K : cS → Prop} (C : CallFix p m c cX1_lay 6 s args wsX1_lay RX1) (hR : Rtv p l e rmX1_lay s m args below meth c cX1_lay D A (cT cI cL cF cM) (cWu h cI cL cF cM) K Q) (ha0 : kd a0 = 1) (n : Nat) : ∀ (F : Nat → Nat → Int32) (L : Nat → Nat → Int64) (r : Nat → Nat → Nat) (x1 : Int32) (x2 : Int32) (x3 : Int64) (x5 : Int32) (H : Heap) (locs : List Loc) (ls : Array Slot), wpX1_lay_b32 a0 n F L r x1 x2 x3 x5 K → Wd D A s (cT cI cL cF cM) (cW h cI cL cF cM F L r) H locs → lv_has ls 6 [(0, .ref (h a0)), (1, .int x1), (2, .int x2), (3, .long x3), (5, .int x5)] → W p l e rmX1_lay s m args below meth c H locs 0 0 Q (F0 m 32 ls []) := by
  induction n with
  | zero => intro F L r x1 x2 x3 x5 H locs ls hh; exact hh.elim
  | succ n ih => intro F L r x1 x2 x3 x5 H locs ls hh hw hl; exact tX1_lay_b32_body C hR ha0 ih hh hw hl
def wpX1_lay_b0 (a0 : Nat) (F : Nat → Nat → Int32) (L : Nat → Nat → Int64) (r : Nat → Nat → Nat) (x1 : Int32) (x2 : Int32) (K : cS → Prop) : Prop :=
  ∃ n, wpX1_lay_b32 a0 n (pt (pt (pt (pt F a0 0 x1) a0 1 x2) a0 2 (x1 * x2)) a0 3 (((pt (pt (pt F a0 0 x1) a0 1 x2) a0 2 (x1 * x2)) a0 2) - (1 : Int32))) L r x1 x2 (0 : Int64) (0 : Int32) K
set_option maxHeartbeats 4000000 in
set_option maxRecDepth 100000 in
theorem tX1_lay_b0 {a0 : Nat} {K : cS → Prop} (C : CallFix p m c cX1_lay 6 s args wsX1_lay RX1) (hR : Rtv p l e rmX1_lay s m args below meth c cX1_lay D A (cT cI cL cF cM) (cWu h cI cL cF cM) K Q) (ha0 : kd a0 = 1) {F : Nat → Nat → Int32} {L : Nat → Nat → Int64} {r : Nat → Nat → Nat} {x1 : Int32} {x2 : Int32} (hh : wpX1_lay_b0 a0 F L r x1 x2 K) {H : Heap} {locs : List Loc} {ls : Array Slot} (hw : Wd D A s (cT cI cL cF cM) (cW h cI cL cF cM F L r) H locs) (hl : lv_has ls 6 [(0, .ref (h a0)), (1, .int x1), (2, .int x2)]) : W p l e rmX1_lay s m args below meth c H locs 0 0 Q (F0 m 0 ls []) := by
  unfold wpX1_lay_b0 at hh
  refine lv_aload_n C.1 C.2.1 dX1_lay_0 rfl (lv_at hl 0 rfl) ?_
  refine lv_iload_n C.1 C.2.1 dX1_lay_1 rfl (lv_at hl 1 rfl) ?_
  refine c_puti C hw (inC inW1) tyX1 tyX1_ok nmX1 (kd_lt ha0 (by decide)) (ce1 ha0) rfl 0 (by decide) (wc w_356) rfl (ty := .int) (by decide +kernel) rfl rfl (Nat.le_of_ble_eq_true rfl) rfl dX1_lay_2 (fun H locs hw => ?_)
  refine lv_aload_n C.1 C.2.1 dX1_lay_5 rfl (lv_at hl 0 rfl) ?_
  refine lv_iload_n C.1 C.2.1 dX1_lay_6 rfl (lv_at hl 2 rfl) ?_
  refine c_puti C hw (inC inW1) tyX1 tyX1_ok nmX1 (kd_lt ha0 (by decide)) (ce1 ha0) rfl 1 (by decide) (wc w_357) rfl (ty := .int) (by decide +kernel) rfl rfl (Nat.le_of_ble_eq_true rfl) rfl dX1_lay_7 (fun H locs hw => ?_)
  refine lv_aload_n C.1 C.2.1 dX1_lay_10 rfl (lv_at hl 0 rfl) ?_
  refine lv_iload_n C.1 C.2.1 dX1_lay_11 rfl (lv_at hl 1 rfl) ?_
  refine lv_iload_n C.1 C.2.1 dX1_lay_12 rfl (lv_at hl 2 rfl) ?_
  refine lv_imul C.1 C.2.1 dX1_lay_13 ?_
  refine c_puti C hw (inC inW1) tyX1 tyX1_ok nmX1 (kd_lt ha0 (by decide)) (ce1 ha0) rfl 2 (by decide) (wc w_358) rfl (ty := .int) (by decide +kernel) rfl rfl (Nat.le_of_ble_eq_true rfl) rfl dX1_lay_14 (fun H locs hw => ?_)
  refine lv_aload_n C.1 C.2.1 dX1_lay_17 rfl (lv_at hl 0 rfl) ?_
  refine lv_aload_n C.1 C.2.1 dX1_lay_18 rfl (lv_at hl 0 rfl) ?_
  refine c_get C hw (inC inW1) (kd_lt ha0 (by decide)) (ce1 ha0) rfl 2 (by decide) (wc w_358) (v := .int ((pt (pt (pt F a0 0 x1) a0 1 x2) a0 2 (x1 * x2)) a0 2)) rfl dX1_lay_19 ?_
  refine lv_iconst (v := (1 : Int32)) C.1 C.2.1 dX1_lay_22 (by decide) ?_
  refine lv_isub C.1 C.2.1 dX1_lay_23 ?_
  refine c_puti C hw (inC inW1) tyX1 tyX1_ok nmX1 (kd_lt ha0 (by decide)) (ce1 ha0) rfl 3 (by decide) (wc w_361) rfl (ty := .int) (by decide +kernel) rfl rfl (Nat.le_of_ble_eq_true rfl) rfl dX1_lay_24 (fun H locs hw => ?_)
  refine lv_lconst (v := (0 : Int64)) C.1 C.2.1 dX1_lay_27 (by decide) ?_
  refine lv_lstore_n (lv' := [(3, .long (0 : Int64)), (0, .ref (h a0)), (1, .int x1), (2, .int x2)]) C.1 C.2.1 dX1_lay_28 rfl hl (by decide) rfl (fun ls hl => ?_)
  refine lv_iconst (v := (0 : Int32)) C.1 C.2.1 dX1_lay_29 (by decide) ?_
  refine lv_istore (lv' := [(5, .int (0 : Int32)), (3, .long (0 : Int64)), (0, .ref (h a0)), (1, .int x1), (2, .int x2)]) C.1 C.2.1 dX1_lay_30 hl (by decide) rfl (fun ls hl => ?_)
  obtain ⟨n, hh⟩ := hh
  exact tX1_lay_b32 C hR ha0 n _ _ _ _ _ _ _ _ _ _ hh hw (lv_sub hl [2, 3, 4, 1, 0] rfl)
def wpX1_lay (a0 : Nat) (F : Nat → Nat → Int32) (L : Nat → Nat → Int64) (r : Nat → Nat → Nat) (x1 : Int32) (x2 : Int32) (K : cS → Prop) : Prop := wpX1_lay_b0 a0 F L r x1 x2 K
theorem ctX1_lay (l : Launch) (D : va_G) (h : Nat → Nat) (cI cL cF cM : ClassId) (a0 : Nat) (ha0 : kd a0 = 1) (F : Nat → Nat → Int32) (L : Nat → Nat → Int64) (r : Nat → Nat → Nat) (x1 : Int32) (x2 : Int32) {K : cS → Prop} (hh : wpX1_lay a0 F L r x1 x2 K) : Cv l yX1_lay wsX1_lay rmX1_lay [.ref (h a0), .int x1, .int x2] D (cT cI cL cF cM) (cWu h cI cL cF cM) (F, L, r) K := by
  refine Cv_of (cc := cX1_lay) (maxL := 6) (by decide) rfl (Nat.le_of_ble_eq_true rfl) ?_
  intro p e s m below meth c A Q C hw hR ls hl
  exact tX1_lay_b0 C hR ha0 hh hw hl
theorem cdX1_lay : yX1_lay.cls = RX1 ∧ yX1_lay.cls ≠ "java/lang/invoke/MethodHandle" ∧ yX1_lay.cls ≠ "java/lang/invoke/VarHandle" ∧ (parseMethodDescriptor yX1_lay.desc).map (fun d => d.parameters.length) = some 2 := by decide +kernel
abbrev rmX9_hasRoomFor : Room := { frames := 0, cells := 0, slots := 0, locals := 0 }
def wpX9_hasRoomFor_b17 (F : Nat → Nat → Int32) (L : Nat → Nat → Int64) (r : Nat → Nat → Nat) (k0 : Int32) (K : Int32 → cS → Prop) : Prop :=
  isB k0 ∧ K k0 (F, L, r)
set_option maxHeartbeats 4000000 in
set_option maxRecDepth 100000 in
theorem tX9_hasRoomFor_b17 {K : Int32 → cS → Prop} (C : CallFix p m c cX9_hasRoomFor 2 s args wsX9_hasRoomFor RX9) (hR : Rti .boolean p l e rmX9_hasRoomFor s m args below meth c cX9_hasRoomFor D A (cT cI cL cF cM) (cWu h cI cL cF cM) K Q) {F : Nat → Nat → Int32} {L : Nat → Nat → Int64} {r : Nat → Nat → Nat} {k0 : Int32} (hh : wpX9_hasRoomFor_b17 F L r k0 K) {H : Heap} {locs : List Loc} {ls : Array Slot} (hw : Wd D A s (cT cI cL cF cM) (cW h cI cL cF cM F L r) H locs) (hl : lv_has ls 2 [(0, .ref (h 4))]) : W p l e rmX9_hasRoomFor s m args below meth c H locs 0 0 Q (F0 m 17 ls [.int k0]) := by
  unfold wpX9_hasRoomFor_b17 at hh
  obtain ⟨hb17, hh⟩ := hh
  exact hR _ _ _ (F, L, r) _ _ dX9_hasRoomFor_17 (isB_nar hb17) hh hw
def wpX9_hasRoomFor_b0 (F : Nat → Nat → Int32) (L : Nat → Nat → Int64) (r : Nat → Nat → Nat) (x1 : Int32) (K : Int32 → cS → Prop) : Prop :=
  (((500 : Int32) < ((F 4 0) + x1)) →
    wpX9_hasRoomFor_b17 F L r (0 : Int32) K) ∧
  (¬ ((500 : Int32) < ((F 4 0) + x1)) →
    wpX9_hasRoomFor_b17 F L r (1 : Int32) K)
set_option maxHeartbeats 4000000 in
set_option maxRecDepth 100000 in
theorem tX9_hasRoomFor_b0 {K : Int32 → cS → Prop} (C : CallFix p m c cX9_hasRoomFor 2 s args wsX9_hasRoomFor RX9) (hR : Rti .boolean p l e rmX9_hasRoomFor s m args below meth c cX9_hasRoomFor D A (cT cI cL cF cM) (cWu h cI cL cF cM) K Q) {F : Nat → Nat → Int32} {L : Nat → Nat → Int64} {r : Nat → Nat → Nat} {x1 : Int32} (hh : wpX9_hasRoomFor_b0 F L r x1 K) {H : Heap} {locs : List Loc} {ls : Array Slot} (hw : Wd D A s (cT cI cL cF cM) (cW h cI cL cF cM F L r) H locs) (hl : lv_has ls 2 [(0, .ref (h 4)), (1, .int x1)]) : W p l e rmX9_hasRoomFor s m args below meth c H locs 0 0 Q (F0 m 0 ls []) := by
  unfold wpX9_hasRoomFor_b0 at hh
  refine lv_aload_n C.1 C.2.1 dX9_hasRoomFor_0 rfl (lv_at hl 0 rfl) ?_
  refine c_get C hw (inC inW9) (kd_lt kp4 (by decide)) (ce9 kp4) rfl 0 (by decide) (wc w_152) (v := .int (F 4 0)) rfl dX9_hasRoomFor_1 ?_
  refine lv_iload_n C.1 C.2.1 dX9_hasRoomFor_4 rfl (lv_at hl 1 rfl) ?_
  refine lv_iadd C.1 C.2.1 dX9_hasRoomFor_5 ?_
  refine lv_sipush (v := (500 : Int32)) C.1 C.2.1 dX9_hasRoomFor_6 (by decide) ?_
  refine lv_icmp_gt (tgt := 16) C.1 C.2.1 dX9_hasRoomFor_9 (by decide) (fun c9 => ?_) (fun c9 => ?_)
  · replace hh := hh.1 c9
    refine lv_iconst (v := (0 : Int32)) C.1 C.2.1 dX9_hasRoomFor_16 (by decide) ?_
    exact tX9_hasRoomFor_b17 C hR hh hw (lv_sub hl [0] rfl)
  · replace hh := hh.2 c9
    refine lv_iconst (v := (1 : Int32)) C.1 C.2.1 dX9_hasRoomFor_12 (by decide) ?_
    refine lv_goto (tgt := 17) C.1 C.2.1 dX9_hasRoomFor_13 (by decide) ?_
    exact tX9_hasRoomFor_b17 C hR hh hw (lv_sub hl [0] rfl)
def wpX9_hasRoomFor (F : Nat → Nat → Int32) (L : Nat → Nat → Int64) (r : Nat → Nat → Nat) (x1 : Int32) (K : Int32 → cS → Prop) : Prop := wpX9_hasRoomFor_b0 F L r x1 K
theorem ctX9_hasRoomFor (l : Launch) (D : va_G) (h : Nat → Nat) (cI cL cF cM : ClassId) (F : Nat → Nat → Int32) (L : Nat → Nat → Int64) (r : Nat → Nat → Nat) (x1 : Int32) {K : Int32 → cS → Prop} (hh : wpX9_hasRoomFor F L r x1 K) : Ci l yX9_hasRoomFor wsX9_hasRoomFor rmX9_hasRoomFor [.ref (h 4), .int x1] D (cT cI cL cF cM) (cWu h cI cL cF cM) (F, L, r) K := by
  refine Ci_of (cc := cX9_hasRoomFor) (maxL := 2) (by decide) rfl (Nat.le_of_ble_eq_true rfl) ?_
  intro p e s m below meth c A Q C hw hR ls hl
  exact tX9_hasRoomFor_b0 C hR hh hw hl
theorem cdX9_hasRoomFor : yX9_hasRoomFor.cls = RX9 ∧ yX9_hasRoomFor.cls ≠ "java/lang/invoke/MethodHandle" ∧ yX9_hasRoomFor.cls ≠ "java/lang/invoke/VarHandle" ∧ (parseMethodDescriptor yX9_hasRoomFor.desc).map (fun d => d.parameters.length) = some 1 := by decide +kernel
abbrev rmX9_append : Room := { frames := 0, cells := 0, slots := 0, locals := 0 }
def wpX9_append_b49 (F : Nat → Nat → Int32) (L : Nat → Nat → Int64) (r : Nat → Nat → Nat) (K : cS → Prop) : Prop :=
  K (F, L, r)
set_option maxHeartbeats 4000000 in
set_option maxRecDepth 100000 in
theorem tX9_append_b49 {K : cS → Prop} (C : CallFix p m c cX9_append 3 s args wsX9_append RX9) (hR : Rtv p l e rmX9_append s m args below meth c cX9_append D A (cT cI cL cF cM) (cWu h cI cL cF cM) K Q) {F : Nat → Nat → Int32} {L : Nat → Nat → Int64} {r : Nat → Nat → Nat} (hh : wpX9_append_b49 F L r K) {H : Heap} {locs : List Loc} {ls : Array Slot} (hw : Wd D A s (cT cI cL cF cM) (cW h cI cL cF cM F L r) H locs) (hl : lv_has ls 3 [(0, .ref (h 4))]) : W p l e rmX9_append s m args below meth c H locs 0 0 Q (F0 m 49 ls []) := by
  unfold wpX9_append_b49 at hh
  exact hR _ _ (F, L, r) _ _ dX9_append_49 hh hw
def wpX9_append_b3_body (B3 : (Nat → Nat → Int32) → (Nat → Nat → Int64) → (Nat → Nat → Nat) → Int32 → Int32 → Prop) (F : Nat → Nat → Int32) (L : Nat → Nat → Int64) (r : Nat → Nat → Nat) (x1 : Int32) (x2 : Int32) (K : cS → Prop) : Prop :=
  ((x2 < 0) →
    wpX9_append_b49 F L r K) ∧
  (¬ (x2 < 0) →
    (((500 : Int32) ≤ (F 4 0)) →
      wpX9_append_b49 F L r K) ∧
    (¬ ((500 : Int32) ≤ (F 4 0)) →
      vp_in (F 4 0) 500 ∧ B3 (pt (pt F 5 (ix (F 4 0)) ((jushr x1 x2) &&& (255 : Int32))) 4 0 (((pt F 5 (ix (F 4 0)) ((jushr x1 x2) &&& (255 : Int32))) 4 0) + (1 : Int32))) L r x1 (x2 + (-8 : Int32))))
set_option maxHeartbeats 4000000 in
set_option maxRecDepth 100000 in
theorem tX9_append_b3_body {B3 : (Nat → Nat → Int32) → (Nat → Nat → Int64) → (Nat → Nat → Nat) → Int32 → Int32 → Prop} {K : cS → Prop} (C : CallFix p m c cX9_append 3 s args wsX9_append RX9) (hR : Rtv p l e rmX9_append s m args below meth c cX9_append D A (cT cI cL cF cM) (cWu h cI cL cF cM) K Q) (hB3 : ∀ (F : Nat → Nat → Int32) (L : Nat → Nat → Int64) (r : Nat → Nat → Nat) (x1 : Int32) (x2 : Int32) (H : Heap) (locs : List Loc) (ls : Array Slot), B3 F L r x1 x2 → Wd D A s (cT cI cL cF cM) (cW h cI cL cF cM F L r) H locs → lv_has ls 3 [(0, .ref (h 4)), (1, .int x1), (2, .int x2)] → W p l e rmX9_append s m args below meth c H locs 0 0 Q (F0 m 3 ls [])) {F : Nat → Nat → Int32} {L : Nat → Nat → Int64} {r : Nat → Nat → Nat} {x1 : Int32} {x2 : Int32} (hh : wpX9_append_b3_body B3 F L r x1 x2 K) {H : Heap} {locs : List Loc} {ls : Array Slot} (hw : Wd D A s (cT cI cL cF cM) (cW h cI cL cF cM F L r) H locs) (hl : lv_has ls 3 [(0, .ref (h 4)), (1, .int x1), (2, .int x2)]) : W p l e rmX9_append s m args below meth c H locs 0 0 Q (F0 m 3 ls []) := by
  unfold wpX9_append_b3_body at hh
  refine lv_iload_n C.1 C.2.1 dX9_append_3 rfl (lv_at hl 2 rfl) ?_
  refine lv_if_lt (tgt := 49) C.1 C.2.1 dX9_append_4 (by decide) (fun c4 => ?_) (fun c4 => ?_)
  · replace hh := hh.1 c4
    exact tX9_append_b49 C hR hh hw (lv_sub hl [0] rfl)
  · replace hh := hh.2 c4
    refine lv_aload_n C.1 C.2.1 dX9_append_7 rfl (lv_at hl 0 rfl) ?_
    refine c_get C hw (inC inW9) (kd_lt kp4 (by decide)) (ce9 kp4) rfl 0 (by decide) (wc w_152) (v := .int (F 4 0)) rfl dX9_append_8 ?_
    refine lv_sipush (v := (500 : Int32)) C.1 C.2.1 dX9_append_11 (by decide) ?_
    refine lv_icmp_ge (tgt := 49) C.1 C.2.1 dX9_append_14 (by decide) (fun c14 => ?_) (fun c14 => ?_)
    · replace hh := hh.1 c14
      exact tX9_append_b49 C hR hh hw (lv_sub hl [0] rfl)
    · replace hh := hh.2 c14
      refine lv_aload_n C.1 C.2.1 dX9_append_17 rfl (lv_at hl 0 rfl) ?_
      refine c_get C hw (inC inW9) (kd_lt kp4 (by decide)) (ce9 kp4) rfl 7 (by decide) (wc w_172) (v := .ref (h 5)) rfl dX9_append_18 ?_
      refine lv_aload_n C.1 C.2.1 dX9_append_21 rfl (lv_at hl 0 rfl) ?_
      refine c_get C hw (inC inW9) (kd_lt kp4 (by decide)) (ce9 kp4) rfl 0 (by decide) (wc w_152) (v := .int (F 4 0)) rfl dX9_append_22 ?_
      refine lv_iload_n C.1 C.2.1 dX9_append_25 rfl (lv_at hl 1 rfl) ?_
      refine lv_iload_n C.1 C.2.1 dX9_append_26 rfl (lv_at hl 2 rfl) ?_
      refine g_iushr C dX9_append_27 ?_
      refine lv_sipush (v := (255 : Int32)) C.1 C.2.1 dX9_append_28 (by decide) ?_
      refine lv_iand C.1 C.2.1 dX9_append_31 ?_
      obtain ⟨hi32, hh⟩ := hh
      refine c_ias C hw (kd_lt kp5 (by decide)) (ce13 kp5) hi32 dX9_append_32 (fun H locs hw => ?_)
      refine lv_aload_n C.1 C.2.1 dX9_append_33 rfl (lv_at hl 0 rfl) ?_
      refine lv_dup C.1 C.2.1 dX9_append_34 rfl ?_
      refine c_get C hw (inC inW9) (kd_lt kp4 (by decide)) (ce9 kp4) rfl 0 (by decide) (wc w_152) (v := .int ((pt F 5 (ix (F 4 0)) ((jushr x1 x2) &&& (255 : Int32))) 4 0)) rfl dX9_append_35 ?_
      refine lv_iconst (v := (1 : Int32)) C.1 C.2.1 dX9_append_38 (by decide) ?_
      refine lv_iadd C.1 C.2.1 dX9_append_39 ?_
      refine c_puti C hw (inC inW9) tyX9 tyX9_ok nmX9 (kd_lt kp4 (by decide)) (ce9 kp4) rfl 0 (by decide) (wc w_152) rfl (ty := .int) (by decide +kernel) rfl rfl (Nat.le_of_ble_eq_true rfl) rfl dX9_append_40 (fun H locs hw => ?_)
      refine lv_iinc (v := x2 + (-8 : Int32)) (lv' := [(2, .int (x2 + (-8 : Int32))), (0, .ref (h 4)), (1, .int x1)]) C.1 C.2.1 dX9_append_43 hl (k := 2) rfl rfl (by decide) rfl (fun ls hl => ?_)
      refine lv_goto (tgt := 3) C.1 C.2.1 dX9_append_46 (by decide) ?_
      exact hB3 _ _ _ _ _ _ _ _ hh hw (lv_sub hl [1, 2, 0] rfl)
def wpX9_append_b3 (n_ : Nat) (F : Nat → Nat → Int32) (L : Nat → Nat → Int64) (r : Nat → Nat → Nat) (x1 : Int32) (x2 : Int32) (K : cS → Prop) : Prop := match n_ with
  | 0 => False
  | n + 1 => wpX9_append_b3_body (fun F L r x1 x2 => wpX9_append_b3 n F L r x1 x2 K) F L r x1 x2 K
theorem tX9_append_b3 {K : cS → Prop} (C : CallFix p m c cX9_append 3 s args wsX9_append RX9) (hR : Rtv p l e rmX9_append s m args below meth c cX9_append D A (cT cI cL cF cM) (cWu h cI cL cF cM) K Q) (n : Nat) : ∀ (F : Nat → Nat → Int32) (L : Nat → Nat → Int64) (r : Nat → Nat → Nat) (x1 : Int32) (x2 : Int32) (H : Heap) (locs : List Loc) (ls : Array Slot), wpX9_append_b3 n F L r x1 x2 K → Wd D A s (cT cI cL cF cM) (cW h cI cL cF cM F L r) H locs → lv_has ls 3 [(0, .ref (h 4)), (1, .int x1), (2, .int x2)] → W p l e rmX9_append s m args below meth c H locs 0 0 Q (F0 m 3 ls []) := by
  induction n with
  | zero => intro F L r x1 x2 H locs ls hh; exact hh.elim
  | succ n ih => intro F L r x1 x2 H locs ls hh hw hl; exact tX9_append_b3_body C hR ih hh hw hl
def wpX9_append_b0 (F : Nat → Nat → Int32) (L : Nat → Nat → Int64) (r : Nat → Nat → Nat) (x1 : Int32) (K : cS → Prop) : Prop :=
  ∃ n, wpX9_append_b3 n F L r x1 (24 : Int32) K
set_option maxHeartbeats 4000000 in
set_option maxRecDepth 100000 in
theorem tX9_append_b0 {K : cS → Prop} (C : CallFix p m c cX9_append 3 s args wsX9_append RX9) (hR : Rtv p l e rmX9_append s m args below meth c cX9_append D A (cT cI cL cF cM) (cWu h cI cL cF cM) K Q) {F : Nat → Nat → Int32} {L : Nat → Nat → Int64} {r : Nat → Nat → Nat} {x1 : Int32} (hh : wpX9_append_b0 F L r x1 K) {H : Heap} {locs : List Loc} {ls : Array Slot} (hw : Wd D A s (cT cI cL cF cM) (cW h cI cL cF cM F L r) H locs) (hl : lv_has ls 3 [(0, .ref (h 4)), (1, .int x1)]) : W p l e rmX9_append s m args below meth c H locs 0 0 Q (F0 m 0 ls []) := by
  unfold wpX9_append_b0 at hh
  refine lv_bipush (v := (24 : Int32)) C.1 C.2.1 dX9_append_0 (by decide) ?_
  refine lv_istore_n (lv' := [(2, .int (24 : Int32)), (0, .ref (h 4)), (1, .int x1)]) C.1 C.2.1 dX9_append_2 rfl hl (by decide) rfl (fun ls hl => ?_)
  obtain ⟨n, hh⟩ := hh
  exact tX9_append_b3 C hR n _ _ _ _ _ _ _ _ hh hw (lv_sub hl [1, 2, 0] rfl)
def wpX9_append (F : Nat → Nat → Int32) (L : Nat → Nat → Int64) (r : Nat → Nat → Nat) (x1 : Int32) (K : cS → Prop) : Prop := wpX9_append_b0 F L r x1 K
theorem ctX9_append (l : Launch) (D : va_G) (h : Nat → Nat) (cI cL cF cM : ClassId) (F : Nat → Nat → Int32) (L : Nat → Nat → Int64) (r : Nat → Nat → Nat) (x1 : Int32) {K : cS → Prop} (hh : wpX9_append F L r x1 K) : Cv l yX9_append wsX9_append rmX9_append [.ref (h 4), .int x1] D (cT cI cL cF cM) (cWu h cI cL cF cM) (F, L, r) K := by
  refine Cv_of (cc := cX9_append) (maxL := 3) (by decide) rfl (Nat.le_of_ble_eq_true rfl) ?_
  intro p e s m below meth c A Q C hw hR ls hl
  exact tX9_append_b0 C hR hh hw hl
theorem cdX9_append : yX9_append.cls = RX9 ∧ yX9_append.cls ≠ "java/lang/invoke/MethodHandle" ∧ yX9_append.cls ≠ "java/lang/invoke/VarHandle" ∧ (parseMethodDescriptor yX9_append.desc).map (fun d => d.parameters.length) = some 1 := by decide +kernel
abbrev rmX10_feed : Room := { frames := 1, cells := 0, slots := 0, locals := 22 }
def wpX10_feed_b0 (F : Nat → Nat → Int32) (L : Nat → Nat → Int64) (r : Nat → Nat → Nat) (x1 : Int32) (x2 : Int32) (x3 : Int32) (x4 : Int32) (x5 : Int32) (K : Int32 → cS → Prop) : Prop :=
  wpX9_hasRoomFor F L r (20 : Int32) (fun r6 u6 =>
    (¬ (r6 = 0) →
    wpX9_append u6.1 u6.2.1 u6.2.2 x1 (fun u19 =>
      wpX9_append u19.1 u19.2.1 u19.2.2 x2 (fun u27 =>
      wpX9_append u27.1 u27.2.1 u27.2.2 x3 (fun u35 =>
      wpX9_append u35.1 u35.2.1 u35.2.2 x4 (fun u44 =>
      wpX9_append u44.1 u44.2.1 u44.2.2 x5 (fun u53 =>
      K (u53.1 4 0) (u53.1, u53.2.1, u53.2.2))))))) ∧
  ((r6 = 0) →
    K (-1 : Int32) (u6.1, u6.2.1, u6.2.2)))
set_option maxHeartbeats 4000000 in
set_option maxRecDepth 100000 in
theorem tX10_feed_b0 {K : Int32 → cS → Prop} (C : CallFix p m c cX10_feed 6 s args wsX10_feed RX10) (hR : Rti .int p l e rmX10_feed s m args below meth c cX10_feed D A (cT cI cL cF cM) (cWu h cI cL cF cM) K Q) {F : Nat → Nat → Int32} {L : Nat → Nat → Int64} {r : Nat → Nat → Nat} {x1 : Int32} {x2 : Int32} {x3 : Int32} {x4 : Int32} {x5 : Int32} (hh : wpX10_feed_b0 F L r x1 x2 x3 x4 x5 K) {H : Heap} {locs : List Loc} {ls : Array Slot} (hw : Wd D A s (cT cI cL cF cM) (cW h cI cL cF cM F L r) H locs) (hl : lv_has ls 6 [(0, .ref (h 0)), (1, .int x1), (2, .int x2), (3, .int x3), (4, .int x4), (5, .int x5)]) : W p l e rmX10_feed s m args below meth c H locs 0 0 Q (F0 m 0 ls []) := by
  unfold wpX10_feed_b0 at hh
  refine lv_aload_n C.1 C.2.1 dX10_feed_0 rfl (lv_at hl 0 rfl) ?_
  refine c_get C hw (inC inW10) (kd_lt kp0 (by decide)) (ce10 kp0) rfl 0 (by decide) (wc w_570) (v := .ref (h 4)) rfl dX10_feed_1 ?_
  refine lv_bipush (v := (20 : Int32)) C.1 C.2.1 dX10_feed_4 (by decide) ?_
  refine c_Vi C hw (ctX9_hasRoomFor l D h cI cL cF cM F L r (20 : Int32) hh) (cwV 1 C.2.2.2.2 (gd_V w_620 w_621 w_622 w_115 w_623) rfl rfl rfl cdX9_hasRoomFor ⟨Nat.le_of_ble_eq_true rfl, Nat.le_of_ble_eq_true rfl⟩) rfl (kd_lt kp4 (by decide)) (ce9 kp4) rfl hl.1 (Nat.le_of_ble_eq_true rfl) dX10_feed_6 ⟨Nat.zero_le _, Nat.zero_le _⟩ (fun r6 u6 H locs hh hw => ?_) rfl
  refine lv_if_ne (tgt := 14) C.1 C.2.1 dX10_feed_9 (by decide) (fun c9 => ?_) (fun c9 => ?_)
  · replace hh := hh.1 c9
    refine lv_aload_n C.1 C.2.1 dX10_feed_14 rfl (lv_at hl 0 rfl) ?_
    refine c_get C hw (inC inW10) (kd_lt kp0 (by decide)) (ce10 kp0) rfl 0 (by decide) (wc w_570) (v := .ref (h 4)) rfl dX10_feed_15 ?_
    refine lv_iload_n C.1 C.2.1 dX10_feed_18 rfl (lv_at hl 1 rfl) ?_
    refine c_Vv C hw (ctX9_append l D h cI cL cF cM u6.1 u6.2.1 u6.2.2 x1 hh) (cwV 1 C.2.2.2.2 (gd_V w_624 w_625 w_626 w_115 w_627) rfl rfl rfl cdX9_append ⟨Nat.le_of_ble_eq_true rfl, Nat.le_of_ble_eq_true rfl⟩) rfl (kd_lt kp4 (by decide)) (ce9 kp4) rfl hl.1 (Nat.le_of_ble_eq_true rfl) dX10_feed_19 ⟨Nat.zero_le _, Nat.zero_le _⟩ (fun u19 H locs hh hw => ?_) rfl
    refine lv_aload_n C.1 C.2.1 dX10_feed_22 rfl (lv_at hl 0 rfl) ?_
    refine c_get C hw (inC inW10) (kd_lt kp0 (by decide)) (ce10 kp0) rfl 0 (by decide) (wc w_570) (v := .ref (h 4)) rfl dX10_feed_23 ?_
    refine lv_iload_n C.1 C.2.1 dX10_feed_26 rfl (lv_at hl 2 rfl) ?_
    refine c_Vv C hw (ctX9_append l D h cI cL cF cM u19.1 u19.2.1 u19.2.2 x2 hh) (cwV 1 C.2.2.2.2 (gd_V w_624 w_625 w_626 w_115 w_627) rfl rfl rfl cdX9_append ⟨Nat.le_of_ble_eq_true rfl, Nat.le_of_ble_eq_true rfl⟩) rfl (kd_lt kp4 (by decide)) (ce9 kp4) rfl hl.1 (Nat.le_of_ble_eq_true rfl) dX10_feed_27 ⟨Nat.zero_le _, Nat.zero_le _⟩ (fun u27 H locs hh hw => ?_) rfl
    refine lv_aload_n C.1 C.2.1 dX10_feed_30 rfl (lv_at hl 0 rfl) ?_
    refine c_get C hw (inC inW10) (kd_lt kp0 (by decide)) (ce10 kp0) rfl 0 (by decide) (wc w_570) (v := .ref (h 4)) rfl dX10_feed_31 ?_
    refine lv_iload_n C.1 C.2.1 dX10_feed_34 rfl (lv_at hl 3 rfl) ?_
    refine c_Vv C hw (ctX9_append l D h cI cL cF cM u27.1 u27.2.1 u27.2.2 x3 hh) (cwV 1 C.2.2.2.2 (gd_V w_624 w_625 w_626 w_115 w_627) rfl rfl rfl cdX9_append ⟨Nat.le_of_ble_eq_true rfl, Nat.le_of_ble_eq_true rfl⟩) rfl (kd_lt kp4 (by decide)) (ce9 kp4) rfl hl.1 (Nat.le_of_ble_eq_true rfl) dX10_feed_35 ⟨Nat.zero_le _, Nat.zero_le _⟩ (fun u35 H locs hh hw => ?_) rfl
    refine lv_aload_n C.1 C.2.1 dX10_feed_38 rfl (lv_at hl 0 rfl) ?_
    refine c_get C hw (inC inW10) (kd_lt kp0 (by decide)) (ce10 kp0) rfl 0 (by decide) (wc w_570) (v := .ref (h 4)) rfl dX10_feed_39 ?_
    refine lv_iload C.1 C.2.1 dX10_feed_42 (lv_at hl 4 rfl) ?_
    refine c_Vv C hw (ctX9_append l D h cI cL cF cM u35.1 u35.2.1 u35.2.2 x4 hh) (cwV 1 C.2.2.2.2 (gd_V w_624 w_625 w_626 w_115 w_627) rfl rfl rfl cdX9_append ⟨Nat.le_of_ble_eq_true rfl, Nat.le_of_ble_eq_true rfl⟩) rfl (kd_lt kp4 (by decide)) (ce9 kp4) rfl hl.1 (Nat.le_of_ble_eq_true rfl) dX10_feed_44 ⟨Nat.zero_le _, Nat.zero_le _⟩ (fun u44 H locs hh hw => ?_) rfl
    refine lv_aload_n C.1 C.2.1 dX10_feed_47 rfl (lv_at hl 0 rfl) ?_
    refine c_get C hw (inC inW10) (kd_lt kp0 (by decide)) (ce10 kp0) rfl 0 (by decide) (wc w_570) (v := .ref (h 4)) rfl dX10_feed_48 ?_
    refine lv_iload C.1 C.2.1 dX10_feed_51 (lv_at hl 5 rfl) ?_
    refine c_Vv C hw (ctX9_append l D h cI cL cF cM u44.1 u44.2.1 u44.2.2 x5 hh) (cwV 1 C.2.2.2.2 (gd_V w_624 w_625 w_626 w_115 w_627) rfl rfl rfl cdX9_append ⟨Nat.le_of_ble_eq_true rfl, Nat.le_of_ble_eq_true rfl⟩) rfl (kd_lt kp4 (by decide)) (ce9 kp4) rfl hl.1 (Nat.le_of_ble_eq_true rfl) dX10_feed_53 ⟨Nat.zero_le _, Nat.zero_le _⟩ (fun u53 H locs hh hw => ?_) rfl
    refine lv_aload_n C.1 C.2.1 dX10_feed_56 rfl (lv_at hl 0 rfl) ?_
    refine c_get C hw (inC inW10) (kd_lt kp0 (by decide)) (ce10 kp0) rfl 0 (by decide) (wc w_570) (v := .ref (h 4)) rfl dX10_feed_57 ?_
    refine c_get C hw (inC inW9) (kd_lt kp4 (by decide)) (ce9 kp4) rfl 0 (by decide) (wc w_153) (v := .int (u53.1 4 0)) rfl dX10_feed_60 ?_
    exact hR _ _ _ (u53.1, u53.2.1, u53.2.2) _ _ dX10_feed_63 rfl hh hw
  · replace hh := hh.2 c9
    refine lv_iconst (v := (-1 : Int32)) C.1 C.2.1 dX10_feed_12 (by decide) ?_
    exact hR _ _ _ (u6.1, u6.2.1, u6.2.2) _ _ dX10_feed_13 rfl hh hw
def wpX10_feed (F : Nat → Nat → Int32) (L : Nat → Nat → Int64) (r : Nat → Nat → Nat) (x1 : Int32) (x2 : Int32) (x3 : Int32) (x4 : Int32) (x5 : Int32) (K : Int32 → cS → Prop) : Prop := wpX10_feed_b0 F L r x1 x2 x3 x4 x5 K
theorem ctX10_feed (l : Launch) (D : va_G) (h : Nat → Nat) (cI cL cF cM : ClassId) (F : Nat → Nat → Int32) (L : Nat → Nat → Int64) (r : Nat → Nat → Nat) (x1 : Int32) (x2 : Int32) (x3 : Int32) (x4 : Int32) (x5 : Int32) {K : Int32 → cS → Prop} (hh : wpX10_feed F L r x1 x2 x3 x4 x5 K) : Ci l yX10_feed wsX10_feed rmX10_feed [.ref (h 0), .int x1, .int x2, .int x3, .int x4, .int x5] D (cT cI cL cF cM) (cWu h cI cL cF cM) (F, L, r) K := by
  refine Ci_of (cc := cX10_feed) (maxL := 6) (by decide) rfl (Nat.le_of_ble_eq_true rfl) ?_
  intro p e s m below meth c A Q C hw hR ls hl
  exact tX10_feed_b0 C hR hh hw hl
theorem cdX10_feed : yX10_feed.cls = RX10 ∧ yX10_feed.cls ≠ "java/lang/invoke/MethodHandle" ∧ yX10_feed.cls ≠ "java/lang/invoke/VarHandle" ∧ (parseMethodDescriptor yX10_feed.desc).map (fun d => d.parameters.length) = some 5 := by decide +kernel
abbrev rmX9_advance : Room := { frames := 0, cells := 0, slots := 0, locals := 0 }
def wpX9_advance_b106 (F : Nat → Nat → Int32) (L : Nat → Nat → Int64) (r : Nat → Nat → Nat) (K : cS → Prop) : Prop :=
  K (F, L, r)
set_option maxHeartbeats 4000000 in
set_option maxRecDepth 100000 in
theorem tX9_advance_b106 {K : cS → Prop} (C : CallFix p m c cX9_advance 1 s args wsX9_advance RX9) (hR : Rtv p l e rmX9_advance s m args below meth c cX9_advance D A (cT cI cL cF cM) (cWu h cI cL cF cM) K Q) {F : Nat → Nat → Int32} {L : Nat → Nat → Int64} {r : Nat → Nat → Nat} (hh : wpX9_advance_b106 F L r K) {H : Heap} {locs : List Loc} {ls : Array Slot} (hw : Wd D A s (cT cI cL cF cM) (cW h cI cL cF cM F L r) H locs) (hl : lv_has ls 1 [(0, .ref (h 4))]) : W p l e rmX9_advance s m args below meth c H locs 0 0 Q (F0 m 106 ls []) := by
  unfold wpX9_advance_b106 at hh
  exact hR _ _ (F, L, r) _ _ dX9_advance_106 hh hw
def wpX9_advance_b83 (F : Nat → Nat → Int32) (L : Nat → Nat → Int64) (r : Nat → Nat → Nat) (K : cS → Prop) : Prop :=
  wpX9_advance_b106 (pt (pt (pt (pt F 4 3 (0 : Int32)) 4 4 ((pt F 4 3 (0 : Int32)) 4 14)) 4 5 (0 : Int32)) 4 6 (-1 : Int32)) L r K
set_option maxHeartbeats 4000000 in
set_option maxRecDepth 100000 in
theorem tX9_advance_b83 {K : cS → Prop} (C : CallFix p m c cX9_advance 1 s args wsX9_advance RX9) (hR : Rtv p l e rmX9_advance s m args below meth c cX9_advance D A (cT cI cL cF cM) (cWu h cI cL cF cM) K Q) {F : Nat → Nat → Int32} {L : Nat → Nat → Int64} {r : Nat → Nat → Nat} (hh : wpX9_advance_b83 F L r K) {H : Heap} {locs : List Loc} {ls : Array Slot} (hw : Wd D A s (cT cI cL cF cM) (cW h cI cL cF cM F L r) H locs) (hl : lv_has ls 1 [(0, .ref (h 4))]) : W p l e rmX9_advance s m args below meth c H locs 0 0 Q (F0 m 83 ls []) := by
  unfold wpX9_advance_b83 at hh
  refine lv_aload_n C.1 C.2.1 dX9_advance_83 rfl (lv_at hl 0 rfl) ?_
  refine lv_iconst (v := (0 : Int32)) C.1 C.2.1 dX9_advance_84 (by decide) ?_
  refine c_puti C hw (inC inW9) tyX9 tyX9_ok nmX9 (kd_lt kp4 (by decide)) (ce9 kp4) rfl 3 (by decide) (wc w_162) rfl (ty := .int) (by decide +kernel) rfl rfl (Nat.le_of_ble_eq_true rfl) rfl dX9_advance_85 (fun H locs hw => ?_)
  refine lv_aload_n C.1 C.2.1 dX9_advance_88 rfl (lv_at hl 0 rfl) ?_
  refine lv_aload_n C.1 C.2.1 dX9_advance_89 rfl (lv_at hl 0 rfl) ?_
  refine c_get C hw (inC inW9) (kd_lt kp4 (by decide)) (ce9 kp4) rfl 14 (by decide) (wc w_179) (v := .int ((pt F 4 3 (0 : Int32)) 4 14)) rfl dX9_advance_90 ?_
  refine c_puti C hw (inC inW9) tyX9 tyX9_ok nmX9 (kd_lt kp4 (by decide)) (ce9 kp4) rfl 4 (by decide) (wc w_165) rfl (ty := .int) (by decide +kernel) rfl rfl (Nat.le_of_ble_eq_true rfl) rfl dX9_advance_93 (fun H locs hw => ?_)
  refine lv_aload_n C.1 C.2.1 dX9_advance_96 rfl (lv_at hl 0 rfl) ?_
  refine lv_iconst (v := (0 : Int32)) C.1 C.2.1 dX9_advance_97 (by decide) ?_
  refine c_puti C hw (inC inW9) tyX9 tyX9_ok nmX9 (kd_lt kp4 (by decide)) (ce9 kp4) rfl 5 (by decide) (wc w_166) rfl (ty := .int) (by decide +kernel) rfl rfl (Nat.le_of_ble_eq_true rfl) rfl dX9_advance_98 (fun H locs hw => ?_)
  refine lv_aload_n C.1 C.2.1 dX9_advance_101 rfl (lv_at hl 0 rfl) ?_
  refine lv_iconst (v := (-1 : Int32)) C.1 C.2.1 dX9_advance_102 (by decide) ?_
  refine c_puti C hw (inC inW9) tyX9 tyX9_ok nmX9 (kd_lt kp4 (by decide)) (ce9 kp4) rfl 6 (by decide) (wc w_169) rfl (ty := .int) (by decide +kernel) rfl rfl (Nat.le_of_ble_eq_true rfl) rfl dX9_advance_103 (fun H locs hw => ?_)
  exact tX9_advance_b106 C hR hh hw hl
def wpX9_advance_b0 (F : Nat → Nat → Int32) (L : Nat → Nat → Int64) (r : Nat → Nat → Nat) (K : cS → Prop) : Prop :=
  (((F 4 13) < 0) →
    wpX9_advance_b83 F L r K) ∧
  (¬ ((F 4 13) < 0) →
    (((F 4 12) ≤ (F 4 13)) →
      wpX9_advance_b83 F L r K) ∧
    (¬ ((F 4 12) ≤ (F 4 13)) →
      vp_in (F 4 13) 501 ∧ vp_in ((pt F 4 3 (F 6 (ix (F 4 13)))) 4 13) 501 ∧ vp_in ((pt (pt F 4 3 (F 6 (ix (F 4 13)))) 4 4 ((pt F 4 3 (F 6 (ix (F 4 13)))) 7 (ix ((pt F 4 3 (F 6 (ix (F 4 13)))) 4 13)))) 4 13) 501 ∧ vp_in ((pt (pt (pt F 4 3 (F 6 (ix (F 4 13)))) 4 4 ((pt F 4 3 (F 6 (ix (F 4 13)))) 7 (ix ((pt F 4 3 (F 6 (ix (F 4 13)))) 4 13)))) 4 5 ((pt (pt F 4 3 (F 6 (ix (F 4 13)))) 4 4 ((pt F 4 3 (F 6 (ix (F 4 13)))) 7 (ix ((pt F 4 3 (F 6 (ix (F 4 13)))) 4 13)))) 8 (ix ((pt (pt F 4 3 (F 6 (ix (F 4 13)))) 4 4 ((pt F 4 3 (F 6 (ix (F 4 13)))) 7 (ix ((pt F 4 3 (F 6 (ix (F 4 13)))) 4 13)))) 4 13)))) 4 13) 501 ∧ wpX9_advance_b106 (pt (pt (pt (pt (pt F 4 3 (F 6 (ix (F 4 13)))) 4 4 ((pt F 4 3 (F 6 (ix (F 4 13)))) 7 (ix ((pt F 4 3 (F 6 (ix (F 4 13)))) 4 13)))) 4 5 ((pt (pt F 4 3 (F 6 (ix (F 4 13)))) 4 4 ((pt F 4 3 (F 6 (ix (F 4 13)))) 7 (ix ((pt F 4 3 (F 6 (ix (F 4 13)))) 4 13)))) 8 (ix ((pt (pt F 4 3 (F 6 (ix (F 4 13)))) 4 4 ((pt F 4 3 (F 6 (ix (F 4 13)))) 7 (ix ((pt F 4 3 (F 6 (ix (F 4 13)))) 4 13)))) 4 13)))) 4 6 ((pt (pt (pt F 4 3 (F 6 (ix (F 4 13)))) 4 4 ((pt F 4 3 (F 6 (ix (F 4 13)))) 7 (ix ((pt F 4 3 (F 6 (ix (F 4 13)))) 4 13)))) 4 5 ((pt (pt F 4 3 (F 6 (ix (F 4 13)))) 4 4 ((pt F 4 3 (F 6 (ix (F 4 13)))) 7 (ix ((pt F 4 3 (F 6 (ix (F 4 13)))) 4 13)))) 8 (ix ((pt (pt F 4 3 (F 6 (ix (F 4 13)))) 4 4 ((pt F 4 3 (F 6 (ix (F 4 13)))) 7 (ix ((pt F 4 3 (F 6 (ix (F 4 13)))) 4 13)))) 4 13)))) 9 (ix ((pt (pt (pt F 4 3 (F 6 (ix (F 4 13)))) 4 4 ((pt F 4 3 (F 6 (ix (F 4 13)))) 7 (ix ((pt F 4 3 (F 6 (ix (F 4 13)))) 4 13)))) 4 5 ((pt (pt F 4 3 (F 6 (ix (F 4 13)))) 4 4 ((pt F 4 3 (F 6 (ix (F 4 13)))) 7 (ix ((pt F 4 3 (F 6 (ix (F 4 13)))) 4 13)))) 8 (ix ((pt (pt F 4 3 (F 6 (ix (F 4 13)))) 4 4 ((pt F 4 3 (F 6 (ix (F 4 13)))) 7 (ix ((pt F 4 3 (F 6 (ix (F 4 13)))) 4 13)))) 4 13)))) 4 13)))) 4 13 (((pt (pt (pt (pt F 4 3 (F 6 (ix (F 4 13)))) 4 4 ((pt F 4 3 (F 6 (ix (F 4 13)))) 7 (ix ((pt F 4 3 (F 6 (ix (F 4 13)))) 4 13)))) 4 5 ((pt (pt F 4 3 (F 6 (ix (F 4 13)))) 4 4 ((pt F 4 3 (F 6 (ix (F 4 13)))) 7 (ix ((pt F 4 3 (F 6 (ix (F 4 13)))) 4 13)))) 8 (ix ((pt (pt F 4 3 (F 6 (ix (F 4 13)))) 4 4 ((pt F 4 3 (F 6 (ix (F 4 13)))) 7 (ix ((pt F 4 3 (F 6 (ix (F 4 13)))) 4 13)))) 4 13)))) 4 6 ((pt (pt (pt F 4 3 (F 6 (ix (F 4 13)))) 4 4 ((pt F 4 3 (F 6 (ix (F 4 13)))) 7 (ix ((pt F 4 3 (F 6 (ix (F 4 13)))) 4 13)))) 4 5 ((pt (pt F 4 3 (F 6 (ix (F 4 13)))) 4 4 ((pt F 4 3 (F 6 (ix (F 4 13)))) 7 (ix ((pt F 4 3 (F 6 (ix (F 4 13)))) 4 13)))) 8 (ix ((pt (pt F 4 3 (F 6 (ix (F 4 13)))) 4 4 ((pt F 4 3 (F 6 (ix (F 4 13)))) 7 (ix ((pt F 4 3 (F 6 (ix (F 4 13)))) 4 13)))) 4 13)))) 9 (ix ((pt (pt (pt F 4 3 (F 6 (ix (F 4 13)))) 4 4 ((pt F 4 3 (F 6 (ix (F 4 13)))) 7 (ix ((pt F 4 3 (F 6 (ix (F 4 13)))) 4 13)))) 4 5 ((pt (pt F 4 3 (F 6 (ix (F 4 13)))) 4 4 ((pt F 4 3 (F 6 (ix (F 4 13)))) 7 (ix ((pt F 4 3 (F 6 (ix (F 4 13)))) 4 13)))) 8 (ix ((pt (pt F 4 3 (F 6 (ix (F 4 13)))) 4 4 ((pt F 4 3 (F 6 (ix (F 4 13)))) 7 (ix ((pt F 4 3 (F 6 (ix (F 4 13)))) 4 13)))) 4 13)))) 4 13)))) 4 13) + (1 : Int32))) L r K))
set_option maxHeartbeats 4000000 in
set_option maxRecDepth 100000 in
theorem tX9_advance_b0 {K : cS → Prop} (C : CallFix p m c cX9_advance 1 s args wsX9_advance RX9) (hR : Rtv p l e rmX9_advance s m args below meth c cX9_advance D A (cT cI cL cF cM) (cWu h cI cL cF cM) K Q) {F : Nat → Nat → Int32} {L : Nat → Nat → Int64} {r : Nat → Nat → Nat} (hh : wpX9_advance_b0 F L r K) {H : Heap} {locs : List Loc} {ls : Array Slot} (hw : Wd D A s (cT cI cL cF cM) (cW h cI cL cF cM F L r) H locs) (hl : lv_has ls 1 [(0, .ref (h 4))]) : W p l e rmX9_advance s m args below meth c H locs 0 0 Q (F0 m 0 ls []) := by
  unfold wpX9_advance_b0 at hh
  refine lv_aload_n C.1 C.2.1 dX9_advance_0 rfl (lv_at hl 0 rfl) ?_
  refine c_get C hw (inC inW9) (kd_lt kp4 (by decide)) (ce9 kp4) rfl 13 (by decide) (wc w_178) (v := .int (F 4 13)) rfl dX9_advance_1 ?_
  refine lv_if_lt (tgt := 83) C.1 C.2.1 dX9_advance_4 (by decide) (fun c4 => ?_) (fun c4 => ?_)
  · replace hh := hh.1 c4
    exact tX9_advance_b83 C hR hh hw hl
  · replace hh := hh.2 c4
    refine lv_aload_n C.1 C.2.1 dX9_advance_7 rfl (lv_at hl 0 rfl) ?_
    refine c_get C hw (inC inW9) (kd_lt kp4 (by decide)) (ce9 kp4) rfl 13 (by decide) (wc w_178) (v := .int (F 4 13)) rfl dX9_advance_8 ?_
    refine lv_aload_n C.1 C.2.1 dX9_advance_11 rfl (lv_at hl 0 rfl) ?_
    refine c_get C hw (inC inW9) (kd_lt kp4 (by decide)) (ce9 kp4) rfl 12 (by decide) (wc w_177) (v := .int (F 4 12)) rfl dX9_advance_12 ?_
    refine lv_icmp_ge (tgt := 83) C.1 C.2.1 dX9_advance_15 (by decide) (fun c15 => ?_) (fun c15 => ?_)
    · replace hh := hh.1 c15
      exact tX9_advance_b83 C hR hh hw hl
    · replace hh := hh.2 c15
      refine lv_aload_n C.1 C.2.1 dX9_advance_18 rfl (lv_at hl 0 rfl) ?_
      refine lv_aload_n C.1 C.2.1 dX9_advance_19 rfl (lv_at hl 0 rfl) ?_
      refine c_get C hw (inC inW9) (kd_lt kp4 (by decide)) (ce9 kp4) rfl 8 (by decide) (wc w_173) (v := .ref (h 6)) rfl dX9_advance_20 ?_
      refine lv_aload_n C.1 C.2.1 dX9_advance_23 rfl (lv_at hl 0 rfl) ?_
      refine c_get C hw (inC inW9) (kd_lt kp4 (by decide)) (ce9 kp4) rfl 13 (by decide) (wc w_178) (v := .int (F 4 13)) rfl dX9_advance_24 ?_
      obtain ⟨hi27, hh⟩ := hh
      refine c_ial C hw (kd_lt kp6 (by decide)) (ce14 kp6) hi27 dX9_advance_27 ?_
      refine c_puti C hw (inC inW9) tyX9 tyX9_ok nmX9 (kd_lt kp4 (by decide)) (ce9 kp4) rfl 3 (by decide) (wc w_162) rfl (ty := .int) (by decide +kernel) rfl rfl (Nat.le_of_ble_eq_true rfl) rfl dX9_advance_28 (fun H locs hw => ?_)
      refine lv_aload_n C.1 C.2.1 dX9_advance_31 rfl (lv_at hl 0 rfl) ?_
      refine lv_aload_n C.1 C.2.1 dX9_advance_32 rfl (lv_at hl 0 rfl) ?_
      refine c_get C hw (inC inW9) (kd_lt kp4 (by decide)) (ce9 kp4) rfl 9 (by decide) (wc w_174) (v := .ref (h 7)) rfl dX9_advance_33 ?_
      refine lv_aload_n C.1 C.2.1 dX9_advance_36 rfl (lv_at hl 0 rfl) ?_
      refine c_get C hw (inC inW9) (kd_lt kp4 (by decide)) (ce9 kp4) rfl 13 (by decide) (wc w_178) (v := .int ((pt F 4 3 (F 6 (ix (F 4 13)))) 4 13)) rfl dX9_advance_37 ?_
      obtain ⟨hi40, hh⟩ := hh
      refine c_ial C hw (kd_lt kp7 (by decide)) (ce14 kp7) hi40 dX9_advance_40 ?_
      refine c_puti C hw (inC inW9) tyX9 tyX9_ok nmX9 (kd_lt kp4 (by decide)) (ce9 kp4) rfl 4 (by decide) (wc w_165) rfl (ty := .int) (by decide +kernel) rfl rfl (Nat.le_of_ble_eq_true rfl) rfl dX9_advance_41 (fun H locs hw => ?_)
      refine lv_aload_n C.1 C.2.1 dX9_advance_44 rfl (lv_at hl 0 rfl) ?_
      refine lv_aload_n C.1 C.2.1 dX9_advance_45 rfl (lv_at hl 0 rfl) ?_
      refine c_get C hw (inC inW9) (kd_lt kp4 (by decide)) (ce9 kp4) rfl 10 (by decide) (wc w_175) (v := .ref (h 8)) rfl dX9_advance_46 ?_
      refine lv_aload_n C.1 C.2.1 dX9_advance_49 rfl (lv_at hl 0 rfl) ?_
      refine c_get C hw (inC inW9) (kd_lt kp4 (by decide)) (ce9 kp4) rfl 13 (by decide) (wc w_178) (v := .int ((pt (pt F 4 3 (F 6 (ix (F 4 13)))) 4 4 ((pt F 4 3 (F 6 (ix (F 4 13)))) 7 (ix ((pt F 4 3 (F 6 (ix (F 4 13)))) 4 13)))) 4 13)) rfl dX9_advance_50 ?_
      obtain ⟨hi53, hh⟩ := hh
      refine c_ial C hw (kd_lt kp8 (by decide)) (ce14 kp8) hi53 dX9_advance_53 ?_
      refine c_puti C hw (inC inW9) tyX9 tyX9_ok nmX9 (kd_lt kp4 (by decide)) (ce9 kp4) rfl 5 (by decide) (wc w_166) rfl (ty := .int) (by decide +kernel) rfl rfl (Nat.le_of_ble_eq_true rfl) rfl dX9_advance_54 (fun H locs hw => ?_)
      refine lv_aload_n C.1 C.2.1 dX9_advance_57 rfl (lv_at hl 0 rfl) ?_
      refine lv_aload_n C.1 C.2.1 dX9_advance_58 rfl (lv_at hl 0 rfl) ?_
      refine c_get C hw (inC inW9) (kd_lt kp4 (by decide)) (ce9 kp4) rfl 11 (by decide) (wc w_176) (v := .ref (h 9)) rfl dX9_advance_59 ?_
      refine lv_aload_n C.1 C.2.1 dX9_advance_62 rfl (lv_at hl 0 rfl) ?_
      refine c_get C hw (inC inW9) (kd_lt kp4 (by decide)) (ce9 kp4) rfl 13 (by decide) (wc w_178) (v := .int ((pt (pt (pt F 4 3 (F 6 (ix (F 4 13)))) 4 4 ((pt F 4 3 (F 6 (ix (F 4 13)))) 7 (ix ((pt F 4 3 (F 6 (ix (F 4 13)))) 4 13)))) 4 5 ((pt (pt F 4 3 (F 6 (ix (F 4 13)))) 4 4 ((pt F 4 3 (F 6 (ix (F 4 13)))) 7 (ix ((pt F 4 3 (F 6 (ix (F 4 13)))) 4 13)))) 8 (ix ((pt (pt F 4 3 (F 6 (ix (F 4 13)))) 4 4 ((pt F 4 3 (F 6 (ix (F 4 13)))) 7 (ix ((pt F 4 3 (F 6 (ix (F 4 13)))) 4 13)))) 4 13)))) 4 13)) rfl dX9_advance_63 ?_
      obtain ⟨hi66, hh⟩ := hh
      refine c_ial C hw (kd_lt kp9 (by decide)) (ce14 kp9) hi66 dX9_advance_66 ?_
      refine c_puti C hw (inC inW9) tyX9 tyX9_ok nmX9 (kd_lt kp4 (by decide)) (ce9 kp4) rfl 6 (by decide) (wc w_169) rfl (ty := .int) (by decide +kernel) rfl rfl (Nat.le_of_ble_eq_true rfl) rfl dX9_advance_67 (fun H locs hw => ?_)
      refine lv_aload_n C.1 C.2.1 dX9_advance_70 rfl (lv_at hl 0 rfl) ?_
      refine lv_dup C.1 C.2.1 dX9_advance_71 rfl ?_
      refine c_get C hw (inC inW9) (kd_lt kp4 (by decide)) (ce9 kp4) rfl 13 (by decide) (wc w_178) (v := .int ((pt (pt (pt (pt F 4 3 (F 6 (ix (F 4 13)))) 4 4 ((pt F 4 3 (F 6 (ix (F 4 13)))) 7 (ix ((pt F 4 3 (F 6 (ix (F 4 13)))) 4 13)))) 4 5 ((pt (pt F 4 3 (F 6 (ix (F 4 13)))) 4 4 ((pt F 4 3 (F 6 (ix (F 4 13)))) 7 (ix ((pt F 4 3 (F 6 (ix (F 4 13)))) 4 13)))) 8 (ix ((pt (pt F 4 3 (F 6 (ix (F 4 13)))) 4 4 ((pt F 4 3 (F 6 (ix (F 4 13)))) 7 (ix ((pt F 4 3 (F 6 (ix (F 4 13)))) 4 13)))) 4 13)))) 4 6 ((pt (pt (pt F 4 3 (F 6 (ix (F 4 13)))) 4 4 ((pt F 4 3 (F 6 (ix (F 4 13)))) 7 (ix ((pt F 4 3 (F 6 (ix (F 4 13)))) 4 13)))) 4 5 ((pt (pt F 4 3 (F 6 (ix (F 4 13)))) 4 4 ((pt F 4 3 (F 6 (ix (F 4 13)))) 7 (ix ((pt F 4 3 (F 6 (ix (F 4 13)))) 4 13)))) 8 (ix ((pt (pt F 4 3 (F 6 (ix (F 4 13)))) 4 4 ((pt F 4 3 (F 6 (ix (F 4 13)))) 7 (ix ((pt F 4 3 (F 6 (ix (F 4 13)))) 4 13)))) 4 13)))) 9 (ix ((pt (pt (pt F 4 3 (F 6 (ix (F 4 13)))) 4 4 ((pt F 4 3 (F 6 (ix (F 4 13)))) 7 (ix ((pt F 4 3 (F 6 (ix (F 4 13)))) 4 13)))) 4 5 ((pt (pt F 4 3 (F 6 (ix (F 4 13)))) 4 4 ((pt F 4 3 (F 6 (ix (F 4 13)))) 7 (ix ((pt F 4 3 (F 6 (ix (F 4 13)))) 4 13)))) 8 (ix ((pt (pt F 4 3 (F 6 (ix (F 4 13)))) 4 4 ((pt F 4 3 (F 6 (ix (F 4 13)))) 7 (ix ((pt F 4 3 (F 6 (ix (F 4 13)))) 4 13)))) 4 13)))) 4 13)))) 4 13)) rfl dX9_advance_72 ?_
      refine lv_iconst (v := (1 : Int32)) C.1 C.2.1 dX9_advance_75 (by decide) ?_
      refine lv_iadd C.1 C.2.1 dX9_advance_76 ?_
      refine c_puti C hw (inC inW9) tyX9 tyX9_ok nmX9 (kd_lt kp4 (by decide)) (ce9 kp4) rfl 13 (by decide) (wc w_178) rfl (ty := .int) (by decide +kernel) rfl rfl (Nat.le_of_ble_eq_true rfl) rfl dX9_advance_77 (fun H locs hw => ?_)
      refine lv_goto (tgt := 106) C.1 C.2.1 dX9_advance_80 (by decide) ?_
      exact tX9_advance_b106 C hR hh hw hl
def wpX9_advance (F : Nat → Nat → Int32) (L : Nat → Nat → Int64) (r : Nat → Nat → Nat) (K : cS → Prop) : Prop := wpX9_advance_b0 F L r K
theorem ctX9_advance (l : Launch) (D : va_G) (h : Nat → Nat) (cI cL cF cM : ClassId) (F : Nat → Nat → Int32) (L : Nat → Nat → Int64) (r : Nat → Nat → Nat) {K : cS → Prop} (hh : wpX9_advance F L r K) : Cv l yX9_advance wsX9_advance rmX9_advance [.ref (h 4)] D (cT cI cL cF cM) (cWu h cI cL cF cM) (F, L, r) K := by
  refine Cv_of (cc := cX9_advance) (maxL := 1) (by decide) rfl (Nat.le_of_ble_eq_true rfl) ?_
  intro p e s m below meth c A Q C hw hR ls hl
  exact tX9_advance_b0 C hR hh hw hl
theorem cdX9_advance : yX9_advance.cls = RX9 ∧ yX9_advance.cls ≠ "java/lang/invoke/MethodHandle" ∧ yX9_advance.cls ≠ "java/lang/invoke/VarHandle" ∧ (parseMethodDescriptor yX9_advance.desc).map (fun d => d.parameters.length) = some 0 := by decide +kernel
abbrev rmX9_open : Room := { frames := 1, cells := 0, slots := 0, locals := 20 }
def wpX9_open_b66 (z2 : Nat) (F : Nat → Nat → Int32) (L : Nat → Nat → Int64) (r : Nat → Nat → Nat) (K : cS → Prop) : Prop :=
  wpX9_advance F L r (fun u67 =>
    K (u67.1, u67.2.1, u67.2.2))
set_option maxHeartbeats 4000000 in
set_option maxRecDepth 100000 in
theorem tX9_open_b66 {z2 : Nat} {K : cS → Prop} (C : CallFix p m c cX9_open 4 s args wsX9_open RX9) (hR : Rtv p l e rmX9_open s m args below meth c cX9_open D A (cT cI cL cF cM) (cWu h cI cL cF cM) K Q) {F : Nat → Nat → Int32} {L : Nat → Nat → Int64} {r : Nat → Nat → Nat} (hh : wpX9_open_b66 z2 F L r K) {H : Heap} {locs : List Loc} {ls : Array Slot} (hw : Wd D A s (cT cI cL cF cM) (cW h cI cL cF cM F L r) H locs) (hl : lv_has ls 4 [(0, .ref (h 4))]) : W p l e rmX9_open s m args below meth c H locs 0 0 Q (F0 m 66 ls []) := by
  unfold wpX9_open_b66 at hh
  refine lv_aload_n C.1 C.2.1 dX9_open_66 rfl (lv_at hl 0 rfl) ?_
  refine c_Vv C hw (ctX9_advance l D h cI cL cF cM F L r hh) (cwV 0 C.2.2.2.2 (gd_V w_727 w_728 w_729 w_115 w_730) rfl rfl rfl cdX9_advance ⟨Nat.le_of_ble_eq_true rfl, Nat.le_of_ble_eq_true rfl⟩) rfl (kd_lt kp4 (by decide)) (ce9 kp4) rfl hl.1 (Nat.le_of_ble_eq_true rfl) dX9_open_67 ⟨Nat.zero_le _, Nat.zero_le _⟩ (fun u67 H locs hh hw => ?_) rfl
  exact hR _ _ (u67.1, u67.2.1, u67.2.2) _ _ dX9_open_70 hh hw
def wpX9_open_b37_body (B37 : (Nat → Nat → Int32) → (Nat → Nat → Int64) → (Nat → Nat → Nat) → Int32 → Prop) (z2 : Nat) (F : Nat → Nat → Int32) (L : Nat → Nat → Int64) (r : Nat → Nat → Nat) (x3 : Int32) (K : cS → Prop) : Prop :=
  (((500 : Int32) ≤ x3) →
    wpX9_open_b66 z2 F L r K) ∧
  (¬ ((500 : Int32) ≤ x3) →
    (((F 4 14) ≤ (F 4 15)) →
      wpX9_open_b66 z2 F L r K) ∧
    (¬ ((F 4 14) ≤ (F 4 15)) →
      False))
set_option maxHeartbeats 4000000 in
set_option maxRecDepth 100000 in
theorem tX9_open_b37_body {z2 : Nat} {B37 : (Nat → Nat → Int32) → (Nat → Nat → Int64) → (Nat → Nat → Nat) → Int32 → Prop} {K : cS → Prop} (C : CallFix p m c cX9_open 4 s args wsX9_open RX9) (hR : Rtv p l e rmX9_open s m args below meth c cX9_open D A (cT cI cL cF cM) (cWu h cI cL cF cM) K Q) (hB37 : ∀ (F : Nat → Nat → Int32) (L : Nat → Nat → Int64) (r : Nat → Nat → Nat) (x3 : Int32) (H : Heap) (locs : List Loc) (ls : Array Slot), B37 F L r x3 → Wd D A s (cT cI cL cF cM) (cW h cI cL cF cM F L r) H locs → lv_has ls 4 [(0, .ref (h 4)), (2, .ref z2), (3, .int x3)] → W p l e rmX9_open s m args below meth c H locs 0 0 Q (F0 m 37 ls [])) {F : Nat → Nat → Int32} {L : Nat → Nat → Int64} {r : Nat → Nat → Nat} {x3 : Int32} (hh : wpX9_open_b37_body B37 z2 F L r x3 K) {H : Heap} {locs : List Loc} {ls : Array Slot} (hw : Wd D A s (cT cI cL cF cM) (cW h cI cL cF cM F L r) H locs) (hl : lv_has ls 4 [(0, .ref (h 4)), (2, .ref z2), (3, .int x3)]) : W p l e rmX9_open s m args below meth c H locs 0 0 Q (F0 m 37 ls []) := by
  unfold wpX9_open_b37_body at hh
  refine lv_iload_n C.1 C.2.1 dX9_open_37 rfl (lv_at hl 2 rfl) ?_
  refine lv_sipush (v := (500 : Int32)) C.1 C.2.1 dX9_open_38 (by decide) ?_
  refine lv_icmp_ge (tgt := 66) C.1 C.2.1 dX9_open_41 (by decide) (fun c41 => ?_) (fun c41 => ?_)
  · replace hh := hh.1 c41
    exact tX9_open_b66 C hR hh hw (lv_sub hl [0] rfl)
  · replace hh := hh.2 c41
    refine lv_aload_n C.1 C.2.1 dX9_open_44 rfl (lv_at hl 0 rfl) ?_
    refine c_get C hw (inC inW9) (kd_lt kp4 (by decide)) (ce9 kp4) rfl 15 (by decide) (wc w_180) (v := .int (F 4 15)) rfl dX9_open_45 ?_
    refine lv_aload_n C.1 C.2.1 dX9_open_48 rfl (lv_at hl 0 rfl) ?_
    refine c_get C hw (inC inW9) (kd_lt kp4 (by decide)) (ce9 kp4) rfl 14 (by decide) (wc w_179) (v := .int (F 4 14)) rfl dX9_open_49 ?_
    refine lv_icmp_ge (tgt := 66) C.1 C.2.1 dX9_open_52 (by decide) (fun c52 => ?_) (fun c52 => ?_)
    · replace hh := hh.1 c52
      exact tX9_open_b66 C hR hh hw (lv_sub hl [0] rfl)
    · replace hh := hh.2 c52
      refine lv_aload_n C.1 C.2.1 dX9_open_55 rfl (lv_at hl 0 rfl) ?_
      refine lv_aload_n C.1 C.2.1 dX9_open_56 rfl (lv_at hl 1 rfl) ?_
      exact hh.elim
def wpX9_open_b37 (z2 : Nat) (n_ : Nat) (F : Nat → Nat → Int32) (L : Nat → Nat → Int64) (r : Nat → Nat → Nat) (x3 : Int32) (K : cS → Prop) : Prop := match n_ with
  | 0 => False
  | n + 1 => wpX9_open_b37_body (fun F L r x3 => wpX9_open_b37 z2 n F L r x3 K) z2 F L r x3 K
theorem tX9_open_b37 {z2 : Nat} {K : cS → Prop} (C : CallFix p m c cX9_open 4 s args wsX9_open RX9) (hR : Rtv p l e rmX9_open s m args below meth c cX9_open D A (cT cI cL cF cM) (cWu h cI cL cF cM) K Q) (n : Nat) : ∀ (F : Nat → Nat → Int32) (L : Nat → Nat → Int64) (r : Nat → Nat → Nat) (x3 : Int32) (H : Heap) (locs : List Loc) (ls : Array Slot), wpX9_open_b37 z2 n F L r x3 K → Wd D A s (cT cI cL cF cM) (cW h cI cL cF cM F L r) H locs → lv_has ls 4 [(0, .ref (h 4)), (2, .ref z2), (3, .int x3)] → W p l e rmX9_open s m args below meth c H locs 0 0 Q (F0 m 37 ls []) := by
  induction n with
  | zero => intro F L r x3 H locs ls hh; exact hh.elim
  | succ n ih => intro F L r x3 H locs ls hh hw hl; exact tX9_open_b37_body C hR ih hh hw hl
def wpX9_open_b0 (z2 : Nat) (F : Nat → Nat → Int32) (L : Nat → Nat → Int64) (r : Nat → Nat → Nat) (x1 : Int32) (K : cS → Prop) : Prop :=
  ∃ n, wpX9_open_b37 z2 n (pt (pt (pt (pt (pt (pt (pt F 4 14 x1) 4 15 (0 : Int32)) 4 12 (0 : Int32)) 4 13 (0 : Int32)) 4 0 (0 : Int32)) 4 1 (0 : Int32)) 4 2 (-1 : Int32)) L r (0 : Int32) K
set_option maxHeartbeats 4000000 in
set_option maxRecDepth 100000 in
theorem tX9_open_b0 {z2 : Nat} {K : cS → Prop} (C : CallFix p m c cX9_open 4 s args wsX9_open RX9) (hR : Rtv p l e rmX9_open s m args below meth c cX9_open D A (cT cI cL cF cM) (cWu h cI cL cF cM) K Q) {F : Nat → Nat → Int32} {L : Nat → Nat → Int64} {r : Nat → Nat → Nat} {x1 : Int32} (hh : wpX9_open_b0 z2 F L r x1 K) {H : Heap} {locs : List Loc} {ls : Array Slot} (hw : Wd D A s (cT cI cL cF cM) (cW h cI cL cF cM F L r) H locs) (hl : lv_has ls 4 [(0, .ref (h 4)), (1, .int x1), (2, .ref z2)]) : W p l e rmX9_open s m args below meth c H locs 0 0 Q (F0 m 0 ls []) := by
  unfold wpX9_open_b0 at hh
  refine lv_aload_n C.1 C.2.1 dX9_open_0 rfl (lv_at hl 0 rfl) ?_
  refine lv_iload_n C.1 C.2.1 dX9_open_1 rfl (lv_at hl 1 rfl) ?_
  refine c_puti C hw (inC inW9) tyX9 tyX9_ok nmX9 (kd_lt kp4 (by decide)) (ce9 kp4) rfl 14 (by decide) (wc w_179) rfl (ty := .int) (by decide +kernel) rfl rfl (Nat.le_of_ble_eq_true rfl) rfl dX9_open_2 (fun H locs hw => ?_)
  refine lv_aload_n C.1 C.2.1 dX9_open_5 rfl (lv_at hl 0 rfl) ?_
  refine lv_iconst (v := (0 : Int32)) C.1 C.2.1 dX9_open_6 (by decide) ?_
  refine c_puti C hw (inC inW9) tyX9 tyX9_ok nmX9 (kd_lt kp4 (by decide)) (ce9 kp4) rfl 15 (by decide) (wc w_180) rfl (ty := .int) (by decide +kernel) rfl rfl (Nat.le_of_ble_eq_true rfl) rfl dX9_open_7 (fun H locs hw => ?_)
  refine lv_aload_n C.1 C.2.1 dX9_open_10 rfl (lv_at hl 0 rfl) ?_
  refine lv_iconst (v := (0 : Int32)) C.1 C.2.1 dX9_open_11 (by decide) ?_
  refine c_puti C hw (inC inW9) tyX9 tyX9_ok nmX9 (kd_lt kp4 (by decide)) (ce9 kp4) rfl 12 (by decide) (wc w_177) rfl (ty := .int) (by decide +kernel) rfl rfl (Nat.le_of_ble_eq_true rfl) rfl dX9_open_12 (fun H locs hw => ?_)
  refine lv_aload_n C.1 C.2.1 dX9_open_15 rfl (lv_at hl 0 rfl) ?_
  refine lv_iconst (v := (0 : Int32)) C.1 C.2.1 dX9_open_16 (by decide) ?_
  refine c_puti C hw (inC inW9) tyX9 tyX9_ok nmX9 (kd_lt kp4 (by decide)) (ce9 kp4) rfl 13 (by decide) (wc w_178) rfl (ty := .int) (by decide +kernel) rfl rfl (Nat.le_of_ble_eq_true rfl) rfl dX9_open_17 (fun H locs hw => ?_)
  refine lv_aload_n C.1 C.2.1 dX9_open_20 rfl (lv_at hl 0 rfl) ?_
  refine lv_iconst (v := (0 : Int32)) C.1 C.2.1 dX9_open_21 (by decide) ?_
  refine c_puti C hw (inC inW9) tyX9 tyX9_ok nmX9 (kd_lt kp4 (by decide)) (ce9 kp4) rfl 0 (by decide) (wc w_152) rfl (ty := .int) (by decide +kernel) rfl rfl (Nat.le_of_ble_eq_true rfl) rfl dX9_open_22 (fun H locs hw => ?_)
  refine lv_aload_n C.1 C.2.1 dX9_open_25 rfl (lv_at hl 0 rfl) ?_
  refine lv_iconst (v := (0 : Int32)) C.1 C.2.1 dX9_open_26 (by decide) ?_
  refine c_puti C hw (inC inW9) tyX9 tyX9_ok nmX9 (kd_lt kp4 (by decide)) (ce9 kp4) rfl 1 (by decide) (wc w_156) rfl (ty := .int) (by decide +kernel) rfl rfl (Nat.le_of_ble_eq_true rfl) rfl dX9_open_27 (fun H locs hw => ?_)
  refine lv_aload_n C.1 C.2.1 dX9_open_30 rfl (lv_at hl 0 rfl) ?_
  refine lv_iconst (v := (-1 : Int32)) C.1 C.2.1 dX9_open_31 (by decide) ?_
  refine c_puti C hw (inC inW9) tyX9 tyX9_ok nmX9 (kd_lt kp4 (by decide)) (ce9 kp4) rfl 2 (by decide) (wc w_158) rfl (ty := .int) (by decide +kernel) rfl rfl (Nat.le_of_ble_eq_true rfl) rfl dX9_open_32 (fun H locs hw => ?_)
  refine lv_iconst (v := (0 : Int32)) C.1 C.2.1 dX9_open_35 (by decide) ?_
  refine lv_istore_n (lv' := [(3, .int (0 : Int32)), (0, .ref (h 4)), (1, .int x1), (2, .ref z2)]) C.1 C.2.1 dX9_open_36 rfl hl (by decide) rfl (fun ls hl => ?_)
  obtain ⟨n, hh⟩ := hh
  exact tX9_open_b37 C hR n _ _ _ _ _ _ _ hh hw (lv_sub hl [1, 3, 0] rfl)
def wpX9_open (z2 : Nat) (F : Nat → Nat → Int32) (L : Nat → Nat → Int64) (r : Nat → Nat → Nat) (x1 : Int32) (K : cS → Prop) : Prop := wpX9_open_b0 z2 F L r x1 K
theorem ctX9_open (l : Launch) (D : va_G) (h : Nat → Nat) (cI cL cF cM : ClassId) (z2 : Nat) (F : Nat → Nat → Int32) (L : Nat → Nat → Int64) (r : Nat → Nat → Nat) (x1 : Int32) {K : cS → Prop} (hh : wpX9_open z2 F L r x1 K) : Cv l yX9_open wsX9_open rmX9_open [.ref (h 4), .int x1, .ref z2] D (cT cI cL cF cM) (cWu h cI cL cF cM) (F, L, r) K := by
  refine Cv_of (cc := cX9_open) (maxL := 4) (by decide) rfl (Nat.le_of_ble_eq_true rfl) ?_
  intro p e s m below meth c A Q C hw hR ls hl
  exact tX9_open_b0 C hR hh hw hl
theorem cdX9_open : yX9_open.cls = RX9 ∧ yX9_open.cls ≠ "java/lang/invoke/MethodHandle" ∧ yX9_open.cls ≠ "java/lang/invoke/VarHandle" ∧ (parseMethodDescriptor yX9_open.desc).map (fun d => d.parameters.length) = some 2 := by decide +kernel
abbrev rmX7_read : Room := { frames := 2, cells := 0, slots := 0, locals := 43 }
def wpX7_read_b71 (F : Nat → Nat → Int32) (L : Nat → Nat → Int64) (r : Nat → Nat → Nat) (k0 : Int32) (K : Int32 → cS → Prop) : Prop :=
  isB k0 ∧ K k0 (F, L, r)
set_option maxHeartbeats 4000000 in
set_option maxRecDepth 100000 in
theorem tX7_read_b71 {K : Int32 → cS → Prop} (C : CallFix p m c cX7_read 3 s args wsX7_read RX7) (hR : Rti .boolean p l e rmX7_read s m args below meth c cX7_read D A (cT cI cL cF cM) (cWu h cI cL cF cM) K Q) {F : Nat → Nat → Int32} {L : Nat → Nat → Int64} {r : Nat → Nat → Nat} {k0 : Int32} (hh : wpX7_read_b71 F L r k0 K) {H : Heap} {locs : List Loc} {ls : Array Slot} (hw : Wd D A s (cT cI cL cF cM) (cW h cI cL cF cM F L r) H locs) (hl : lv_has ls 3 [(0, .ref (h 10))]) : W p l e rmX7_read s m args below meth c H locs 0 0 Q (F0 m 71 ls [.int k0]) := by
  unfold wpX7_read_b71 at hh
  obtain ⟨hb71, hh⟩ := hh
  exact hR _ _ _ (F, L, r) _ _ dX7_read_71 (isB_nar hb71) hh hw
def wpX7_read_b56 (F : Nat → Nat → Int32) (L : Nat → Nat → Int64) (r : Nat → Nat → Nat) (K : Int32 → cS → Prop) : Prop :=
  (¬ ((F 4 1) = 0) →
    wpX7_read_b71 F L r (0 : Int32) K) ∧
  (((F 4 1) = 0) →
    wpX7_read_b71 F L r (1 : Int32) K)
set_option maxHeartbeats 4000000 in
set_option maxRecDepth 100000 in
theorem tX7_read_b56 {K : Int32 → cS → Prop} (C : CallFix p m c cX7_read 3 s args wsX7_read RX7) (hR : Rti .boolean p l e rmX7_read s m args below meth c cX7_read D A (cT cI cL cF cM) (cWu h cI cL cF cM) K Q) {F : Nat → Nat → Int32} {L : Nat → Nat → Int64} {r : Nat → Nat → Nat} (hh : wpX7_read_b56 F L r K) {H : Heap} {locs : List Loc} {ls : Array Slot} (hw : Wd D A s (cT cI cL cF cM) (cW h cI cL cF cM F L r) H locs) (hl : lv_has ls 3 [(0, .ref (h 10))]) : W p l e rmX7_read s m args below meth c H locs 0 0 Q (F0 m 56 ls []) := by
  unfold wpX7_read_b56 at hh
  refine lv_aload_n C.1 C.2.1 dX7_read_56 rfl (lv_at hl 0 rfl) ?_
  refine c_get C hw (inC inW7) (kd_lt kp10 (by decide)) (ce7 kp10) rfl 0 (by decide) (wc w_253) (v := .ref (h 4)) rfl dX7_read_57 ?_
  refine c_get C hw (inC inW9) (kd_lt kp4 (by decide)) (ce9 kp4) rfl 1 (by decide) (wc w_154) (v := .int (F 4 1)) rfl dX7_read_60 ?_
  refine lv_if_ne (tgt := 70) C.1 C.2.1 dX7_read_63 (by decide) (fun c63 => ?_) (fun c63 => ?_)
  · replace hh := hh.1 c63
    refine lv_iconst (v := (0 : Int32)) C.1 C.2.1 dX7_read_70 (by decide) ?_
    exact tX7_read_b71 C hR hh hw hl
  · replace hh := hh.2 c63
    refine lv_iconst (v := (1 : Int32)) C.1 C.2.1 dX7_read_66 (by decide) ?_
    refine lv_goto (tgt := 71) C.1 C.2.1 dX7_read_67 (by decide) ?_
    exact tX7_read_b71 C hR hh hw hl
def wpX7_read_b20_body (B20 : (Nat → Nat → Int32) → (Nat → Nat → Int64) → (Nat → Nat → Nat) → Int32 → Prop) (F : Nat → Nat → Int32) (L : Nat → Nat → Int64) (r : Nat → Nat → Nat) (x2 : Int32) (K : Int32 → cS → Prop) : Prop :=
  (((30 : Int32) < x2) →
    wpX7_read_b56 F L r K) ∧
  (¬ ((30 : Int32) < x2) →
    (¬ ((F 4 1) = 0) →
      wpX7_read_b56 F L r K) ∧
    (((F 4 1) = 0) →
      (((F 4 3) = 0) →
        wpX7_read_b56 F L r K) ∧
      (¬ ((F 4 3) = 0) →
        False)))
set_option maxHeartbeats 4000000 in
set_option maxRecDepth 100000 in
theorem tX7_read_b20_body {B20 : (Nat → Nat → Int32) → (Nat → Nat → Int64) → (Nat → Nat → Nat) → Int32 → Prop} {K : Int32 → cS → Prop} (C : CallFix p m c cX7_read 3 s args wsX7_read RX7) (hR : Rti .boolean p l e rmX7_read s m args below meth c cX7_read D A (cT cI cL cF cM) (cWu h cI cL cF cM) K Q) (hB20 : ∀ (F : Nat → Nat → Int32) (L : Nat → Nat → Int64) (r : Nat → Nat → Nat) (x2 : Int32) (H : Heap) (locs : List Loc) (ls : Array Slot), B20 F L r x2 → Wd D A s (cT cI cL cF cM) (cW h cI cL cF cM F L r) H locs → lv_has ls 3 [(0, .ref (h 10)), (2, .int x2)] → W p l e rmX7_read s m args below meth c H locs 0 0 Q (F0 m 20 ls [])) {F : Nat → Nat → Int32} {L : Nat → Nat → Int64} {r : Nat → Nat → Nat} {x2 : Int32} (hh : wpX7_read_b20_body B20 F L r x2 K) {H : Heap} {locs : List Loc} {ls : Array Slot} (hw : Wd D A s (cT cI cL cF cM) (cW h cI cL cF cM F L r) H locs) (hl : lv_has ls 3 [(0, .ref (h 10)), (2, .int x2)]) : W p l e rmX7_read s m args below meth c H locs 0 0 Q (F0 m 20 ls []) := by
  unfold wpX7_read_b20_body at hh
  refine lv_iload_n C.1 C.2.1 dX7_read_20 rfl (lv_at hl 1 rfl) ?_
  refine lv_bipush (v := (30 : Int32)) C.1 C.2.1 dX7_read_21 (by decide) ?_
  refine lv_icmp_gt (tgt := 56) C.1 C.2.1 dX7_read_23 (by decide) (fun c23 => ?_) (fun c23 => ?_)
  · replace hh := hh.1 c23
    exact tX7_read_b56 C hR hh hw (lv_sub hl [0] rfl)
  · replace hh := hh.2 c23
    refine lv_aload_n C.1 C.2.1 dX7_read_26 rfl (lv_at hl 0 rfl) ?_
    refine c_get C hw (inC inW7) (kd_lt kp10 (by decide)) (ce7 kp10) rfl 0 (by decide) (wc w_253) (v := .ref (h 4)) rfl dX7_read_27 ?_
    refine c_get C hw (inC inW9) (kd_lt kp4 (by decide)) (ce9 kp4) rfl 1 (by decide) (wc w_154) (v := .int (F 4 1)) rfl dX7_read_30 ?_
    refine lv_if_ne (tgt := 56) C.1 C.2.1 dX7_read_33 (by decide) (fun c33 => ?_) (fun c33 => ?_)
    · replace hh := hh.1 c33
      exact tX7_read_b56 C hR hh hw (lv_sub hl [0] rfl)
    · replace hh := hh.2 c33
      refine lv_aload_n C.1 C.2.1 dX7_read_36 rfl (lv_at hl 0 rfl) ?_
      refine c_get C hw (inC inW7) (kd_lt kp10 (by decide)) (ce7 kp10) rfl 0 (by decide) (wc w_253) (v := .ref (h 4)) rfl dX7_read_37 ?_
      refine c_get C hw (inC inW9) (kd_lt kp4 (by decide)) (ce9 kp4) rfl 3 (by decide) (wc w_160) (v := .int (F 4 3)) rfl dX7_read_40 ?_
      refine lv_if_eq (tgt := 56) C.1 C.2.1 dX7_read_43 (by decide) (fun c43 => ?_) (fun c43 => ?_)
      · replace hh := hh.1 c43
        exact tX7_read_b56 C hR hh hw (lv_sub hl [0] rfl)
      · replace hh := hh.2 c43
        refine lv_aload_n C.1 C.2.1 dX7_read_46 rfl (lv_at hl 0 rfl) ?_
        exact hh.elim
def wpX7_read_b20 (n_ : Nat) (F : Nat → Nat → Int32) (L : Nat → Nat → Int64) (r : Nat → Nat → Nat) (x2 : Int32) (K : Int32 → cS → Prop) : Prop := match n_ with
  | 0 => False
  | n + 1 => wpX7_read_b20_body (fun F L r x2 => wpX7_read_b20 n F L r x2 K) F L r x2 K
theorem tX7_read_b20 {K : Int32 → cS → Prop} (C : CallFix p m c cX7_read 3 s args wsX7_read RX7) (hR : Rti .boolean p l e rmX7_read s m args below meth c cX7_read D A (cT cI cL cF cM) (cWu h cI cL cF cM) K Q) (n : Nat) : ∀ (F : Nat → Nat → Int32) (L : Nat → Nat → Int64) (r : Nat → Nat → Nat) (x2 : Int32) (H : Heap) (locs : List Loc) (ls : Array Slot), wpX7_read_b20 n F L r x2 K → Wd D A s (cT cI cL cF cM) (cW h cI cL cF cM F L r) H locs → lv_has ls 3 [(0, .ref (h 10)), (2, .int x2)] → W p l e rmX7_read s m args below meth c H locs 0 0 Q (F0 m 20 ls []) := by
  induction n with
  | zero => intro F L r x2 H locs ls hh; exact hh.elim
  | succ n ih => intro F L r x2 H locs ls hh hw hl; exact tX7_read_b20_body C hR ih hh hw hl
def wpX7_read_b0 (F : Nat → Nat → Int32) (L : Nat → Nat → Int64) (r : Nat → Nat → Nat) (x1 : Int32) (K : Int32 → cS → Prop) : Prop :=
  kd (r 10 3) = 6 ∧ ∀ z_13 : Nat, wpX9_open z_13 (pt F (r 10 3) 0 (0 : Int32)) L r x1 (fun u15 =>
    ∃ n, wpX7_read_b20 n u15.1 u15.2.1 u15.2.2 (0 : Int32) K)
set_option maxHeartbeats 4000000 in
set_option maxRecDepth 100000 in
theorem tX7_read_b0 {K : Int32 → cS → Prop} (C : CallFix p m c cX7_read 3 s args wsX7_read RX7) (hR : Rti .boolean p l e rmX7_read s m args below meth c cX7_read D A (cT cI cL cF cM) (cWu h cI cL cF cM) K Q) {F : Nat → Nat → Int32} {L : Nat → Nat → Int64} {r : Nat → Nat → Nat} {x1 : Int32} (hh : wpX7_read_b0 F L r x1 K) {H : Heap} {locs : List Loc} {ls : Array Slot} (hw : Wd D A s (cT cI cL cF cM) (cW h cI cL cF cM F L r) H locs) (hl : lv_has ls 3 [(0, .ref (h 10)), (1, .int x1)]) : W p l e rmX7_read s m args below meth c H locs 0 0 Q (F0 m 0 ls []) := by
  unfold wpX7_read_b0 at hh
  refine lv_aload_n C.1 C.2.1 dX7_read_0 rfl (lv_at hl 0 rfl) ?_
  refine c_get C hw (inC inW7) (kd_lt kp10 (by decide)) (ce7 kp10) rfl 3 (by decide) (wc w_256) (v := .ref (h (r 10 3))) rfl dX7_read_1 ?_
  refine lv_iconst (v := (0 : Int32)) C.1 C.2.1 dX7_read_4 (by decide) ?_
  obtain ⟨hk0, hh⟩ := hh
  refine c_puti C hw (inC inW6) tyX6 tyX6_ok nmX6 (kd_lt hk0 (by decide)) (ce6 hk0) rfl 0 (by decide) (wc w_228) rfl (ty := .int) (by decide +kernel) rfl rfl (Nat.le_of_ble_eq_true rfl) rfl dX7_read_5 (fun H locs hw => ?_)
  refine lv_aload_n C.1 C.2.1 dX7_read_8 rfl (lv_at hl 0 rfl) ?_
  refine c_get C hw (inC inW7) (kd_lt kp10 (by decide)) (ce7 kp10) rfl 0 (by decide) (wc w_253) (v := .ref (h 4)) rfl dX7_read_9 ?_
  refine lv_iload_n C.1 C.2.1 dX7_read_12 rfl (lv_at hl 1 rfl) ?_
  obtain ⟨z_13, hz_13⟩ := hw.2.2.2.2.2.1
  refine va_ldcS C.1 C.2.1 C.2.2.2.1 hz_13 dX7_read_13 ?_
  replace hh := hh z_13
  refine c_Vv C hw (ctX9_open l D h cI cL cF cM z_13 (pt F (r 10 3) 0 (0 : Int32)) L r x1 hh) (cwV 2 C.2.2.2.2 (gd_V w_637 w_638 w_639 w_115 w_640) rfl rfl rfl cdX9_open ⟨Nat.le_of_ble_eq_true rfl, Nat.le_of_ble_eq_true rfl⟩) rfl (kd_lt kp4 (by decide)) (ce9 kp4) rfl hl.1 (Nat.le_of_ble_eq_true rfl) dX7_read_15 ⟨Nat.zero_le _, Nat.zero_le _⟩ (fun u15 H locs hh hw => ?_) rfl
  refine lv_iconst (v := (0 : Int32)) C.1 C.2.1 dX7_read_18 (by decide) ?_
  refine lv_istore_n (lv' := [(2, .int (0 : Int32)), (0, .ref (h 10)), (1, .int x1)]) C.1 C.2.1 dX7_read_19 rfl hl (by decide) rfl (fun ls hl => ?_)
  obtain ⟨n, hh⟩ := hh
  exact tX7_read_b20 C hR n _ _ _ _ _ _ _ hh hw (lv_sub hl [1, 0] rfl)
def wpX7_read (F : Nat → Nat → Int32) (L : Nat → Nat → Int64) (r : Nat → Nat → Nat) (x1 : Int32) (K : Int32 → cS → Prop) : Prop := wpX7_read_b0 F L r x1 K
theorem ctX7_read (l : Launch) (D : va_G) (h : Nat → Nat) (cI cL cF cM : ClassId) (F : Nat → Nat → Int32) (L : Nat → Nat → Int64) (r : Nat → Nat → Nat) (x1 : Int32) {K : Int32 → cS → Prop} (hh : wpX7_read F L r x1 K) : Ci l yX7_read wsX7_read rmX7_read [.ref (h 10), .int x1] D (cT cI cL cF cM) (cWu h cI cL cF cM) (F, L, r) K := by
  refine Ci_of (cc := cX7_read) (maxL := 3) (by decide) rfl (Nat.le_of_ble_eq_true rfl) ?_
  intro p e s m below meth c A Q C hw hR ls hl
  exact tX7_read_b0 C hR hh hw hl
theorem cdX7_read : yX7_read.cls = RX7 ∧ yX7_read.cls ≠ "java/lang/invoke/MethodHandle" ∧ yX7_read.cls ≠ "java/lang/invoke/VarHandle" ∧ (parseMethodDescriptor yX7_read.desc).map (fun d => d.parameters.length) = some 1 := by decide +kernel
abbrev rmX7_exchange : Room := { frames := 0, cells := 0, slots := 0, locals := 0 }
def wpX7_exchange_b0 (a1 : Nat) (F : Nat → Nat → Int32) (L : Nat → Nat → Int64) (r : Nat → Nat → Nat) (K : Nat → cS → Prop) : Prop :=
  K (r 10 3) (F, L, ptN r 10 3 a1)
set_option maxHeartbeats 4000000 in
set_option maxRecDepth 100000 in
theorem tX7_exchange_b0 {a1 : Nat} {K : Nat → cS → Prop} (C : CallFix p m c cX7_exchange 3 s args wsX7_exchange RX7) (hR : Rtr p l e rmX7_exchange s m args below meth c cX7_exchange D A (cT cI cL cF cM) (cWu h cI cL cF cM) h K Q) (ha1 : kd a1 = 6) {F : Nat → Nat → Int32} {L : Nat → Nat → Int64} {r : Nat → Nat → Nat} (hh : wpX7_exchange_b0 a1 F L r K) {H : Heap} {locs : List Loc} {ls : Array Slot} (hw : Wd D A s (cT cI cL cF cM) (cW h cI cL cF cM F L r) H locs) (hl : lv_has ls 3 [(0, .ref (h 10)), (1, .ref (h a1))]) : W p l e rmX7_exchange s m args below meth c H locs 0 0 Q (F0 m 0 ls []) := by
  unfold wpX7_exchange_b0 at hh
  refine lv_aload_n C.1 C.2.1 dX7_exchange_0 rfl (lv_at hl 0 rfl) ?_
  refine c_get C hw (inC inW7) (kd_lt kp10 (by decide)) (ce7 kp10) rfl 3 (by decide) (wc w_256) (v := .ref (h (r 10 3))) rfl dX7_exchange_1 ?_
  refine lv_astore_n (lv' := [(2, .ref (h (r 10 3))), (0, .ref (h 10)), (1, .ref (h a1))]) C.1 C.2.1 dX7_exchange_4 rfl hl (by decide) rfl (fun ls hl => ?_)
  refine lv_aload_n C.1 C.2.1 dX7_exchange_5 rfl (lv_at hl 1 rfl) ?_
  refine lv_aload_n C.1 C.2.1 dX7_exchange_6 rfl (lv_at hl 2 rfl) ?_
  refine c_putr (v := a1) C hw (inC inW7) tyX7 tyX7_ok nmX7 (kd_lt kp10 (by decide)) (ce7 kp10) rfl 3 (by decide) (wc w_256) rfl (ty := .object "RelayMouse$Rules") (by decide +kernel) rfl rfl (Nat.le_of_ble_eq_true rfl) rfl dX7_exchange_7 (fun H locs hw => ?_)
  refine lv_aload_n C.1 C.2.1 dX7_exchange_10 rfl (lv_at hl 0 rfl) ?_
  exact hR _ _ (r 10 3) (F, L, ptN r 10 3 a1) _ _ dX7_exchange_11 hh hw
def wpX7_exchange (a1 : Nat) (F : Nat → Nat → Int32) (L : Nat → Nat → Int64) (r : Nat → Nat → Nat) (K : Nat → cS → Prop) : Prop := wpX7_exchange_b0 a1 F L r K
theorem ctX7_exchange (l : Launch) (D : va_G) (h : Nat → Nat) (cI cL cF cM : ClassId) (a1 : Nat) (ha1 : kd a1 = 6) (F : Nat → Nat → Int32) (L : Nat → Nat → Int64) (r : Nat → Nat → Nat) {K : Nat → cS → Prop} (hh : wpX7_exchange a1 F L r K) : Cr l yX7_exchange wsX7_exchange rmX7_exchange [.ref (h 10), .ref (h a1)] D (cT cI cL cF cM) (cWu h cI cL cF cM) h (F, L, r) K := by
  refine Cr_of (cc := cX7_exchange) (maxL := 3) (by decide) rfl (Nat.le_of_ble_eq_true rfl) ?_
  intro p e s m below meth c A Q C hw hR ls hl
  exact tX7_exchange_b0 C hR ha1 hh hw hl
theorem cdX7_exchange : yX7_exchange.cls = RX7 ∧ yX7_exchange.cls ≠ "java/lang/invoke/MethodHandle" ∧ yX7_exchange.cls ≠ "java/lang/invoke/VarHandle" ∧ (parseMethodDescriptor yX7_exchange.desc).map (fun d => d.parameters.length) = some 1 := by decide +kernel
abbrev rmX8_forget : Room := { frames := 0, cells := 0, slots := 0, locals := 0 }
def wpX8_forget_b0 (F : Nat → Nat → Int32) (L : Nat → Nat → Int64) (r : Nat → Nat → Nat) (K : cS → Prop) : Prop :=
  K (pt (pt F 96 6 (0 : Int32)) 96 7 (0 : Int32), L, r)
set_option maxHeartbeats 4000000 in
set_option maxRecDepth 100000 in
theorem tX8_forget_b0 {K : cS → Prop} (C : CallFix p m c cX8_forget 1 s args wsX8_forget RX8) (hR : Rtv p l e rmX8_forget s m args below meth c cX8_forget D A (cT cI cL cF cM) (cWu h cI cL cF cM) K Q) {F : Nat → Nat → Int32} {L : Nat → Nat → Int64} {r : Nat → Nat → Nat} (hh : wpX8_forget_b0 F L r K) {H : Heap} {locs : List Loc} {ls : Array Slot} (hw : Wd D A s (cT cI cL cF cM) (cW h cI cL cF cM F L r) H locs) (hl : lv_has ls 1 [(0, .ref (h 96))]) : W p l e rmX8_forget s m args below meth c H locs 0 0 Q (F0 m 0 ls []) := by
  unfold wpX8_forget_b0 at hh
  refine lv_aload_n C.1 C.2.1 dX8_forget_0 rfl (lv_at hl 0 rfl) ?_
  refine lv_iconst (v := (0 : Int32)) C.1 C.2.1 dX8_forget_1 (by decide) ?_
  refine c_puti C hw (inC inW8) tyX8 tyX8_ok nmX8 (kd_lt kp96 (by decide)) (ce8 kp96) rfl 6 (by decide) (wc w_481) rfl (ty := .int) (by decide +kernel) rfl rfl (Nat.le_of_ble_eq_true rfl) rfl dX8_forget_2 (fun H locs hw => ?_)
  refine lv_aload_n C.1 C.2.1 dX8_forget_5 rfl (lv_at hl 0 rfl) ?_
  refine lv_iconst (v := (0 : Int32)) C.1 C.2.1 dX8_forget_6 (by decide) ?_
  refine c_puti C hw (inC inW8) tyX8 tyX8_ok nmX8 (kd_lt kp96 (by decide)) (ce8 kp96) rfl 7 (by decide) (wc w_482) rfl (ty := .int) (by decide +kernel) rfl rfl (Nat.le_of_ble_eq_true rfl) rfl dX8_forget_7 (fun H locs hw => ?_)
  exact hR _ _ (pt (pt F 96 6 (0 : Int32)) 96 7 (0 : Int32), L, r) _ _ dX8_forget_10 hh hw
def wpX8_forget (F : Nat → Nat → Int32) (L : Nat → Nat → Int64) (r : Nat → Nat → Nat) (K : cS → Prop) : Prop := wpX8_forget_b0 F L r K
theorem ctX8_forget (l : Launch) (D : va_G) (h : Nat → Nat) (cI cL cF cM : ClassId) (F : Nat → Nat → Int32) (L : Nat → Nat → Int64) (r : Nat → Nat → Nat) {K : cS → Prop} (hh : wpX8_forget F L r K) : Cv l yX8_forget wsX8_forget rmX8_forget [.ref (h 96)] D (cT cI cL cF cM) (cWu h cI cL cF cM) (F, L, r) K := by
  refine Cv_of (cc := cX8_forget) (maxL := 1) (by decide) rfl (Nat.le_of_ble_eq_true rfl) ?_
  intro p e s m below meth c A Q C hw hR ls hl
  exact tX8_forget_b0 C hR hh hw hl
theorem cdX8_forget : yX8_forget.cls = RX8 ∧ yX8_forget.cls ≠ "java/lang/invoke/MethodHandle" ∧ yX8_forget.cls ≠ "java/lang/invoke/VarHandle" ∧ (parseMethodDescriptor yX8_forget.desc).map (fun d => d.parameters.length) = some 0 := by decide +kernel
abbrev rmX10_rules : Room := { frames := 3, cells := 0, slots := 0, locals := 65 }
def wpX10_rules_b15 (F : Nat → Nat → Int32) (L : Nat → Nat → Int64) (r : Nat → Nat → Nat) (K : Int32 → cS → Prop) : Prop :=
  K (-2 : Int32) (F, L, r)
set_option maxHeartbeats 4000000 in
set_option maxRecDepth 100000 in
theorem tX10_rules_b15 {K : Int32 → cS → Prop} (C : CallFix p m c cX10_rules 2 s args wsX10_rules RX10) (hR : Rti .int p l e rmX10_rules s m args below meth c cX10_rules D A (cT cI cL cF cM) (cWu h cI cL cF cM) K Q) {F : Nat → Nat → Int32} {L : Nat → Nat → Int64} {r : Nat → Nat → Nat} (hh : wpX10_rules_b15 F L r K) {H : Heap} {locs : List Loc} {ls : Array Slot} (hw : Wd D A s (cT cI cL cF cM) (cW h cI cL cF cM F L r) H locs) (hl : lv_has ls 2 [(0, .ref (h 0))]) : W p l e rmX10_rules s m args below meth c H locs 0 0 Q (F0 m 15 ls []) := by
  unfold wpX10_rules_b15 at hh
  refine lv_bipush (v := (-2 : Int32)) C.1 C.2.1 dX10_rules_15 (by decide) ?_
  exact hR _ _ _ (F, L, r) _ _ dX10_rules_17 rfl hh hw
def wpX10_rules_b0 (F : Nat → Nat → Int32) (L : Nat → Nat → Int64) (r : Nat → Nat → Nat) (x1 : Int32) (K : Int32 → cS → Prop) : Prop :=
  ((x1 < 0) →
    wpX10_rules_b15 F L r K) ∧
  (¬ (x1 < 0) →
    ((x1 ≤ (F 4 0)) →
      wpX7_read F L r x1 (fun r23 u23 =>
        (¬ (r23 = 0) →
        kd (u23.2.2 0 3) = 6 ∧ wpX7_exchange (u23.2.2 0 3) u23.1 u23.2.1 u23.2.2 (fun r40 u40 =>
          wpX8_forget (pt u40.1 74 6 (-1 : Int32)) u40.2.1 (ptN u40.2.2 0 3 r40) (fun u58 =>
          kd (u58.2.2 0 3) = 6 ∧ K (u58.1 (u58.2.2 0 3) 0) (u58.1, u58.2.1, u58.2.2)))) ∧
      ((r23 = 0) →
        K (-1 : Int32) (u23.1, u23.2.1, u23.2.2)))) ∧
    (¬ (x1 ≤ (F 4 0)) →
      wpX10_rules_b15 F L r K))
set_option maxHeartbeats 4000000 in
set_option maxRecDepth 100000 in
theorem tX10_rules_b0 {K : Int32 → cS → Prop} (C : CallFix p m c cX10_rules 2 s args wsX10_rules RX10) (hR : Rti .int p l e rmX10_rules s m args below meth c cX10_rules D A (cT cI cL cF cM) (cWu h cI cL cF cM) K Q) {F : Nat → Nat → Int32} {L : Nat → Nat → Int64} {r : Nat → Nat → Nat} {x1 : Int32} (hh : wpX10_rules_b0 F L r x1 K) {H : Heap} {locs : List Loc} {ls : Array Slot} (hw : Wd D A s (cT cI cL cF cM) (cW h cI cL cF cM F L r) H locs) (hl : lv_has ls 2 [(0, .ref (h 0)), (1, .int x1)]) : W p l e rmX10_rules s m args below meth c H locs 0 0 Q (F0 m 0 ls []) := by
  unfold wpX10_rules_b0 at hh
  refine lv_iload_n C.1 C.2.1 dX10_rules_0 rfl (lv_at hl 1 rfl) ?_
  refine lv_if_lt (tgt := 15) C.1 C.2.1 dX10_rules_1 (by decide) (fun c1 => ?_) (fun c1 => ?_)
  · replace hh := hh.1 c1
    exact tX10_rules_b15 C hR hh hw (lv_sub hl [0] rfl)
  · replace hh := hh.2 c1
    refine lv_iload_n C.1 C.2.1 dX10_rules_4 rfl (lv_at hl 1 rfl) ?_
    refine lv_aload_n C.1 C.2.1 dX10_rules_5 rfl (lv_at hl 0 rfl) ?_
    refine c_get C hw (inC inW10) (kd_lt kp0 (by decide)) (ce10 kp0) rfl 0 (by decide) (wc w_570) (v := .ref (h 4)) rfl dX10_rules_6 ?_
    refine c_get C hw (inC inW9) (kd_lt kp4 (by decide)) (ce9 kp4) rfl 0 (by decide) (wc w_153) (v := .int (F 4 0)) rfl dX10_rules_9 ?_
    refine lv_icmp_le (tgt := 18) C.1 C.2.1 dX10_rules_12 (by decide) (fun c12 => ?_) (fun c12 => ?_)
    · replace hh := hh.1 c12
      refine lv_aload_n C.1 C.2.1 dX10_rules_18 rfl (lv_at hl 0 rfl) ?_
      refine c_get C hw (inC inW10) (kd_lt kp0 (by decide)) (ce10 kp0) rfl 1 (by decide) (wc w_571) (v := .ref (h 10)) rfl dX10_rules_19 ?_
      refine lv_iload_n C.1 C.2.1 dX10_rules_22 rfl (lv_at hl 1 rfl) ?_
      refine c_Vi C hw (ctX7_read l D h cI cL cF cM F L r x1 hh) (cwV 1 C.2.2.2.2 (gd_V w_632 w_633 w_634 w_116 w_635) rfl rfl rfl cdX7_read ⟨Nat.le_of_ble_eq_true rfl, Nat.le_of_ble_eq_true rfl⟩) rfl (kd_lt kp10 (by decide)) (ce7 kp10) rfl hl.1 (Nat.le_of_ble_eq_true rfl) dX10_rules_23 ⟨Nat.zero_le _, Nat.zero_le _⟩ (fun r23 u23 H locs hh hw => ?_) rfl
      refine lv_if_ne (tgt := 31) C.1 C.2.1 dX10_rules_26 (by decide) (fun c26 => ?_) (fun c26 => ?_)
      · replace hh := hh.1 c26
        refine lv_aload_n C.1 C.2.1 dX10_rules_31 rfl (lv_at hl 0 rfl) ?_
        refine lv_aload_n C.1 C.2.1 dX10_rules_32 rfl (lv_at hl 0 rfl) ?_
        refine c_get C hw (inC inW10) (kd_lt kp0 (by decide)) (ce10 kp0) rfl 1 (by decide) (wc w_571) (v := .ref (h 10)) rfl dX10_rules_33 ?_
        refine lv_aload_n C.1 C.2.1 dX10_rules_36 rfl (lv_at hl 0 rfl) ?_
        refine c_get C hw (inC inW10) (kd_lt kp0 (by decide)) (ce10 kp0) rfl 3 (by decide) (wc w_573) (v := .ref (h (u23.2.2 0 3))) rfl dX10_rules_37 ?_
        obtain ⟨hk0, hh⟩ := hh
        refine c_Vr C hw (ctX7_exchange l D h cI cL cF cM (u23.2.2 0 3) hk0 u23.1 u23.2.1 u23.2.2 hh) (cwV 1 C.2.2.2.2 (gd_V w_803 w_804 w_805 w_116 w_806) rfl rfl rfl cdX7_exchange ⟨Nat.le_of_ble_eq_true rfl, Nat.le_of_ble_eq_true rfl⟩) rfl (kd_lt kp10 (by decide)) (ce7 kp10) rfl hl.1 (Nat.le_of_ble_eq_true rfl) dX10_rules_40 ⟨Nat.zero_le _, Nat.zero_le _⟩ (fun r40 u40 H locs hh hw => ?_) rfl
        refine c_putr (v := r40) C hw (inC inW10) tyX10 tyX10_ok nmX10 (kd_lt kp0 (by decide)) (ce10 kp0) rfl 3 (by decide) (wc w_573) rfl (ty := .object "RelayMouse$Rules") (by decide +kernel) rfl rfl (Nat.le_of_ble_eq_true rfl) rfl dX10_rules_43 (fun H locs hw => ?_)
        refine lv_aload_n C.1 C.2.1 dX10_rules_46 rfl (lv_at hl 0 rfl) ?_
        refine c_get C hw (inC inW10) (kd_lt kp0 (by decide)) (ce10 kp0) rfl 6 (by decide) (wc w_576) (v := .ref (h 74)) rfl dX10_rules_47 ?_
        refine lv_iconst (v := (-1 : Int32)) C.1 C.2.1 dX10_rules_50 (by decide) ?_
        refine c_puti C hw (inC inW3) tyX3 tyX3_ok nmX3 (kd_lt kp74 (by decide)) (ce3 kp74) rfl 6 (by decide) (wc w_406) rfl (ty := .int) (by decide +kernel) rfl rfl (Nat.le_of_ble_eq_true rfl) rfl dX10_rules_51 (fun H locs hw => ?_)
        refine lv_aload_n C.1 C.2.1 dX10_rules_54 rfl (lv_at hl 0 rfl) ?_
        refine c_get C hw (inC inW10) (kd_lt kp0 (by decide)) (ce10 kp0) rfl 13 (by decide) (wc w_583) (v := .ref (h 96)) rfl dX10_rules_55 ?_
        refine c_Vv C hw (ctX8_forget l D h cI cL cF cM (pt u40.1 74 6 (-1 : Int32)) u40.2.1 (ptN u40.2.2 0 3 r40) hh) (cwV 0 C.2.2.2.2 (gd_V w_807 w_808 w_809 w_123 w_810) rfl rfl rfl cdX8_forget ⟨Nat.le_of_ble_eq_true rfl, Nat.le_of_ble_eq_true rfl⟩) rfl (kd_lt kp96 (by decide)) (ce8 kp96) rfl hl.1 (Nat.le_of_ble_eq_true rfl) dX10_rules_58 ⟨Nat.zero_le _, Nat.zero_le _⟩ (fun u58 H locs hh hw => ?_) rfl
        refine lv_aload_n C.1 C.2.1 dX10_rules_61 rfl (lv_at hl 0 rfl) ?_
        refine c_get C hw (inC inW10) (kd_lt kp0 (by decide)) (ce10 kp0) rfl 3 (by decide) (wc w_573) (v := .ref (h (u58.2.2 0 3))) rfl dX10_rules_62 ?_
        obtain ⟨hk1, hh⟩ := hh
        refine c_get C hw (inC inW6) (kd_lt hk1 (by decide)) (ce6 hk1) rfl 0 (by decide) (wc w_229) (v := .int (u58.1 (u58.2.2 0 3) 0)) rfl dX10_rules_65 ?_
        exact hR _ _ _ (u58.1, u58.2.1, u58.2.2) _ _ dX10_rules_68 rfl hh hw
      · replace hh := hh.2 c26
        refine lv_iconst (v := (-1 : Int32)) C.1 C.2.1 dX10_rules_29 (by decide) ?_
        exact hR _ _ _ (u23.1, u23.2.1, u23.2.2) _ _ dX10_rules_30 rfl hh hw
    · replace hh := hh.2 c12
      exact tX10_rules_b15 C hR hh hw (lv_sub hl [0] rfl)
def wpX10_rules (F : Nat → Nat → Int32) (L : Nat → Nat → Int64) (r : Nat → Nat → Nat) (x1 : Int32) (K : Int32 → cS → Prop) : Prop := wpX10_rules_b0 F L r x1 K
theorem ctX10_rules (l : Launch) (D : va_G) (h : Nat → Nat) (cI cL cF cM : ClassId) (F : Nat → Nat → Int32) (L : Nat → Nat → Int64) (r : Nat → Nat → Nat) (x1 : Int32) {K : Int32 → cS → Prop} (hh : wpX10_rules F L r x1 K) : Ci l yX10_rules wsX10_rules rmX10_rules [.ref (h 0), .int x1] D (cT cI cL cF cM) (cWu h cI cL cF cM) (F, L, r) K := by
  refine Ci_of (cc := cX10_rules) (maxL := 2) (by decide) rfl (Nat.le_of_ble_eq_true rfl) ?_
  intro p e s m below meth c A Q C hw hR ls hl
  exact tX10_rules_b0 C hR hh hw hl
theorem cdX10_rules : yX10_rules.cls = RX10 ∧ yX10_rules.cls ≠ "java/lang/invoke/MethodHandle" ∧ yX10_rules.cls ≠ "java/lang/invoke/VarHandle" ∧ (parseMethodDescriptor yX10_rules.desc).map (fun d => d.parameters.length) = some 1 := by decide +kernel
abbrev rmX4_clear : Room := { frames := 0, cells := 0, slots := 0, locals := 0 }
def wpX4_clear_b55 (a0 : Nat) (F : Nat → Nat → Int32) (L : Nat → Nat → Int64) (r : Nat → Nat → Nat) (K : cS → Prop) : Prop :=
  K (F, L, r)
set_option maxHeartbeats 4000000 in
set_option maxRecDepth 100000 in
theorem tX4_clear_b55 {a0 : Nat} {K : cS → Prop} (C : CallFix p m c cX4_clear 2 s args wsX4_clear RX4) (hR : Rtv p l e rmX4_clear s m args below meth c cX4_clear D A (cT cI cL cF cM) (cWu h cI cL cF cM) K Q) (ha0 : kd a0 = 4) {F : Nat → Nat → Int32} {L : Nat → Nat → Int64} {r : Nat → Nat → Nat} (hh : wpX4_clear_b55 a0 F L r K) {H : Heap} {locs : List Loc} {ls : Array Slot} (hw : Wd D A s (cT cI cL cF cM) (cW h cI cL cF cM F L r) H locs) (hl : lv_has ls 2 [(0, .ref (h a0))]) : W p l e rmX4_clear s m args below meth c H locs 0 0 Q (F0 m 55 ls []) := by
  unfold wpX4_clear_b55 at hh
  exact hR _ _ (F, L, r) _ _ dX4_clear_55 hh hw
def wpX4_clear_b17_body (B17 : (Nat → Nat → Int32) → (Nat → Nat → Int64) → (Nat → Nat → Nat) → Int32 → Prop) (a0 : Nat) (F : Nat → Nat → Int32) (L : Nat → Nat → Int64) (r : Nat → Nat → Nat) (x1 : Int32) (K : cS → Prop) : Prop :=
  (((24 : Int32) ≤ x1) →
    wpX4_clear_b55 a0 F L r K) ∧
  (¬ ((24 : Int32) ≤ x1) →
    (((24 : Int32) ≤ x1) →
      wpX4_clear_b55 a0 F L r K) ∧
    (¬ ((24 : Int32) ≤ x1) →
      vp_in x1 24 ∧ vp_in x1 24 ∧ B17 (pt (pt F (a0 + 2) (ix x1) (0 : Int32)) (a0 + 3) (ix x1) (0 : Int32)) L r (x1 + (1 : Int32))))
set_option maxHeartbeats 4000000 in
set_option maxRecDepth 100000 in
theorem tX4_clear_b17_body {a0 : Nat} {B17 : (Nat → Nat → Int32) → (Nat → Nat → Int64) → (Nat → Nat → Nat) → Int32 → Prop} {K : cS → Prop} (C : CallFix p m c cX4_clear 2 s args wsX4_clear RX4) (hR : Rtv p l e rmX4_clear s m args below meth c cX4_clear D A (cT cI cL cF cM) (cWu h cI cL cF cM) K Q) (ha0 : kd a0 = 4) (hB17 : ∀ (F : Nat → Nat → Int32) (L : Nat → Nat → Int64) (r : Nat → Nat → Nat) (x1 : Int32) (H : Heap) (locs : List Loc) (ls : Array Slot), B17 F L r x1 → Wd D A s (cT cI cL cF cM) (cW h cI cL cF cM F L r) H locs → lv_has ls 2 [(0, .ref (h a0)), (1, .int x1)] → W p l e rmX4_clear s m args below meth c H locs 0 0 Q (F0 m 17 ls [])) {F : Nat → Nat → Int32} {L : Nat → Nat → Int64} {r : Nat → Nat → Nat} {x1 : Int32} (hh : wpX4_clear_b17_body B17 a0 F L r x1 K) {H : Heap} {locs : List Loc} {ls : Array Slot} (hw : Wd D A s (cT cI cL cF cM) (cW h cI cL cF cM F L r) H locs) (hl : lv_has ls 2 [(0, .ref (h a0)), (1, .int x1)]) : W p l e rmX4_clear s m args below meth c H locs 0 0 Q (F0 m 17 ls []) := by
  unfold wpX4_clear_b17_body at hh
  refine lv_iload_n C.1 C.2.1 dX4_clear_17 rfl (lv_at hl 1 rfl) ?_
  refine lv_aload_n C.1 C.2.1 dX4_clear_18 rfl (lv_at hl 0 rfl) ?_
  refine c_get C hw (inC inW4) (kd_lt ha0 (by decide)) (ce4 ha0) rfl 4 (by decide) (wc w_290) (v := .ref (h (a0 + 2))) rfl dX4_clear_19 ?_
  refine c_len C hw (kd_lt (kd4_2 ha0) (by decide)) (ce21 (kd4_2 ha0)) (v := (24 : Int32)) (by decide) dX4_clear_22 ?_
  refine lv_icmp_ge (tgt := 55) C.1 C.2.1 dX4_clear_23 (by decide) (fun c23 => ?_) (fun c23 => ?_)
  · replace hh := hh.1 c23
    exact tX4_clear_b55 C hR ha0 hh hw (lv_sub hl [0] rfl)
  · replace hh := hh.2 c23
    refine lv_iload_n C.1 C.2.1 dX4_clear_26 rfl (lv_at hl 1 rfl) ?_
    refine lv_aload_n C.1 C.2.1 dX4_clear_27 rfl (lv_at hl 0 rfl) ?_
    refine c_get C hw (inC inW4) (kd_lt ha0 (by decide)) (ce4 ha0) rfl 5 (by decide) (wc w_292) (v := .ref (h (a0 + 3))) rfl dX4_clear_28 ?_
    refine c_len C hw (kd_lt (kd4_3 ha0) (by decide)) (ce21 (kd4_3 ha0)) (v := (24 : Int32)) (by decide) dX4_clear_31 ?_
    refine lv_icmp_ge (tgt := 55) C.1 C.2.1 dX4_clear_32 (by decide) (fun c32 => ?_) (fun c32 => ?_)
    · replace hh := hh.1 c32
      exact tX4_clear_b55 C hR ha0 hh hw (lv_sub hl [0] rfl)
    · replace hh := hh.2 c32
      refine lv_aload_n C.1 C.2.1 dX4_clear_35 rfl (lv_at hl 0 rfl) ?_
      refine c_get C hw (inC inW4) (kd_lt ha0 (by decide)) (ce4 ha0) rfl 4 (by decide) (wc w_290) (v := .ref (h (a0 + 2))) rfl dX4_clear_36 ?_
      refine lv_iload_n C.1 C.2.1 dX4_clear_39 rfl (lv_at hl 1 rfl) ?_
      refine lv_iconst (v := (0 : Int32)) C.1 C.2.1 dX4_clear_40 (by decide) ?_
      obtain ⟨hi41, hh⟩ := hh
      refine c_ias C hw (kd_lt (kd4_2 ha0) (by decide)) (ce21 (kd4_2 ha0)) hi41 dX4_clear_41 (fun H locs hw => ?_)
      refine lv_aload_n C.1 C.2.1 dX4_clear_42 rfl (lv_at hl 0 rfl) ?_
      refine c_get C hw (inC inW4) (kd_lt ha0 (by decide)) (ce4 ha0) rfl 5 (by decide) (wc w_292) (v := .ref (h (a0 + 3))) rfl dX4_clear_43 ?_
      refine lv_iload_n C.1 C.2.1 dX4_clear_46 rfl (lv_at hl 1 rfl) ?_
      refine lv_iconst (v := (0 : Int32)) C.1 C.2.1 dX4_clear_47 (by decide) ?_
      obtain ⟨hi48, hh⟩ := hh
      refine c_ias C hw (kd_lt (kd4_3 ha0) (by decide)) (ce21 (kd4_3 ha0)) hi48 dX4_clear_48 (fun H locs hw => ?_)
      refine lv_iinc (v := x1 + (1 : Int32)) (lv' := [(1, .int (x1 + (1 : Int32))), (0, .ref (h a0))]) C.1 C.2.1 dX4_clear_49 hl (k := 1) rfl rfl (by decide) rfl (fun ls hl => ?_)
      refine lv_goto (tgt := 17) C.1 C.2.1 dX4_clear_52 (by decide) ?_
      exact hB17 _ _ _ _ _ _ _ hh hw (lv_sub hl [1, 0] rfl)
def wpX4_clear_b17 (a0 : Nat) (n_ : Nat) (F : Nat → Nat → Int32) (L : Nat → Nat → Int64) (r : Nat → Nat → Nat) (x1 : Int32) (K : cS → Prop) : Prop := match n_ with
  | 0 => False
  | n + 1 => wpX4_clear_b17_body (fun F L r x1 => wpX4_clear_b17 a0 n F L r x1 K) a0 F L r x1 K
theorem tX4_clear_b17 {a0 : Nat} {K : cS → Prop} (C : CallFix p m c cX4_clear 2 s args wsX4_clear RX4) (hR : Rtv p l e rmX4_clear s m args below meth c cX4_clear D A (cT cI cL cF cM) (cWu h cI cL cF cM) K Q) (ha0 : kd a0 = 4) (n : Nat) : ∀ (F : Nat → Nat → Int32) (L : Nat → Nat → Int64) (r : Nat → Nat → Nat) (x1 : Int32) (H : Heap) (locs : List Loc) (ls : Array Slot), wpX4_clear_b17 a0 n F L r x1 K → Wd D A s (cT cI cL cF cM) (cW h cI cL cF cM F L r) H locs → lv_has ls 2 [(0, .ref (h a0)), (1, .int x1)] → W p l e rmX4_clear s m args below meth c H locs 0 0 Q (F0 m 17 ls []) := by
  induction n with
  | zero => intro F L r x1 H locs ls hh; exact hh.elim
  | succ n ih => intro F L r x1 H locs ls hh hw hl; exact tX4_clear_b17_body C hR ha0 ih hh hw hl
def wpX4_clear_b0 (a0 : Nat) (F : Nat → Nat → Int32) (L : Nat → Nat → Int64) (r : Nat → Nat → Nat) (K : cS → Prop) : Prop :=
  ∃ n, wpX4_clear_b17 a0 n (pt (pt (pt F a0 0 (0 : Int32)) a0 1 (0 : Int32)) a0 2 (0 : Int32)) L r (0 : Int32) K
set_option maxHeartbeats 4000000 in
set_option maxRecDepth 100000 in
theorem tX4_clear_b0 {a0 : Nat} {K : cS → Prop} (C : CallFix p m c cX4_clear 2 s args wsX4_clear RX4) (hR : Rtv p l e rmX4_clear s m args below meth c cX4_clear D A (cT cI cL cF cM) (cWu h cI cL cF cM) K Q) (ha0 : kd a0 = 4) {F : Nat → Nat → Int32} {L : Nat → Nat → Int64} {r : Nat → Nat → Nat} (hh : wpX4_clear_b0 a0 F L r K) {H : Heap} {locs : List Loc} {ls : Array Slot} (hw : Wd D A s (cT cI cL cF cM) (cW h cI cL cF cM F L r) H locs) (hl : lv_has ls 2 [(0, .ref (h a0))]) : W p l e rmX4_clear s m args below meth c H locs 0 0 Q (F0 m 0 ls []) := by
  unfold wpX4_clear_b0 at hh
  refine lv_aload_n C.1 C.2.1 dX4_clear_0 rfl (lv_at hl 0 rfl) ?_
  refine lv_iconst (v := (0 : Int32)) C.1 C.2.1 dX4_clear_1 (by decide) ?_
  refine c_puti C hw (inC inW4) tyX4 tyX4_ok nmX4 (kd_lt ha0 (by decide)) (ce4 ha0) rfl 0 (by decide) (wc w_278) rfl (ty := .int) (by decide +kernel) rfl rfl (Nat.le_of_ble_eq_true rfl) rfl dX4_clear_2 (fun H locs hw => ?_)
  refine lv_aload_n C.1 C.2.1 dX4_clear_5 rfl (lv_at hl 0 rfl) ?_
  refine lv_iconst (v := (0 : Int32)) C.1 C.2.1 dX4_clear_6 (by decide) ?_
  refine c_puti C hw (inC inW4) tyX4 tyX4_ok nmX4 (kd_lt ha0 (by decide)) (ce4 ha0) rfl 1 (by decide) (wc w_283) rfl (ty := .int) (by decide +kernel) rfl rfl (Nat.le_of_ble_eq_true rfl) rfl dX4_clear_7 (fun H locs hw => ?_)
  refine lv_aload_n C.1 C.2.1 dX4_clear_10 rfl (lv_at hl 0 rfl) ?_
  refine lv_iconst (v := (0 : Int32)) C.1 C.2.1 dX4_clear_11 (by decide) ?_
  refine c_puti C hw (inC inW4) tyX4 tyX4_ok nmX4 (kd_lt ha0 (by decide)) (ce4 ha0) rfl 2 (by decide) (wc w_286) rfl (ty := .int) (by decide +kernel) rfl rfl (Nat.le_of_ble_eq_true rfl) rfl dX4_clear_12 (fun H locs hw => ?_)
  refine lv_iconst (v := (0 : Int32)) C.1 C.2.1 dX4_clear_15 (by decide) ?_
  refine lv_istore_n (lv' := [(1, .int (0 : Int32)), (0, .ref (h a0))]) C.1 C.2.1 dX4_clear_16 rfl hl (by decide) rfl (fun ls hl => ?_)
  obtain ⟨n, hh⟩ := hh
  exact tX4_clear_b17 C hR ha0 n _ _ _ _ _ _ _ hh hw (lv_sub hl [1, 0] rfl)
def wpX4_clear (a0 : Nat) (F : Nat → Nat → Int32) (L : Nat → Nat → Int64) (r : Nat → Nat → Nat) (K : cS → Prop) : Prop := wpX4_clear_b0 a0 F L r K
theorem ctX4_clear (l : Launch) (D : va_G) (h : Nat → Nat) (cI cL cF cM : ClassId) (a0 : Nat) (ha0 : kd a0 = 4) (F : Nat → Nat → Int32) (L : Nat → Nat → Int64) (r : Nat → Nat → Nat) {K : cS → Prop} (hh : wpX4_clear a0 F L r K) : Cv l yX4_clear wsX4_clear rmX4_clear [.ref (h a0)] D (cT cI cL cF cM) (cWu h cI cL cF cM) (F, L, r) K := by
  refine Cv_of (cc := cX4_clear) (maxL := 2) (by decide) rfl (Nat.le_of_ble_eq_true rfl) ?_
  intro p e s m below meth c A Q C hw hR ls hl
  exact tX4_clear_b0 C hR ha0 hh hw hl
theorem cdX4_clear : yX4_clear.cls = RX4 ∧ yX4_clear.cls ≠ "java/lang/invoke/MethodHandle" ∧ yX4_clear.cls ≠ "java/lang/invoke/VarHandle" ∧ (parseMethodDescriptor yX4_clear.desc).map (fun d => d.parameters.length) = some 0 := by decide +kernel
abbrev rmX4_placeOfOutput : Room := { frames := 0, cells := 0, slots := 0, locals := 0 }
def wpX4_placeOfOutput_b0 (x0 : Int32) (K : Int32 → Unit → Prop) : Prop :=
  K (((20 : Int32) + x0) - (1 : Int32)) ()
set_option maxHeartbeats 4000000 in
set_option maxRecDepth 100000 in
theorem tX4_placeOfOutput_b0 {K : Int32 → Unit → Prop} (C : CallFix p m c cX4_placeOfOutput 1 s args wsX4_placeOfOutput RX4) (hR : Rti .int p l e rmX4_placeOfOutput s m args below meth c cX4_placeOfOutput D A [] (fun _ : Unit => []) K Q) {x0 : Int32} (hh : wpX4_placeOfOutput_b0 x0 K) {H : Heap} {locs : List Loc} {ls : Array Slot} (hw : Wd D A s [] [] H locs) (hl : lv_has ls 1 [(0, .int x0)]) : W p l e rmX4_placeOfOutput s m args below meth c H locs 0 0 Q (F0 m 0 ls []) := by
  unfold wpX4_placeOfOutput_b0 at hh
  refine lv_bipush (v := (20 : Int32)) C.1 C.2.1 dX4_placeOfOutput_0 (by decide) ?_
  refine lv_iload_n C.1 C.2.1 dX4_placeOfOutput_2 rfl (lv_at hl 0 rfl) ?_
  refine lv_iadd C.1 C.2.1 dX4_placeOfOutput_3 ?_
  refine lv_iconst (v := (1 : Int32)) C.1 C.2.1 dX4_placeOfOutput_4 (by decide) ?_
  refine lv_isub C.1 C.2.1 dX4_placeOfOutput_5 ?_
  exact hR _ _ _ () _ _ dX4_placeOfOutput_6 rfl hh hw
def wpX4_placeOfOutput (x0 : Int32) (K : Int32 → Unit → Prop) : Prop := wpX4_placeOfOutput_b0  x0 K
theorem ctX4_placeOfOutput (l : Launch) (D : va_G) (x0 : Int32) {K : Int32 → Unit → Prop} (hh : wpX4_placeOfOutput x0 K) : Ci l yX4_placeOfOutput wsX4_placeOfOutput rmX4_placeOfOutput [.int x0] D [] (fun _ : Unit => []) () K := by
  refine Ci_of (cc := cX4_placeOfOutput) (maxL := 1) (by decide) rfl (Nat.le_of_ble_eq_true rfl) ?_
  intro p e s m below meth c A Q C hw hR ls hl
  exact tX4_placeOfOutput_b0 C hR hh hw hl
theorem cdX4_placeOfOutput : yX4_placeOfOutput.cls ≠ "java/lang/invoke/MethodHandle" ∧ yX4_placeOfOutput.cls ≠ "java/lang/invoke/VarHandle" ∧ (parseMethodDescriptor yX4_placeOfOutput.desc).map (fun d => d.parameters.length) = some 1 := by decide +kernel
abbrev rmX5_findNames : Room := { frames := 0, cells := 0, slots := 0, locals := 0 }
def wpX5_findNames_b86 (F : Nat → Nat → Int32) (L : Nat → Nat → Int64) (r : Nat → Nat → Nat) (K : cS → Prop) : Prop :=
  K (F, L, r)
set_option maxHeartbeats 4000000 in
set_option maxRecDepth 100000 in
theorem tX5_findNames_b86 {K : cS → Prop} (C : CallFix p m c cX5_findNames 3 s args wsX5_findNames RX5) (hR : Rtv p l e rmX5_findNames s m args below meth c cX5_findNames D A (cT cI cL cF cM) (cWu h cI cL cF cM) K Q) {F : Nat → Nat → Int32} {L : Nat → Nat → Int64} {r : Nat → Nat → Nat} (hh : wpX5_findNames_b86 F L r K) {H : Heap} {locs : List Loc} {ls : Array Slot} (hw : Wd D A s (cT cI cL cF cM) (cW h cI cL cF cM F L r) H locs) (hl : lv_has ls 3 [(0, .ref (h 12))]) : W p l e rmX5_findNames s m args below meth c H locs 0 0 Q (F0 m 86 ls []) := by
  unfold wpX5_findNames_b86 at hh
  exact hR _ _ (F, L, r) _ _ dX5_findNames_86 hh hw
def wpX5_findNames_b80 (B2 : (Nat → Nat → Int32) → (Nat → Nat → Int64) → (Nat → Nat → Nat) → Int32 → Prop) (F : Nat → Nat → Int32) (L : Nat → Nat → Int64) (r : Nat → Nat → Nat) (x1 : Int32) (K : cS → Prop) : Prop :=
  B2 F L r (x1 + (1 : Int32))
set_option maxHeartbeats 4000000 in
set_option maxRecDepth 100000 in
theorem tX5_findNames_b80 {B2 : (Nat → Nat → Int32) → (Nat → Nat → Int64) → (Nat → Nat → Nat) → Int32 → Prop} {K : cS → Prop} (C : CallFix p m c cX5_findNames 3 s args wsX5_findNames RX5) (hR : Rtv p l e rmX5_findNames s m args below meth c cX5_findNames D A (cT cI cL cF cM) (cWu h cI cL cF cM) K Q) (hB2 : ∀ (F : Nat → Nat → Int32) (L : Nat → Nat → Int64) (r : Nat → Nat → Nat) (x1 : Int32) (H : Heap) (locs : List Loc) (ls : Array Slot), B2 F L r x1 → Wd D A s (cT cI cL cF cM) (cW h cI cL cF cM F L r) H locs → lv_has ls 3 [(0, .ref (h 12)), (1, .int x1)] → W p l e rmX5_findNames s m args below meth c H locs 0 0 Q (F0 m 2 ls [])) {F : Nat → Nat → Int32} {L : Nat → Nat → Int64} {r : Nat → Nat → Nat} {x1 : Int32} (hh : wpX5_findNames_b80 B2 F L r x1 K) {H : Heap} {locs : List Loc} {ls : Array Slot} (hw : Wd D A s (cT cI cL cF cM) (cW h cI cL cF cM F L r) H locs) (hl : lv_has ls 3 [(0, .ref (h 12)), (1, .int x1)]) : W p l e rmX5_findNames s m args below meth c H locs 0 0 Q (F0 m 80 ls []) := by
  unfold wpX5_findNames_b80 at hh
  refine lv_iinc (v := x1 + (1 : Int32)) (lv' := [(1, .int (x1 + (1 : Int32))), (0, .ref (h 12))]) C.1 C.2.1 dX5_findNames_80 hl (k := 1) rfl rfl (by decide) rfl (fun ls hl => ?_)
  refine lv_goto (tgt := 2) C.1 C.2.1 dX5_findNames_83 (by decide) ?_
  exact hB2 _ _ _ _ _ _ _ hh hw (lv_sub hl [1, 0] rfl)
def wpX5_findNames_b2_body (B2 : (Nat → Nat → Int32) → (Nat → Nat → Int64) → (Nat → Nat → Nat) → Int32 → Prop) (F : Nat → Nat → Int32) (L : Nat → Nat → Int64) (r : Nat → Nat → Nat) (x1 : Int32) (K : cS → Prop) : Prop :=
  kd (r 12 5) = 4 ∧ (((F (r 12 5) 2) ≤ x1) →
    wpX5_findNames_b86 F L r K) ∧
  (¬ ((F (r 12 5) 2) ≤ x1) →
    (¬ ((F 4 1) = 0) →
      wpX5_findNames_b86 F L r K) ∧
    (((F 4 1) = 0) →
      kd (r 12 5) = 4 ∧ vp_in x1 64 ∧ (¬ ((F (r 12 5 + 1) (ix x1)) = (28 : Int32)) →
        wpX5_findNames_b80 B2 F L r x1 K) ∧
      (((F (r 12 5 + 1) (ix x1)) = (28 : Int32)) →
        vp_in x1 64 ∧ False)))
set_option maxHeartbeats 4000000 in
set_option maxRecDepth 100000 in
theorem tX5_findNames_b2_body {B2 : (Nat → Nat → Int32) → (Nat → Nat → Int64) → (Nat → Nat → Nat) → Int32 → Prop} {K : cS → Prop} (C : CallFix p m c cX5_findNames 3 s args wsX5_findNames RX5) (hR : Rtv p l e rmX5_findNames s m args below meth c cX5_findNames D A (cT cI cL cF cM) (cWu h cI cL cF cM) K Q) (hB2 : ∀ (F : Nat → Nat → Int32) (L : Nat → Nat → Int64) (r : Nat → Nat → Nat) (x1 : Int32) (H : Heap) (locs : List Loc) (ls : Array Slot), B2 F L r x1 → Wd D A s (cT cI cL cF cM) (cW h cI cL cF cM F L r) H locs → lv_has ls 3 [(0, .ref (h 12)), (1, .int x1)] → W p l e rmX5_findNames s m args below meth c H locs 0 0 Q (F0 m 2 ls [])) {F : Nat → Nat → Int32} {L : Nat → Nat → Int64} {r : Nat → Nat → Nat} {x1 : Int32} (hh : wpX5_findNames_b2_body B2 F L r x1 K) {H : Heap} {locs : List Loc} {ls : Array Slot} (hw : Wd D A s (cT cI cL cF cM) (cW h cI cL cF cM F L r) H locs) (hl : lv_has ls 3 [(0, .ref (h 12)), (1, .int x1)]) : W p l e rmX5_findNames s m args below meth c H locs 0 0 Q (F0 m 2 ls []) := by
  unfold wpX5_findNames_b2_body at hh
  refine lv_iload_n C.1 C.2.1 dX5_findNames_2 rfl (lv_at hl 1 rfl) ?_
  refine lv_aload_n C.1 C.2.1 dX5_findNames_3 rfl (lv_at hl 0 rfl) ?_
  refine c_get C hw (inC inW5) (kd_lt kp12 (by decide)) (ce5 kp12) rfl 5 (by decide) (wc w_312) (v := .ref (h (r 12 5))) rfl dX5_findNames_4 ?_
  obtain ⟨hk0, hh⟩ := hh
  refine c_get C hw (inC inW4) (kd_lt hk0 (by decide)) (ce4 hk0) rfl 2 (by decide) (wc w_287) (v := .int (F (r 12 5) 2)) rfl dX5_findNames_7 ?_
  refine lv_icmp_ge (tgt := 86) C.1 C.2.1 dX5_findNames_10 (by decide) (fun c10 => ?_) (fun c10 => ?_)
  · replace hh := hh.1 c10
    exact tX5_findNames_b86 C hR hh hw (lv_sub hl [0] rfl)
  · replace hh := hh.2 c10
    refine lv_aload_n C.1 C.2.1 dX5_findNames_13 rfl (lv_at hl 0 rfl) ?_
    refine c_get C hw (inC inW5) (kd_lt kp12 (by decide)) (ce5 kp12) rfl 0 (by decide) (wc w_307) (v := .ref (h 4)) rfl dX5_findNames_14 ?_
    refine c_get C hw (inC inW9) (kd_lt kp4 (by decide)) (ce9 kp4) rfl 1 (by decide) (wc w_155) (v := .int (F 4 1)) rfl dX5_findNames_17 ?_
    refine lv_if_ne (tgt := 86) C.1 C.2.1 dX5_findNames_20 (by decide) (fun c20 => ?_) (fun c20 => ?_)
    · replace hh := hh.1 c20
      exact tX5_findNames_b86 C hR hh hw (lv_sub hl [0] rfl)
    · replace hh := hh.2 c20
      refine lv_aload_n C.1 C.2.1 dX5_findNames_23 rfl (lv_at hl 0 rfl) ?_
      refine c_get C hw (inC inW5) (kd_lt kp12 (by decide)) (ce5 kp12) rfl 5 (by decide) (wc w_312) (v := .ref (h (r 12 5))) rfl dX5_findNames_24 ?_
      obtain ⟨hk1, hh⟩ := hh
      refine c_get C hw (inC inW4) (kd_lt hk1 (by decide)) (ce4 hk1) rfl 3 (by decide) (wc w_289) (v := .ref (h (r 12 5 + 1))) rfl dX5_findNames_27 ?_
      refine lv_iload_n C.1 C.2.1 dX5_findNames_30 rfl (lv_at hl 1 rfl) ?_
      obtain ⟨hi31, hh⟩ := hh
      refine c_ial C hw (kd_lt (kd4_1 hk1) (by decide)) (ce17 (kd4_1 hk1)) hi31 dX5_findNames_31 ?_
      refine lv_bipush (v := (28 : Int32)) C.1 C.2.1 dX5_findNames_32 (by decide) ?_
      refine lv_icmp_ne (tgt := 80) C.1 C.2.1 dX5_findNames_34 (by decide) (fun c34 => ?_) (fun c34 => ?_)
      · replace hh := hh.1 c34
        exact tX5_findNames_b80 C hR hB2 hh hw hl
      · replace hh := hh.2 c34
        refine lv_aload_n C.1 C.2.1 dX5_findNames_37 rfl (lv_at hl 0 rfl) ?_
        refine lv_aload_n C.1 C.2.1 dX5_findNames_38 rfl (lv_at hl 0 rfl) ?_
        refine c_get C hw (inC inW5) (kd_lt kp12 (by decide)) (ce5 kp12) rfl 2 (by decide) (wc w_309) (v := .ref (h 14)) rfl dX5_findNames_39 ?_
        refine lv_iload_n C.1 C.2.1 dX5_findNames_42 rfl (lv_at hl 1 rfl) ?_
        obtain ⟨hi43, hh⟩ := hh
        refine c_ial C hw (kd_lt kp14 (by decide)) (ce17 kp14) hi43 dX5_findNames_43 ?_
        exact hh.elim
def wpX5_findNames_b2 (n_ : Nat) (F : Nat → Nat → Int32) (L : Nat → Nat → Int64) (r : Nat → Nat → Nat) (x1 : Int32) (K : cS → Prop) : Prop := match n_ with
  | 0 => False
  | n + 1 => wpX5_findNames_b2_body (fun F L r x1 => wpX5_findNames_b2 n F L r x1 K) F L r x1 K
theorem tX5_findNames_b2 {K : cS → Prop} (C : CallFix p m c cX5_findNames 3 s args wsX5_findNames RX5) (hR : Rtv p l e rmX5_findNames s m args below meth c cX5_findNames D A (cT cI cL cF cM) (cWu h cI cL cF cM) K Q) (n : Nat) : ∀ (F : Nat → Nat → Int32) (L : Nat → Nat → Int64) (r : Nat → Nat → Nat) (x1 : Int32) (H : Heap) (locs : List Loc) (ls : Array Slot), wpX5_findNames_b2 n F L r x1 K → Wd D A s (cT cI cL cF cM) (cW h cI cL cF cM F L r) H locs → lv_has ls 3 [(0, .ref (h 12)), (1, .int x1)] → W p l e rmX5_findNames s m args below meth c H locs 0 0 Q (F0 m 2 ls []) := by
  induction n with
  | zero => intro F L r x1 H locs ls hh; exact hh.elim
  | succ n ih => intro F L r x1 H locs ls hh hw hl; exact tX5_findNames_b2_body C hR ih hh hw hl
def wpX5_findNames_b0 (F : Nat → Nat → Int32) (L : Nat → Nat → Int64) (r : Nat → Nat → Nat) (K : cS → Prop) : Prop :=
  ∃ n, wpX5_findNames_b2 n F L r (0 : Int32) K
set_option maxHeartbeats 4000000 in
set_option maxRecDepth 100000 in
theorem tX5_findNames_b0 {K : cS → Prop} (C : CallFix p m c cX5_findNames 3 s args wsX5_findNames RX5) (hR : Rtv p l e rmX5_findNames s m args below meth c cX5_findNames D A (cT cI cL cF cM) (cWu h cI cL cF cM) K Q) {F : Nat → Nat → Int32} {L : Nat → Nat → Int64} {r : Nat → Nat → Nat} (hh : wpX5_findNames_b0 F L r K) {H : Heap} {locs : List Loc} {ls : Array Slot} (hw : Wd D A s (cT cI cL cF cM) (cW h cI cL cF cM F L r) H locs) (hl : lv_has ls 3 [(0, .ref (h 12))]) : W p l e rmX5_findNames s m args below meth c H locs 0 0 Q (F0 m 0 ls []) := by
  unfold wpX5_findNames_b0 at hh
  refine lv_iconst (v := (0 : Int32)) C.1 C.2.1 dX5_findNames_0 (by decide) ?_
  refine lv_istore_n (lv' := [(1, .int (0 : Int32)), (0, .ref (h 12))]) C.1 C.2.1 dX5_findNames_1 rfl hl (by decide) rfl (fun ls hl => ?_)
  obtain ⟨n, hh⟩ := hh
  exact tX5_findNames_b2 C hR n _ _ _ _ _ _ _ hh hw (lv_sub hl [1, 0] rfl)
def wpX5_findNames (F : Nat → Nat → Int32) (L : Nat → Nat → Int64) (r : Nat → Nat → Nat) (K : cS → Prop) : Prop := wpX5_findNames_b0 F L r K
theorem ctX5_findNames (l : Launch) (D : va_G) (h : Nat → Nat) (cI cL cF cM : ClassId) (F : Nat → Nat → Int32) (L : Nat → Nat → Int64) (r : Nat → Nat → Nat) {K : cS → Prop} (hh : wpX5_findNames F L r K) : Cv l yX5_findNames wsX5_findNames rmX5_findNames [.ref (h 12)] D (cT cI cL cF cM) (cWu h cI cL cF cM) (F, L, r) K := by
  refine Cv_of (cc := cX5_findNames) (maxL := 3) (by decide) rfl (Nat.le_of_ble_eq_true rfl) ?_
  intro p e s m below meth c A Q C hw hR ls hl
  exact tX5_findNames_b0 C hR hh hw hl
theorem cdX5_findNames : yX5_findNames.cls = RX5 ∧ yX5_findNames.cls ≠ "java/lang/invoke/MethodHandle" ∧ yX5_findNames.cls ≠ "java/lang/invoke/VarHandle" ∧ (parseMethodDescriptor yX5_findNames.desc).map (fun d => d.parameters.length) = some 0 := by decide +kernel
abbrev rmX5_read : Room := { frames := 2, cells := 0, slots := 0, locals := 43 }
def wpX5_read_b95 (F : Nat → Nat → Int32) (L : Nat → Nat → Int64) (r : Nat → Nat → Nat) (k0 : Int32) (K : Int32 → cS → Prop) : Prop :=
  isB k0 ∧ K k0 (F, L, r)
set_option maxHeartbeats 4000000 in
set_option maxRecDepth 100000 in
theorem tX5_read_b95 {K : Int32 → cS → Prop} (C : CallFix p m c cX5_read 3 s args wsX5_read RX5) (hR : Rti .boolean p l e rmX5_read s m args below meth c cX5_read D A (cT cI cL cF cM) (cWu h cI cL cF cM) K Q) {F : Nat → Nat → Int32} {L : Nat → Nat → Int64} {r : Nat → Nat → Nat} {k0 : Int32} (hh : wpX5_read_b95 F L r k0 K) {H : Heap} {locs : List Loc} {ls : Array Slot} (hw : Wd D A s (cT cI cL cF cM) (cW h cI cL cF cM F L r) H locs) (hl : lv_has ls 3 [(0, .ref (h 12))]) : W p l e rmX5_read s m args below meth c H locs 0 0 Q (F0 m 95 ls [.int k0]) := by
  unfold wpX5_read_b95 at hh
  obtain ⟨hb95, hh⟩ := hh
  exact hR _ _ _ (F, L, r) _ _ dX5_read_95 (isB_nar hb95) hh hw
def wpX5_read_b80 (F : Nat → Nat → Int32) (L : Nat → Nat → Int64) (r : Nat → Nat → Nat) (K : Int32 → cS → Prop) : Prop :=
  (¬ ((F 4 1) = 0) →
    wpX5_read_b95 F L r (0 : Int32) K) ∧
  (((F 4 1) = 0) →
    wpX5_read_b95 F L r (1 : Int32) K)
set_option maxHeartbeats 4000000 in
set_option maxRecDepth 100000 in
theorem tX5_read_b80 {K : Int32 → cS → Prop} (C : CallFix p m c cX5_read 3 s args wsX5_read RX5) (hR : Rti .boolean p l e rmX5_read s m args below meth c cX5_read D A (cT cI cL cF cM) (cWu h cI cL cF cM) K Q) {F : Nat → Nat → Int32} {L : Nat → Nat → Int64} {r : Nat → Nat → Nat} (hh : wpX5_read_b80 F L r K) {H : Heap} {locs : List Loc} {ls : Array Slot} (hw : Wd D A s (cT cI cL cF cM) (cW h cI cL cF cM F L r) H locs) (hl : lv_has ls 3 [(0, .ref (h 12))]) : W p l e rmX5_read s m args below meth c H locs 0 0 Q (F0 m 80 ls []) := by
  unfold wpX5_read_b80 at hh
  refine lv_aload_n C.1 C.2.1 dX5_read_80 rfl (lv_at hl 0 rfl) ?_
  refine c_get C hw (inC inW5) (kd_lt kp12 (by decide)) (ce5 kp12) rfl 0 (by decide) (wc w_307) (v := .ref (h 4)) rfl dX5_read_81 ?_
  refine c_get C hw (inC inW9) (kd_lt kp4 (by decide)) (ce9 kp4) rfl 1 (by decide) (wc w_155) (v := .int (F 4 1)) rfl dX5_read_84 ?_
  refine lv_if_ne (tgt := 94) C.1 C.2.1 dX5_read_87 (by decide) (fun c87 => ?_) (fun c87 => ?_)
  · replace hh := hh.1 c87
    refine lv_iconst (v := (0 : Int32)) C.1 C.2.1 dX5_read_94 (by decide) ?_
    exact tX5_read_b95 C hR hh hw hl
  · replace hh := hh.2 c87
    refine lv_iconst (v := (1 : Int32)) C.1 C.2.1 dX5_read_90 (by decide) ?_
    refine lv_goto (tgt := 95) C.1 C.2.1 dX5_read_91 (by decide) ?_
    exact tX5_read_b95 C hR hh hw hl
def wpX5_read_b66 (F : Nat → Nat → Int32) (L : Nat → Nat → Int64) (r : Nat → Nat → Nat) (K : Int32 → cS → Prop) : Prop :=
  (¬ ((F 4 1) = 0) →
    wpX5_read_b80 F L r K) ∧
  (((F 4 1) = 0) →
    wpX5_findNames F L r (fun u77 =>
      wpX5_read_b80 u77.1 u77.2.1 u77.2.2 K))
set_option maxHeartbeats 4000000 in
set_option maxRecDepth 100000 in
theorem tX5_read_b66 {K : Int32 → cS → Prop} (C : CallFix p m c cX5_read 3 s args wsX5_read RX5) (hR : Rti .boolean p l e rmX5_read s m args below meth c cX5_read D A (cT cI cL cF cM) (cWu h cI cL cF cM) K Q) {F : Nat → Nat → Int32} {L : Nat → Nat → Int64} {r : Nat → Nat → Nat} (hh : wpX5_read_b66 F L r K) {H : Heap} {locs : List Loc} {ls : Array Slot} (hw : Wd D A s (cT cI cL cF cM) (cW h cI cL cF cM F L r) H locs) (hl : lv_has ls 3 [(0, .ref (h 12))]) : W p l e rmX5_read s m args below meth c H locs 0 0 Q (F0 m 66 ls []) := by
  unfold wpX5_read_b66 at hh
  refine lv_aload_n C.1 C.2.1 dX5_read_66 rfl (lv_at hl 0 rfl) ?_
  refine c_get C hw (inC inW5) (kd_lt kp12 (by decide)) (ce5 kp12) rfl 0 (by decide) (wc w_307) (v := .ref (h 4)) rfl dX5_read_67 ?_
  refine c_get C hw (inC inW9) (kd_lt kp4 (by decide)) (ce9 kp4) rfl 1 (by decide) (wc w_155) (v := .int (F 4 1)) rfl dX5_read_70 ?_
  refine lv_if_ne (tgt := 80) C.1 C.2.1 dX5_read_73 (by decide) (fun c73 => ?_) (fun c73 => ?_)
  · replace hh := hh.1 c73
    exact tX5_read_b80 C hR hh hw hl
  · replace hh := hh.2 c73
    refine lv_aload_n C.1 C.2.1 dX5_read_76 rfl (lv_at hl 0 rfl) ?_
    refine c_Vv C hw (ctX5_findNames l D h cI cL cF cM F L r hh) (cwV 0 C.2.2.2.2 (gd_V w_892 w_894 w_28 w_118 w_895) rfl rfl rfl cdX5_findNames ⟨Nat.le_of_ble_eq_true rfl, Nat.le_of_ble_eq_true rfl⟩) rfl (kd_lt kp12 (by decide)) (ce5 kp12) rfl hl.1 (Nat.le_of_ble_eq_true rfl) dX5_read_77 ⟨Nat.zero_le _, Nat.zero_le _⟩ (fun u77 H locs hh hw => ?_) rfl
    exact tX5_read_b80 C hR hh hw hl
def wpX5_read_b29_body (B29 : (Nat → Nat → Int32) → (Nat → Nat → Int64) → (Nat → Nat → Nat) → Int32 → Prop) (F : Nat → Nat → Int32) (L : Nat → Nat → Int64) (r : Nat → Nat → Nat) (x2 : Int32) (K : Int32 → cS → Prop) : Prop :=
  (((500 : Int32) < x2) →
    wpX5_read_b66 F L r K) ∧
  (¬ ((500 : Int32) < x2) →
    (¬ ((F 4 1) = 0) →
      wpX5_read_b66 F L r K) ∧
    (((F 4 1) = 0) →
      (((F 4 3) = 0) →
        wpX5_read_b66 F L r K) ∧
      (¬ ((F 4 3) = 0) →
        False)))
set_option maxHeartbeats 4000000 in
set_option maxRecDepth 100000 in
theorem tX5_read_b29_body {B29 : (Nat → Nat → Int32) → (Nat → Nat → Int64) → (Nat → Nat → Nat) → Int32 → Prop} {K : Int32 → cS → Prop} (C : CallFix p m c cX5_read 3 s args wsX5_read RX5) (hR : Rti .boolean p l e rmX5_read s m args below meth c cX5_read D A (cT cI cL cF cM) (cWu h cI cL cF cM) K Q) (hB29 : ∀ (F : Nat → Nat → Int32) (L : Nat → Nat → Int64) (r : Nat → Nat → Nat) (x2 : Int32) (H : Heap) (locs : List Loc) (ls : Array Slot), B29 F L r x2 → Wd D A s (cT cI cL cF cM) (cW h cI cL cF cM F L r) H locs → lv_has ls 3 [(0, .ref (h 12)), (2, .int x2)] → W p l e rmX5_read s m args below meth c H locs 0 0 Q (F0 m 29 ls [])) {F : Nat → Nat → Int32} {L : Nat → Nat → Int64} {r : Nat → Nat → Nat} {x2 : Int32} (hh : wpX5_read_b29_body B29 F L r x2 K) {H : Heap} {locs : List Loc} {ls : Array Slot} (hw : Wd D A s (cT cI cL cF cM) (cW h cI cL cF cM F L r) H locs) (hl : lv_has ls 3 [(0, .ref (h 12)), (2, .int x2)]) : W p l e rmX5_read s m args below meth c H locs 0 0 Q (F0 m 29 ls []) := by
  unfold wpX5_read_b29_body at hh
  refine lv_iload_n C.1 C.2.1 dX5_read_29 rfl (lv_at hl 1 rfl) ?_
  refine lv_sipush (v := (500 : Int32)) C.1 C.2.1 dX5_read_30 (by decide) ?_
  refine lv_icmp_gt (tgt := 66) C.1 C.2.1 dX5_read_33 (by decide) (fun c33 => ?_) (fun c33 => ?_)
  · replace hh := hh.1 c33
    exact tX5_read_b66 C hR hh hw (lv_sub hl [0] rfl)
  · replace hh := hh.2 c33
    refine lv_aload_n C.1 C.2.1 dX5_read_36 rfl (lv_at hl 0 rfl) ?_
    refine c_get C hw (inC inW5) (kd_lt kp12 (by decide)) (ce5 kp12) rfl 0 (by decide) (wc w_307) (v := .ref (h 4)) rfl dX5_read_37 ?_
    refine c_get C hw (inC inW9) (kd_lt kp4 (by decide)) (ce9 kp4) rfl 1 (by decide) (wc w_155) (v := .int (F 4 1)) rfl dX5_read_40 ?_
    refine lv_if_ne (tgt := 66) C.1 C.2.1 dX5_read_43 (by decide) (fun c43 => ?_) (fun c43 => ?_)
    · replace hh := hh.1 c43
      exact tX5_read_b66 C hR hh hw (lv_sub hl [0] rfl)
    · replace hh := hh.2 c43
      refine lv_aload_n C.1 C.2.1 dX5_read_46 rfl (lv_at hl 0 rfl) ?_
      refine c_get C hw (inC inW5) (kd_lt kp12 (by decide)) (ce5 kp12) rfl 0 (by decide) (wc w_307) (v := .ref (h 4)) rfl dX5_read_47 ?_
      refine c_get C hw (inC inW9) (kd_lt kp4 (by decide)) (ce9 kp4) rfl 3 (by decide) (wc w_161) (v := .int (F 4 3)) rfl dX5_read_50 ?_
      refine lv_if_eq (tgt := 66) C.1 C.2.1 dX5_read_53 (by decide) (fun c53 => ?_) (fun c53 => ?_)
      · replace hh := hh.1 c53
        exact tX5_read_b66 C hR hh hw (lv_sub hl [0] rfl)
      · replace hh := hh.2 c53
        refine lv_aload_n C.1 C.2.1 dX5_read_56 rfl (lv_at hl 0 rfl) ?_
        exact hh.elim
def wpX5_read_b29 (n_ : Nat) (F : Nat → Nat → Int32) (L : Nat → Nat → Int64) (r : Nat → Nat → Nat) (x2 : Int32) (K : Int32 → cS → Prop) : Prop := match n_ with
  | 0 => False
  | n + 1 => wpX5_read_b29_body (fun F L r x2 => wpX5_read_b29 n F L r x2 K) F L r x2 K
theorem tX5_read_b29 {K : Int32 → cS → Prop} (C : CallFix p m c cX5_read 3 s args wsX5_read RX5) (hR : Rti .boolean p l e rmX5_read s m args below meth c cX5_read D A (cT cI cL cF cM) (cWu h cI cL cF cM) K Q) (n : Nat) : ∀ (F : Nat → Nat → Int32) (L : Nat → Nat → Int64) (r : Nat → Nat → Nat) (x2 : Int32) (H : Heap) (locs : List Loc) (ls : Array Slot), wpX5_read_b29 n F L r x2 K → Wd D A s (cT cI cL cF cM) (cW h cI cL cF cM F L r) H locs → lv_has ls 3 [(0, .ref (h 12)), (2, .int x2)] → W p l e rmX5_read s m args below meth c H locs 0 0 Q (F0 m 29 ls []) := by
  induction n with
  | zero => intro F L r x2 H locs ls hh; exact hh.elim
  | succ n ih => intro F L r x2 H locs ls hh hw hl; exact tX5_read_b29_body C hR ih hh hw hl
def wpX5_read_b0 (F : Nat → Nat → Int32) (L : Nat → Nat → Int64) (r : Nat → Nat → Nat) (x1 : Int32) (K : Int32 → cS → Prop) : Prop :=
  kd (r 12 5) = 4 ∧ wpX4_clear (r 12 5) F L r (fun u4 =>
    ∀ z_22 : Nat, wpX9_open z_22 (pt (pt u4.1 12 6 (0 : Int32)) 12 7 (0 : Int32)) u4.2.1 u4.2.2 x1 (fun u24 =>
    ∃ n, wpX5_read_b29 n u24.1 u24.2.1 u24.2.2 (0 : Int32) K))
set_option maxHeartbeats 4000000 in
set_option maxRecDepth 100000 in
theorem tX5_read_b0 {K : Int32 → cS → Prop} (C : CallFix p m c cX5_read 3 s args wsX5_read RX5) (hR : Rti .boolean p l e rmX5_read s m args below meth c cX5_read D A (cT cI cL cF cM) (cWu h cI cL cF cM) K Q) {F : Nat → Nat → Int32} {L : Nat → Nat → Int64} {r : Nat → Nat → Nat} {x1 : Int32} (hh : wpX5_read_b0 F L r x1 K) {H : Heap} {locs : List Loc} {ls : Array Slot} (hw : Wd D A s (cT cI cL cF cM) (cW h cI cL cF cM F L r) H locs) (hl : lv_has ls 3 [(0, .ref (h 12)), (1, .int x1)]) : W p l e rmX5_read s m args below meth c H locs 0 0 Q (F0 m 0 ls []) := by
  unfold wpX5_read_b0 at hh
  refine lv_aload_n C.1 C.2.1 dX5_read_0 rfl (lv_at hl 0 rfl) ?_
  refine c_get C hw (inC inW5) (kd_lt kp12 (by decide)) (ce5 kp12) rfl 5 (by decide) (wc w_312) (v := .ref (h (r 12 5))) rfl dX5_read_1 ?_
  obtain ⟨hk0, hh⟩ := hh
  refine c_Vv C hw (ctX4_clear l D h cI cL cF cM (r 12 5) hk0 F L r hh) (cwV 0 C.2.2.2.2 (gd_V w_820 w_821 w_822 w_119 w_823) rfl rfl rfl cdX4_clear ⟨Nat.le_of_ble_eq_true rfl, Nat.le_of_ble_eq_true rfl⟩) rfl (kd_lt hk0 (by decide)) (ce4 hk0) rfl hl.1 (Nat.le_of_ble_eq_true rfl) dX5_read_4 ⟨Nat.zero_le _, Nat.zero_le _⟩ (fun u4 H locs hh hw => ?_) rfl
  refine lv_aload_n C.1 C.2.1 dX5_read_7 rfl (lv_at hl 0 rfl) ?_
  refine lv_iconst (v := (0 : Int32)) C.1 C.2.1 dX5_read_8 (by decide) ?_
  refine c_puti C hw (inC inW5) tyX5 tyX5_ok nmX5 (kd_lt kp12 (by decide)) (ce5 kp12) rfl 6 (by decide) (wc w_313) rfl (ty := .int) (by decide +kernel) rfl rfl (Nat.le_of_ble_eq_true rfl) rfl dX5_read_9 (fun H locs hw => ?_)
  refine lv_aload_n C.1 C.2.1 dX5_read_12 rfl (lv_at hl 0 rfl) ?_
  refine lv_iconst (v := (0 : Int32)) C.1 C.2.1 dX5_read_13 (by decide) ?_
  refine c_puti C hw (inC inW5) tyX5 tyX5_ok nmX5 (kd_lt kp12 (by decide)) (ce5 kp12) rfl 7 (by decide) (wc w_314) rfl (ty := .int) (by decide +kernel) rfl rfl (Nat.le_of_ble_eq_true rfl) rfl dX5_read_14 (fun H locs hw => ?_)
  refine lv_aload_n C.1 C.2.1 dX5_read_17 rfl (lv_at hl 0 rfl) ?_
  refine c_get C hw (inC inW5) (kd_lt kp12 (by decide)) (ce5 kp12) rfl 0 (by decide) (wc w_307) (v := .ref (h 4)) rfl dX5_read_18 ?_
  refine lv_iload_n C.1 C.2.1 dX5_read_21 rfl (lv_at hl 1 rfl) ?_
  obtain ⟨z_22, hz_22⟩ := hw.2.2.2.2.2.2.1
  refine va_ldcS C.1 C.2.1 C.2.2.2.1 hz_22 dX5_read_22 ?_
  replace hh := hh z_22
  refine c_Vv C hw (ctX9_open l D h cI cL cF cM z_22 (pt (pt u4.1 12 6 (0 : Int32)) 12 7 (0 : Int32)) u4.2.1 u4.2.2 x1 hh) (cwV 2 C.2.2.2.2 (gd_V w_825 w_638 w_639 w_115 w_640) rfl rfl rfl cdX9_open ⟨Nat.le_of_ble_eq_true rfl, Nat.le_of_ble_eq_true rfl⟩) rfl (kd_lt kp4 (by decide)) (ce9 kp4) rfl hl.1 (Nat.le_of_ble_eq_true rfl) dX5_read_24 ⟨Nat.zero_le _, Nat.zero_le _⟩ (fun u24 H locs hh hw => ?_) rfl
  refine lv_iconst (v := (0 : Int32)) C.1 C.2.1 dX5_read_27 (by decide) ?_
  refine lv_istore_n (lv' := [(2, .int (0 : Int32)), (0, .ref (h 12)), (1, .int x1)]) C.1 C.2.1 dX5_read_28 rfl hl (by decide) rfl (fun ls hl => ?_)
  obtain ⟨n, hh⟩ := hh
  exact tX5_read_b29 C hR n _ _ _ _ _ _ _ hh hw (lv_sub hl [1, 0] rfl)
def wpX5_read (F : Nat → Nat → Int32) (L : Nat → Nat → Int64) (r : Nat → Nat → Nat) (x1 : Int32) (K : Int32 → cS → Prop) : Prop := wpX5_read_b0 F L r x1 K
theorem ctX5_read (l : Launch) (D : va_G) (h : Nat → Nat) (cI cL cF cM : ClassId) (F : Nat → Nat → Int32) (L : Nat → Nat → Int64) (r : Nat → Nat → Nat) (x1 : Int32) {K : Int32 → cS → Prop} (hh : wpX5_read F L r x1 K) : Ci l yX5_read wsX5_read rmX5_read [.ref (h 12), .int x1] D (cT cI cL cF cM) (cWu h cI cL cF cM) (F, L, r) K := by
  refine Ci_of (cc := cX5_read) (maxL := 3) (by decide) rfl (Nat.le_of_ble_eq_true rfl) ?_
  intro p e s m below meth c A Q C hw hR ls hl
  exact tX5_read_b0 C hR hh hw hl
theorem cdX5_read : yX5_read.cls = RX5 ∧ yX5_read.cls ≠ "java/lang/invoke/MethodHandle" ∧ yX5_read.cls ≠ "java/lang/invoke/VarHandle" ∧ (parseMethodDescriptor yX5_read.desc).map (fun d => d.parameters.length) = some 1 := by decide +kernel
abbrev rmX5_exchange : Room := { frames := 0, cells := 0, slots := 0, locals := 0 }
def wpX5_exchange_b0 (a1 : Nat) (F : Nat → Nat → Int32) (L : Nat → Nat → Int64) (r : Nat → Nat → Nat) (K : Nat → cS → Prop) : Prop :=
  K (r 12 5) (F, L, ptN r 12 5 a1)
set_option maxHeartbeats 4000000 in
set_option maxRecDepth 100000 in
theorem tX5_exchange_b0 {a1 : Nat} {K : Nat → cS → Prop} (C : CallFix p m c cX5_exchange 3 s args wsX5_exchange RX5) (hR : Rtr p l e rmX5_exchange s m args below meth c cX5_exchange D A (cT cI cL cF cM) (cWu h cI cL cF cM) h K Q) (ha1 : kd a1 = 4) {F : Nat → Nat → Int32} {L : Nat → Nat → Int64} {r : Nat → Nat → Nat} (hh : wpX5_exchange_b0 a1 F L r K) {H : Heap} {locs : List Loc} {ls : Array Slot} (hw : Wd D A s (cT cI cL cF cM) (cW h cI cL cF cM F L r) H locs) (hl : lv_has ls 3 [(0, .ref (h 12)), (1, .ref (h a1))]) : W p l e rmX5_exchange s m args below meth c H locs 0 0 Q (F0 m 0 ls []) := by
  unfold wpX5_exchange_b0 at hh
  refine lv_aload_n C.1 C.2.1 dX5_exchange_0 rfl (lv_at hl 0 rfl) ?_
  refine c_get C hw (inC inW5) (kd_lt kp12 (by decide)) (ce5 kp12) rfl 5 (by decide) (wc w_312) (v := .ref (h (r 12 5))) rfl dX5_exchange_1 ?_
  refine lv_astore_n (lv' := [(2, .ref (h (r 12 5))), (0, .ref (h 12)), (1, .ref (h a1))]) C.1 C.2.1 dX5_exchange_4 rfl hl (by decide) rfl (fun ls hl => ?_)
  refine lv_aload_n C.1 C.2.1 dX5_exchange_5 rfl (lv_at hl 1 rfl) ?_
  refine lv_aload_n C.1 C.2.1 dX5_exchange_6 rfl (lv_at hl 2 rfl) ?_
  refine c_putr (v := a1) C hw (inC inW5) tyX5 tyX5_ok nmX5 (kd_lt kp12 (by decide)) (ce5 kp12) rfl 5 (by decide) (wc w_312) rfl (ty := .object "RelayMouse$Net") (by decide +kernel) rfl rfl (Nat.le_of_ble_eq_true rfl) rfl dX5_exchange_7 (fun H locs hw => ?_)
  refine lv_aload_n C.1 C.2.1 dX5_exchange_10 rfl (lv_at hl 0 rfl) ?_
  exact hR _ _ (r 12 5) (F, L, ptN r 12 5 a1) _ _ dX5_exchange_11 hh hw
def wpX5_exchange (a1 : Nat) (F : Nat → Nat → Int32) (L : Nat → Nat → Int64) (r : Nat → Nat → Nat) (K : Nat → cS → Prop) : Prop := wpX5_exchange_b0 a1 F L r K
theorem ctX5_exchange (l : Launch) (D : va_G) (h : Nat → Nat) (cI cL cF cM : ClassId) (a1 : Nat) (ha1 : kd a1 = 4) (F : Nat → Nat → Int32) (L : Nat → Nat → Int64) (r : Nat → Nat → Nat) {K : Nat → cS → Prop} (hh : wpX5_exchange a1 F L r K) : Cr l yX5_exchange wsX5_exchange rmX5_exchange [.ref (h 12), .ref (h a1)] D (cT cI cL cF cM) (cWu h cI cL cF cM) h (F, L, r) K := by
  refine Cr_of (cc := cX5_exchange) (maxL := 3) (by decide) rfl (Nat.le_of_ble_eq_true rfl) ?_
  intro p e s m below meth c A Q C hw hR ls hl
  exact tX5_exchange_b0 C hR ha1 hh hw hl
theorem cdX5_exchange : yX5_exchange.cls = RX5 ∧ yX5_exchange.cls ≠ "java/lang/invoke/MethodHandle" ∧ yX5_exchange.cls ≠ "java/lang/invoke/VarHandle" ∧ (parseMethodDescriptor yX5_exchange.desc).map (fun d => d.parameters.length) = some 1 := by decide +kernel
abbrev rmX0_renew : Room := { frames := 0, cells := 0, slots := 0, locals := 0 }
def wpX0_renew_b0 (a0 : Nat) (F : Nat → Nat → Int32) (L : Nat → Nat → Int64) (r : Nat → Nat → Nat) (K : cS → Prop) : Prop :=
  K (pt (pt (pt (pt F a0 1 (0 : Int32)) a0 2 (0 : Int32)) a0 0 (0 : Int32)) a0 3 (0 : Int32), L, r)
set_option maxHeartbeats 4000000 in
set_option maxRecDepth 100000 in
theorem tX0_renew_b0 {a0 : Nat} {K : cS → Prop} (C : CallFix p m c cX0_renew 1 s args wsX0_renew RX0) (hR : Rtv p l e rmX0_renew s m args below meth c cX0_renew D A (cT cI cL cF cM) (cWu h cI cL cF cM) K Q) (ha0 : kd a0 = 0) {F : Nat → Nat → Int32} {L : Nat → Nat → Int64} {r : Nat → Nat → Nat} (hh : wpX0_renew_b0 a0 F L r K) {H : Heap} {locs : List Loc} {ls : Array Slot} (hw : Wd D A s (cT cI cL cF cM) (cW h cI cL cF cM F L r) H locs) (hl : lv_has ls 1 [(0, .ref (h a0))]) : W p l e rmX0_renew s m args below meth c H locs 0 0 Q (F0 m 0 ls []) := by
  unfold wpX0_renew_b0 at hh
  refine lv_aload_n C.1 C.2.1 dX0_renew_0 rfl (lv_at hl 0 rfl) ?_
  refine lv_iconst (v := (0 : Int32)) C.1 C.2.1 dX0_renew_1 (by decide) ?_
  refine c_puti C hw (inC inW0) tyX0 tyX0_ok nmX0 (kd_lt ha0 (by decide)) (ce0 ha0) rfl 1 (by decide) (wc w_441) rfl (ty := .int) (by decide +kernel) rfl rfl (Nat.le_of_ble_eq_true rfl) rfl dX0_renew_2 (fun H locs hw => ?_)
  refine lv_aload_n C.1 C.2.1 dX0_renew_5 rfl (lv_at hl 0 rfl) ?_
  refine lv_iconst (v := (0 : Int32)) C.1 C.2.1 dX0_renew_6 (by decide) ?_
  refine c_puti C hw (inC inW0) tyX0 tyX0_ok nmX0 (kd_lt ha0 (by decide)) (ce0 ha0) rfl 2 (by decide) (wc w_443) rfl (ty := .int) (by decide +kernel) rfl rfl (Nat.le_of_ble_eq_true rfl) rfl dX0_renew_7 (fun H locs hw => ?_)
  refine lv_aload_n C.1 C.2.1 dX0_renew_10 rfl (lv_at hl 0 rfl) ?_
  refine lv_iconst (v := (0 : Int32)) C.1 C.2.1 dX0_renew_11 (by decide) ?_
  refine c_puti C hw (inC inW0) tyX0 tyX0_ok nmX0 (kd_lt ha0 (by decide)) (ce0 ha0) rfl 0 (by decide) (wc w_439) rfl (ty := .int) (by decide +kernel) rfl rfl (Nat.le_of_ble_eq_true rfl) rfl dX0_renew_12 (fun H locs hw => ?_)
  refine lv_aload_n C.1 C.2.1 dX0_renew_15 rfl (lv_at hl 0 rfl) ?_
  refine lv_iconst (v := (0 : Int32)) C.1 C.2.1 dX0_renew_16 (by decide) ?_
  refine c_puti C hw (inC inW0) tyX0 tyX0_ok nmX0 (kd_lt ha0 (by decide)) (ce0 ha0) rfl 3 (by decide) (wc w_444) rfl (ty := .boolean) (by decide +kernel) rfl rfl (Nat.le_of_ble_eq_true rfl) rfl dX0_renew_17 (fun H locs hw => ?_)
  exact hR _ _ (pt (pt (pt (pt F a0 1 (0 : Int32)) a0 2 (0 : Int32)) a0 0 (0 : Int32)) a0 3 (0 : Int32), L, r) _ _ dX0_renew_20 hh hw
def wpX0_renew (a0 : Nat) (F : Nat → Nat → Int32) (L : Nat → Nat → Int64) (r : Nat → Nat → Nat) (K : cS → Prop) : Prop := wpX0_renew_b0 a0 F L r K
theorem ctX0_renew (l : Launch) (D : va_G) (h : Nat → Nat) (cI cL cF cM : ClassId) (a0 : Nat) (ha0 : kd a0 = 0) (F : Nat → Nat → Int32) (L : Nat → Nat → Int64) (r : Nat → Nat → Nat) {K : cS → Prop} (hh : wpX0_renew a0 F L r K) : Cv l yX0_renew wsX0_renew rmX0_renew [.ref (h a0)] D (cT cI cL cF cM) (cWu h cI cL cF cM) (F, L, r) K := by
  refine Cv_of (cc := cX0_renew) (maxL := 1) (by decide) rfl (Nat.le_of_ble_eq_true rfl) ?_
  intro p e s m below meth c A Q C hw hR ls hl
  exact tX0_renew_b0 C hR ha0 hh hw hl
theorem cdX0_renew : yX0_renew.cls = RX0 ∧ yX0_renew.cls ≠ "java/lang/invoke/MethodHandle" ∧ yX0_renew.cls ≠ "java/lang/invoke/VarHandle" ∧ (parseMethodDescriptor yX0_renew.desc).map (fun d => d.parameters.length) = some 0 := by decide +kernel
abbrev rmX10_net : Room := { frames := 3, cells := 0, slots := 0, locals := 65 }
def wpX10_net_b15 (F : Nat → Nat → Int32) (L : Nat → Nat → Int64) (r : Nat → Nat → Nat) (K : Int32 → cS → Prop) : Prop :=
  K (-2 : Int32) (F, L, r)
set_option maxHeartbeats 4000000 in
set_option maxRecDepth 100000 in
theorem tX10_net_b15 {K : Int32 → cS → Prop} (C : CallFix p m c cX10_net 2 s args wsX10_net RX10) (hR : Rti .int p l e rmX10_net s m args below meth c cX10_net D A (cT cI cL cF cM) (cWu h cI cL cF cM) K Q) {F : Nat → Nat → Int32} {L : Nat → Nat → Int64} {r : Nat → Nat → Nat} (hh : wpX10_net_b15 F L r K) {H : Heap} {locs : List Loc} {ls : Array Slot} (hw : Wd D A s (cT cI cL cF cM) (cW h cI cL cF cM F L r) H locs) (hl : lv_has ls 2 [(0, .ref (h 0))]) : W p l e rmX10_net s m args below meth c H locs 0 0 Q (F0 m 15 ls []) := by
  unfold wpX10_net_b15 at hh
  refine lv_bipush (v := (-2 : Int32)) C.1 C.2.1 dX10_net_15 (by decide) ?_
  exact hR _ _ _ (F, L, r) _ _ dX10_net_17 rfl hh hw
def wpX10_net_b0 (F : Nat → Nat → Int32) (L : Nat → Nat → Int64) (r : Nat → Nat → Nat) (x1 : Int32) (K : Int32 → cS → Prop) : Prop :=
  ((x1 < 0) →
    wpX10_net_b15 F L r K) ∧
  (¬ (x1 < 0) →
    ((x1 ≤ (F 4 0)) →
      wpX5_read F L r x1 (fun r23 u23 =>
        (¬ (r23 = 0) →
        kd (u23.2.2 0 4) = 4 ∧ wpX5_exchange (u23.2.2 0 4) u23.1 u23.2.1 u23.2.2 (fun r40 u40 =>
          wpX0_renew 43 u40.1 u40.2.1 (ptN u40.2.2 0 4 r40) (fun u50 =>
          kd (u50.2.2 0 4) = 4 ∧ K ((pt u50.1 0 11 (0 : Int32)) (u50.2.2 0 4) 0) (pt u50.1 0 11 (0 : Int32), u50.2.1, u50.2.2)))) ∧
      ((r23 = 0) →
        K (-1 : Int32) (u23.1, u23.2.1, u23.2.2)))) ∧
    (¬ (x1 ≤ (F 4 0)) →
      wpX10_net_b15 F L r K))
set_option maxHeartbeats 4000000 in
set_option maxRecDepth 100000 in
theorem tX10_net_b0 {K : Int32 → cS → Prop} (C : CallFix p m c cX10_net 2 s args wsX10_net RX10) (hR : Rti .int p l e rmX10_net s m args below meth c cX10_net D A (cT cI cL cF cM) (cWu h cI cL cF cM) K Q) {F : Nat → Nat → Int32} {L : Nat → Nat → Int64} {r : Nat → Nat → Nat} {x1 : Int32} (hh : wpX10_net_b0 F L r x1 K) {H : Heap} {locs : List Loc} {ls : Array Slot} (hw : Wd D A s (cT cI cL cF cM) (cW h cI cL cF cM F L r) H locs) (hl : lv_has ls 2 [(0, .ref (h 0)), (1, .int x1)]) : W p l e rmX10_net s m args below meth c H locs 0 0 Q (F0 m 0 ls []) := by
  unfold wpX10_net_b0 at hh
  refine lv_iload_n C.1 C.2.1 dX10_net_0 rfl (lv_at hl 1 rfl) ?_
  refine lv_if_lt (tgt := 15) C.1 C.2.1 dX10_net_1 (by decide) (fun c1 => ?_) (fun c1 => ?_)
  · replace hh := hh.1 c1
    exact tX10_net_b15 C hR hh hw (lv_sub hl [0] rfl)
  · replace hh := hh.2 c1
    refine lv_iload_n C.1 C.2.1 dX10_net_4 rfl (lv_at hl 1 rfl) ?_
    refine lv_aload_n C.1 C.2.1 dX10_net_5 rfl (lv_at hl 0 rfl) ?_
    refine c_get C hw (inC inW10) (kd_lt kp0 (by decide)) (ce10 kp0) rfl 0 (by decide) (wc w_570) (v := .ref (h 4)) rfl dX10_net_6 ?_
    refine c_get C hw (inC inW9) (kd_lt kp4 (by decide)) (ce9 kp4) rfl 0 (by decide) (wc w_153) (v := .int (F 4 0)) rfl dX10_net_9 ?_
    refine lv_icmp_le (tgt := 18) C.1 C.2.1 dX10_net_12 (by decide) (fun c12 => ?_) (fun c12 => ?_)
    · replace hh := hh.1 c12
      refine lv_aload_n C.1 C.2.1 dX10_net_18 rfl (lv_at hl 0 rfl) ?_
      refine c_get C hw (inC inW10) (kd_lt kp0 (by decide)) (ce10 kp0) rfl 2 (by decide) (wc w_572) (v := .ref (h 12)) rfl dX10_net_19 ?_
      refine lv_iload_n C.1 C.2.1 dX10_net_22 rfl (lv_at hl 1 rfl) ?_
      refine c_Vi C hw (ctX5_read l D h cI cL cF cM F L r x1 hh) (cwV 1 C.2.2.2.2 (gd_V w_816 w_817 w_818 w_118 w_819) rfl rfl rfl cdX5_read ⟨Nat.le_of_ble_eq_true rfl, Nat.le_of_ble_eq_true rfl⟩) rfl (kd_lt kp12 (by decide)) (ce5 kp12) rfl hl.1 (Nat.le_of_ble_eq_true rfl) dX10_net_23 ⟨Nat.zero_le _, Nat.zero_le _⟩ (fun r23 u23 H locs hh hw => ?_) rfl
      refine lv_if_ne (tgt := 31) C.1 C.2.1 dX10_net_26 (by decide) (fun c26 => ?_) (fun c26 => ?_)
      · replace hh := hh.1 c26
        refine lv_aload_n C.1 C.2.1 dX10_net_31 rfl (lv_at hl 0 rfl) ?_
        refine lv_aload_n C.1 C.2.1 dX10_net_32 rfl (lv_at hl 0 rfl) ?_
        refine c_get C hw (inC inW10) (kd_lt kp0 (by decide)) (ce10 kp0) rfl 2 (by decide) (wc w_572) (v := .ref (h 12)) rfl dX10_net_33 ?_
        refine lv_aload_n C.1 C.2.1 dX10_net_36 rfl (lv_at hl 0 rfl) ?_
        refine c_get C hw (inC inW10) (kd_lt kp0 (by decide)) (ce10 kp0) rfl 4 (by decide) (wc w_574) (v := .ref (h (u23.2.2 0 4))) rfl dX10_net_37 ?_
        obtain ⟨hk0, hh⟩ := hh
        refine c_Vr C hw (ctX5_exchange l D h cI cL cF cM (u23.2.2 0 4) hk0 u23.1 u23.2.1 u23.2.2 hh) (cwV 1 C.2.2.2.2 (gd_V w_896 w_897 w_898 w_118 w_899) rfl rfl rfl cdX5_exchange ⟨Nat.le_of_ble_eq_true rfl, Nat.le_of_ble_eq_true rfl⟩) rfl (kd_lt kp12 (by decide)) (ce5 kp12) rfl hl.1 (Nat.le_of_ble_eq_true rfl) dX10_net_40 ⟨Nat.zero_le _, Nat.zero_le _⟩ (fun r40 u40 H locs hh hw => ?_) rfl
        refine c_putr (v := r40) C hw (inC inW10) tyX10 tyX10_ok nmX10 (kd_lt kp0 (by decide)) (ce10 kp0) rfl 4 (by decide) (wc w_574) rfl (ty := .object "RelayMouse$Net") (by decide +kernel) rfl rfl (Nat.le_of_ble_eq_true rfl) rfl dX10_net_43 (fun H locs hw => ?_)
        refine lv_aload_n C.1 C.2.1 dX10_net_46 rfl (lv_at hl 0 rfl) ?_
        refine c_get C hw (inC inW10) (kd_lt kp0 (by decide)) (ce10 kp0) rfl 7 (by decide) (wc w_577) (v := .ref (h 43)) rfl dX10_net_47 ?_
        refine c_Vv C hw (ctX0_renew l D h cI cL cF cM 43 kp43 u40.1 u40.2.1 (ptN u40.2.2 0 4 r40) hh) (cwV 0 C.2.2.2.2 (gd_V w_900 w_901 w_902 w_122 w_903) rfl rfl rfl cdX0_renew ⟨Nat.le_of_ble_eq_true rfl, Nat.le_of_ble_eq_true rfl⟩) rfl (kd_lt kp43 (by decide)) (ce0 kp43) rfl hl.1 (Nat.le_of_ble_eq_true rfl) dX10_net_50 ⟨Nat.zero_le _, Nat.zero_le _⟩ (fun u50 H locs hh hw => ?_) rfl
        refine lv_aload_n C.1 C.2.1 dX10_net_53 rfl (lv_at hl 0 rfl) ?_
        refine lv_iconst (v := (0 : Int32)) C.1 C.2.1 dX10_net_54 (by decide) ?_
        refine c_puti C hw (inC inW10) tyX10 tyX10_ok nmX10 (kd_lt kp0 (by decide)) (ce10 kp0) rfl 11 (by decide) (wc w_581) rfl (ty := .int) (by decide +kernel) rfl rfl (Nat.le_of_ble_eq_true rfl) rfl dX10_net_55 (fun H locs hw => ?_)
        refine lv_aload_n C.1 C.2.1 dX10_net_58 rfl (lv_at hl 0 rfl) ?_
        refine c_get C hw (inC inW10) (kd_lt kp0 (by decide)) (ce10 kp0) rfl 4 (by decide) (wc w_574) (v := .ref (h (u50.2.2 0 4))) rfl dX10_net_59 ?_
        obtain ⟨hk1, hh⟩ := hh
        refine c_get C hw (inC inW4) (kd_lt hk1 (by decide)) (ce4 hk1) rfl 0 (by decide) (wc w_279) (v := .int ((pt u50.1 0 11 (0 : Int32)) (u50.2.2 0 4) 0)) rfl dX10_net_62 ?_
        exact hR _ _ _ (pt u50.1 0 11 (0 : Int32), u50.2.1, u50.2.2) _ _ dX10_net_65 rfl hh hw
      · replace hh := hh.2 c26
        refine lv_iconst (v := (-1 : Int32)) C.1 C.2.1 dX10_net_29 (by decide) ?_
        exact hR _ _ _ (u23.1, u23.2.1, u23.2.2) _ _ dX10_net_30 rfl hh hw
    · replace hh := hh.2 c12
      exact tX10_net_b15 C hR hh hw (lv_sub hl [0] rfl)
def wpX10_net (F : Nat → Nat → Int32) (L : Nat → Nat → Int64) (r : Nat → Nat → Nat) (x1 : Int32) (K : Int32 → cS → Prop) : Prop := wpX10_net_b0 F L r x1 K
theorem ctX10_net (l : Launch) (D : va_G) (h : Nat → Nat) (cI cL cF cM : ClassId) (F : Nat → Nat → Int32) (L : Nat → Nat → Int64) (r : Nat → Nat → Nat) (x1 : Int32) {K : Int32 → cS → Prop} (hh : wpX10_net F L r x1 K) : Ci l yX10_net wsX10_net rmX10_net [.ref (h 0), .int x1] D (cT cI cL cF cM) (cWu h cI cL cF cM) (F, L, r) K := by
  refine Ci_of (cc := cX10_net) (maxL := 2) (by decide) rfl (Nat.le_of_ble_eq_true rfl) ?_
  intro p e s m below meth c A Q C hw hR ls hl
  exact tX10_net_b0 C hR hh hw hl
theorem cdX10_net : yX10_net.cls = RX10 ∧ yX10_net.cls ≠ "java/lang/invoke/MethodHandle" ∧ yX10_net.cls ≠ "java/lang/invoke/VarHandle" ∧ (parseMethodDescriptor yX10_net.desc).map (fun d => d.parameters.length) = some 1 := by decide +kernel
abbrev rmX10_fault : Room := { frames := 0, cells := 0, slots := 0, locals := 0 }
def wpX10_fault_b0 (F : Nat → Nat → Int32) (L : Nat → Nat → Int64) (r : Nat → Nat → Nat) (x1 : Int32) (K : Int32 → cS → Prop) : Prop :=
  (x1 = (0 : Int32) →
    K (F 4 1) (F, L, r)) ∧
  (x1 = (1 : Int32) →
    K (F 4 2) (F, L, r)) ∧
  (¬ x1 = (0 : Int32) ∧ ¬ x1 = (1 : Int32) →
    K (-1 : Int32) (F, L, r))
set_option maxHeartbeats 4000000 in
set_option maxRecDepth 100000 in
theorem tX10_fault_b0 {K : Int32 → cS → Prop} (C : CallFix p m c cX10_fault 2 s args wsX10_fault RX10) (hR : Rti .int p l e rmX10_fault s m args below meth c cX10_fault D A (cT cI cL cF cM) (cWu h cI cL cF cM) K Q) {F : Nat → Nat → Int32} {L : Nat → Nat → Int64} {r : Nat → Nat → Nat} {x1 : Int32} (hh : wpX10_fault_b0 F L r x1 K) {H : Heap} {locs : List Loc} {ls : Array Slot} (hw : Wd D A s (cT cI cL cF cM) (cW h cI cL cF cM F L r) H locs) (hl : lv_has ls 2 [(0, .ref (h 0)), (1, .int x1)]) : W p l e rmX10_fault s m args below meth c H locs 0 0 Q (F0 m 0 ls []) := by
  unfold wpX10_fault_b0 at hh
  refine lv_iload_n C.1 C.2.1 dX10_fault_0 rfl (lv_at hl 1 rfl) ?_
  rcases Classical.em (x1 = (0 : Int32)) with hq0 | hq0
  · replace hh := hh.1 hq0
    refine lv_lookup (off := 27) (tgt := 28) C.1 C.2.1 dX10_fault_1 (by decide) (by rw [hq0]; decide) (by decide) ?_
    refine lv_aload_n C.1 C.2.1 dX10_fault_28 rfl (lv_at hl 0 rfl) ?_
    refine c_get C hw (inC inW10) (kd_lt kp0 (by decide)) (ce10 kp0) rfl 0 (by decide) (wc w_570) (v := .ref (h 4)) rfl dX10_fault_29 ?_
    refine c_get C hw (inC inW9) (kd_lt kp4 (by decide)) (ce9 kp4) rfl 1 (by decide) (wc w_157) (v := .int (F 4 1)) rfl dX10_fault_32 ?_
    exact hR _ _ _ (F, L, r) _ _ dX10_fault_35 rfl hh hw
  rcases Classical.em (x1 = (1 : Int32)) with hq1 | hq1
  · replace hh := hh.2.1 hq1
    refine lv_lookup (off := 35) (tgt := 36) C.1 C.2.1 dX10_fault_1 (by decide) (by rw [hq1]; decide) (by decide) ?_
    refine lv_aload_n C.1 C.2.1 dX10_fault_36 rfl (lv_at hl 0 rfl) ?_
    refine c_get C hw (inC inW10) (kd_lt kp0 (by decide)) (ce10 kp0) rfl 0 (by decide) (wc w_570) (v := .ref (h 4)) rfl dX10_fault_37 ?_
    refine c_get C hw (inC inW9) (kd_lt kp4 (by decide)) (ce9 kp4) rfl 2 (by decide) (wc w_159) (v := .int (F 4 2)) rfl dX10_fault_40 ?_
    exact hR _ _ _ (F, L, r) _ _ dX10_fault_43 rfl hh hw
  replace hh := hh.2.2 ⟨hq0, hq1⟩
  refine lv_lookup (off := 43) (tgt := 44) C.1 C.2.1 dX10_fault_1 (by decide) (by exact (lv_osw hq0 (by decide)).trans ((lv_osw hq1 (by decide)).trans (rfl))) (by decide) ?_
  refine lv_iconst (v := (-1 : Int32)) C.1 C.2.1 dX10_fault_44 (by decide) ?_
  exact hR _ _ _ (F, L, r) _ _ dX10_fault_45 rfl hh hw
def wpX10_fault (F : Nat → Nat → Int32) (L : Nat → Nat → Int64) (r : Nat → Nat → Nat) (x1 : Int32) (K : Int32 → cS → Prop) : Prop := wpX10_fault_b0 F L r x1 K
theorem ctX10_fault (l : Launch) (D : va_G) (h : Nat → Nat) (cI cL cF cM : ClassId) (F : Nat → Nat → Int32) (L : Nat → Nat → Int64) (r : Nat → Nat → Nat) (x1 : Int32) {K : Int32 → cS → Prop} (hh : wpX10_fault F L r x1 K) : Ci l yX10_fault wsX10_fault rmX10_fault [.ref (h 0), .int x1] D (cT cI cL cF cM) (cWu h cI cL cF cM) (F, L, r) K := by
  refine Ci_of (cc := cX10_fault) (maxL := 2) (by decide) rfl (Nat.le_of_ble_eq_true rfl) ?_
  intro p e s m below meth c A Q C hw hR ls hl
  exact tX10_fault_b0 C hR hh hw hl
theorem cdX10_fault : yX10_fault.cls = RX10 ∧ yX10_fault.cls ≠ "java/lang/invoke/MethodHandle" ∧ yX10_fault.cls ≠ "java/lang/invoke/VarHandle" ∧ (parseMethodDescriptor yX10_fault.desc).map (fun d => d.parameters.length) = some 1 := by decide +kernel
abbrev rmX3_setDown : Room := { frames := 0, cells := 0, slots := 0, locals := 0 }
def wpX3_setDown_b0 (a0 : Nat) (F : Nat → Nat → Int32) (L : Nat → Nat → Int64) (r : Nat → Nat → Nat) (x1 : Int32) (K : cS → Prop) : Prop :=
  K (pt (pt (pt (pt F a0 0 x1) a0 1 (0 : Int32)) a0 2 (0 : Int32)) a0 3 (0 : Int32), L, r)
set_option maxHeartbeats 4000000 in
set_option maxRecDepth 100000 in
theorem tX3_setDown_b0 {a0 : Nat} {K : cS → Prop} (C : CallFix p m c cX3_setDown 2 s args wsX3_setDown RX3) (hR : Rtv p l e rmX3_setDown s m args below meth c cX3_setDown D A (cT cI cL cF cM) (cWu h cI cL cF cM) K Q) (ha0 : kd a0 = 3) {F : Nat → Nat → Int32} {L : Nat → Nat → Int64} {r : Nat → Nat → Nat} {x1 : Int32} (hh : wpX3_setDown_b0 a0 F L r x1 K) {H : Heap} {locs : List Loc} {ls : Array Slot} (hw : Wd D A s (cT cI cL cF cM) (cW h cI cL cF cM F L r) H locs) (hl : lv_has ls 2 [(0, .ref (h a0)), (1, .int x1)]) : W p l e rmX3_setDown s m args below meth c H locs 0 0 Q (F0 m 0 ls []) := by
  unfold wpX3_setDown_b0 at hh
  refine lv_aload_n C.1 C.2.1 dX3_setDown_0 rfl (lv_at hl 0 rfl) ?_
  refine lv_iload_n C.1 C.2.1 dX3_setDown_1 rfl (lv_at hl 1 rfl) ?_
  refine c_puti C hw (inC inW3) tyX3 tyX3_ok nmX3 (kd_lt ha0 (by decide)) (ce3 ha0) rfl 0 (by decide) (wc w_392) rfl (ty := .int) (by decide +kernel) rfl rfl (Nat.le_of_ble_eq_true rfl) rfl dX3_setDown_2 (fun H locs hw => ?_)
  refine lv_aload_n C.1 C.2.1 dX3_setDown_5 rfl (lv_at hl 0 rfl) ?_
  refine lv_iconst (v := (0 : Int32)) C.1 C.2.1 dX3_setDown_6 (by decide) ?_
  refine c_puti C hw (inC inW3) tyX3 tyX3_ok nmX3 (kd_lt ha0 (by decide)) (ce3 ha0) rfl 1 (by decide) (wc w_396) rfl (ty := .int) (by decide +kernel) rfl rfl (Nat.le_of_ble_eq_true rfl) rfl dX3_setDown_7 (fun H locs hw => ?_)
  refine lv_aload_n C.1 C.2.1 dX3_setDown_10 rfl (lv_at hl 0 rfl) ?_
  refine lv_iconst (v := (0 : Int32)) C.1 C.2.1 dX3_setDown_11 (by decide) ?_
  refine c_puti C hw (inC inW3) tyX3 tyX3_ok nmX3 (kd_lt ha0 (by decide)) (ce3 ha0) rfl 2 (by decide) (wc w_399) rfl (ty := .int) (by decide +kernel) rfl rfl (Nat.le_of_ble_eq_true rfl) rfl dX3_setDown_12 (fun H locs hw => ?_)
  refine lv_aload_n C.1 C.2.1 dX3_setDown_15 rfl (lv_at hl 0 rfl) ?_
  refine lv_iconst (v := (0 : Int32)) C.1 C.2.1 dX3_setDown_16 (by decide) ?_
  refine c_puti C hw (inC inW3) tyX3 tyX3_ok nmX3 (kd_lt ha0 (by decide)) (ce3 ha0) rfl 3 (by decide) (wc w_401) rfl (ty := .int) (by decide +kernel) rfl rfl (Nat.le_of_ble_eq_true rfl) rfl dX3_setDown_17 (fun H locs hw => ?_)
  exact hR _ _ (pt (pt (pt (pt F a0 0 x1) a0 1 (0 : Int32)) a0 2 (0 : Int32)) a0 3 (0 : Int32), L, r) _ _ dX3_setDown_20 hh hw
def wpX3_setDown (a0 : Nat) (F : Nat → Nat → Int32) (L : Nat → Nat → Int64) (r : Nat → Nat → Nat) (x1 : Int32) (K : cS → Prop) : Prop := wpX3_setDown_b0 a0 F L r x1 K
theorem ctX3_setDown (l : Launch) (D : va_G) (h : Nat → Nat) (cI cL cF cM : ClassId) (a0 : Nat) (ha0 : kd a0 = 3) (F : Nat → Nat → Int32) (L : Nat → Nat → Int64) (r : Nat → Nat → Nat) (x1 : Int32) {K : cS → Prop} (hh : wpX3_setDown a0 F L r x1 K) : Cv l yX3_setDown wsX3_setDown rmX3_setDown [.ref (h a0), .int x1] D (cT cI cL cF cM) (cWu h cI cL cF cM) (F, L, r) K := by
  refine Cv_of (cc := cX3_setDown) (maxL := 2) (by decide) rfl (Nat.le_of_ble_eq_true rfl) ?_
  intro p e s m below meth c A Q C hw hR ls hl
  exact tX3_setDown_b0 C hR ha0 hh hw hl
theorem cdX3_setDown : yX3_setDown.cls = RX3 ∧ yX3_setDown.cls ≠ "java/lang/invoke/MethodHandle" ∧ yX3_setDown.cls ≠ "java/lang/invoke/VarHandle" ∧ (parseMethodDescriptor yX3_setDown.desc).map (fun d => d.parameters.length) = some 1 := by decide +kernel
abbrev rmX3_clearSquares : Room := { frames := 0, cells := 0, slots := 0, locals := 0 }
def wpX3_clearSquares_b12_body (B12 : (Nat → Nat → Int32) → (Nat → Nat → Int64) → (Nat → Nat → Nat) → Int32 → Prop) (a0 : Nat) (F : Nat → Nat → Int32) (L : Nat → Nat → Int64) (r : Nat → Nat → Nat) (x1 : Int32) (K : cS → Prop) : Prop :=
  (((3 : Int32) ≤ x1) →
    K (F, L, r)) ∧
  (¬ ((3 : Int32) ≤ x1) →
    vp_in x1 3 ∧ B12 F (ptL L (a0 + 1) (ix x1) (0 : Int64)) r (x1 + (1 : Int32)))
set_option maxHeartbeats 4000000 in
set_option maxRecDepth 100000 in
theorem tX3_clearSquares_b12_body {a0 : Nat} {B12 : (Nat → Nat → Int32) → (Nat → Nat → Int64) → (Nat → Nat → Nat) → Int32 → Prop} {K : cS → Prop} (C : CallFix p m c cX3_clearSquares 2 s args wsX3_clearSquares RX3) (hR : Rtv p l e rmX3_clearSquares s m args below meth c cX3_clearSquares D A (cT cI cL cF cM) (cWu h cI cL cF cM) K Q) (ha0 : kd a0 = 3) (hB12 : ∀ (F : Nat → Nat → Int32) (L : Nat → Nat → Int64) (r : Nat → Nat → Nat) (x1 : Int32) (H : Heap) (locs : List Loc) (ls : Array Slot), B12 F L r x1 → Wd D A s (cT cI cL cF cM) (cW h cI cL cF cM F L r) H locs → lv_has ls 2 [(0, .ref (h a0)), (1, .int x1)] → W p l e rmX3_clearSquares s m args below meth c H locs 0 0 Q (F0 m 12 ls [])) {F : Nat → Nat → Int32} {L : Nat → Nat → Int64} {r : Nat → Nat → Nat} {x1 : Int32} (hh : wpX3_clearSquares_b12_body B12 a0 F L r x1 K) {H : Heap} {locs : List Loc} {ls : Array Slot} (hw : Wd D A s (cT cI cL cF cM) (cW h cI cL cF cM F L r) H locs) (hl : lv_has ls 2 [(0, .ref (h a0)), (1, .int x1)]) : W p l e rmX3_clearSquares s m args below meth c H locs 0 0 Q (F0 m 12 ls []) := by
  unfold wpX3_clearSquares_b12_body at hh
  refine lv_iload_n C.1 C.2.1 dX3_clearSquares_12 rfl (lv_at hl 1 rfl) ?_
  refine lv_iconst (v := (3 : Int32)) C.1 C.2.1 dX3_clearSquares_13 (by decide) ?_
  refine lv_icmp_ge (tgt := 30) C.1 C.2.1 dX3_clearSquares_14 (by decide) (fun c14 => ?_) (fun c14 => ?_)
  · replace hh := hh.1 c14
    exact hR _ _ (F, L, r) _ _ dX3_clearSquares_30 hh hw
  · replace hh := hh.2 c14
    refine lv_aload_n C.1 C.2.1 dX3_clearSquares_17 rfl (lv_at hl 0 rfl) ?_
    refine c_get C hw (inC inW3) (kd_lt ha0 (by decide)) (ce3 ha0) rfl 9 (by decide) (wc w_411) (v := .ref (h (a0 + 1))) rfl dX3_clearSquares_18 ?_
    refine lv_iload_n C.1 C.2.1 dX3_clearSquares_21 rfl (lv_at hl 1 rfl) ?_
    refine lv_lconst (v := (0 : Int64)) C.1 C.2.1 dX3_clearSquares_22 (by decide) ?_
    obtain ⟨hi23, hh⟩ := hh
    refine c_las C hw (kd_lt (kd3_1 ha0) (by decide)) (ce23 (kd3_1 ha0)) hi23 dX3_clearSquares_23 (fun H locs hw => ?_)
    refine lv_iinc (v := x1 + (1 : Int32)) (lv' := [(1, .int (x1 + (1 : Int32))), (0, .ref (h a0))]) C.1 C.2.1 dX3_clearSquares_24 hl (k := 1) rfl rfl (by decide) rfl (fun ls hl => ?_)
    refine lv_goto (tgt := 12) C.1 C.2.1 dX3_clearSquares_27 (by decide) ?_
    exact hB12 _ _ _ _ _ _ _ hh hw (lv_sub hl [1, 0] rfl)
def wpX3_clearSquares_b12 (a0 : Nat) (n_ : Nat) (F : Nat → Nat → Int32) (L : Nat → Nat → Int64) (r : Nat → Nat → Nat) (x1 : Int32) (K : cS → Prop) : Prop := match n_ with
  | 0 => False
  | n + 1 => wpX3_clearSquares_b12_body (fun F L r x1 => wpX3_clearSquares_b12 a0 n F L r x1 K) a0 F L r x1 K
theorem tX3_clearSquares_b12 {a0 : Nat} {K : cS → Prop} (C : CallFix p m c cX3_clearSquares 2 s args wsX3_clearSquares RX3) (hR : Rtv p l e rmX3_clearSquares s m args below meth c cX3_clearSquares D A (cT cI cL cF cM) (cWu h cI cL cF cM) K Q) (ha0 : kd a0 = 3) (n : Nat) : ∀ (F : Nat → Nat → Int32) (L : Nat → Nat → Int64) (r : Nat → Nat → Nat) (x1 : Int32) (H : Heap) (locs : List Loc) (ls : Array Slot), wpX3_clearSquares_b12 a0 n F L r x1 K → Wd D A s (cT cI cL cF cM) (cW h cI cL cF cM F L r) H locs → lv_has ls 2 [(0, .ref (h a0)), (1, .int x1)] → W p l e rmX3_clearSquares s m args below meth c H locs 0 0 Q (F0 m 12 ls []) := by
  induction n with
  | zero => intro F L r x1 H locs ls hh; exact hh.elim
  | succ n ih => intro F L r x1 H locs ls hh hw hl; exact tX3_clearSquares_b12_body C hR ha0 ih hh hw hl
def wpX3_clearSquares_b0 (a0 : Nat) (F : Nat → Nat → Int32) (L : Nat → Nat → Int64) (r : Nat → Nat → Nat) (K : cS → Prop) : Prop :=
  ∃ n, wpX3_clearSquares_b12 a0 n F (ptL (ptL L a0 4 (0 : Int64)) a0 5 (0 : Int64)) r (0 : Int32) K
set_option maxHeartbeats 4000000 in
set_option maxRecDepth 100000 in
theorem tX3_clearSquares_b0 {a0 : Nat} {K : cS → Prop} (C : CallFix p m c cX3_clearSquares 2 s args wsX3_clearSquares RX3) (hR : Rtv p l e rmX3_clearSquares s m args below meth c cX3_clearSquares D A (cT cI cL cF cM) (cWu h cI cL cF cM) K Q) (ha0 : kd a0 = 3) {F : Nat → Nat → Int32} {L : Nat → Nat → Int64} {r : Nat → Nat → Nat} (hh : wpX3_clearSquares_b0 a0 F L r K) {H : Heap} {locs : List Loc} {ls : Array Slot} (hw : Wd D A s (cT cI cL cF cM) (cW h cI cL cF cM F L r) H locs) (hl : lv_has ls 2 [(0, .ref (h a0))]) : W p l e rmX3_clearSquares s m args below meth c H locs 0 0 Q (F0 m 0 ls []) := by
  unfold wpX3_clearSquares_b0 at hh
  refine lv_aload_n C.1 C.2.1 dX3_clearSquares_0 rfl (lv_at hl 0 rfl) ?_
  refine lv_lconst (v := (0 : Int64)) C.1 C.2.1 dX3_clearSquares_1 (by decide) ?_
  refine c_putl C hw (inC inW3) tyX3 tyX3_ok nmX3 (kd_lt ha0 (by decide)) (ce3 ha0) rfl 4 (by decide) (wc w_403) rfl (by decide +kernel) (Nat.le_of_ble_eq_true rfl) rfl dX3_clearSquares_2 (fun H locs hw => ?_)
  refine lv_aload_n C.1 C.2.1 dX3_clearSquares_5 rfl (lv_at hl 0 rfl) ?_
  refine lv_lconst (v := (0 : Int64)) C.1 C.2.1 dX3_clearSquares_6 (by decide) ?_
  refine c_putl C hw (inC inW3) tyX3 tyX3_ok nmX3 (kd_lt ha0 (by decide)) (ce3 ha0) rfl 5 (by decide) (wc w_404) rfl (by decide +kernel) (Nat.le_of_ble_eq_true rfl) rfl dX3_clearSquares_7 (fun H locs hw => ?_)
  refine lv_iconst (v := (0 : Int32)) C.1 C.2.1 dX3_clearSquares_10 (by decide) ?_
  refine lv_istore_n (lv' := [(1, .int (0 : Int32)), (0, .ref (h a0))]) C.1 C.2.1 dX3_clearSquares_11 rfl hl (by decide) rfl (fun ls hl => ?_)
  obtain ⟨n, hh⟩ := hh
  exact tX3_clearSquares_b12 C hR ha0 n _ _ _ _ _ _ _ hh hw (lv_sub hl [1, 0] rfl)
def wpX3_clearSquares (a0 : Nat) (F : Nat → Nat → Int32) (L : Nat → Nat → Int64) (r : Nat → Nat → Nat) (K : cS → Prop) : Prop := wpX3_clearSquares_b0 a0 F L r K
theorem ctX3_clearSquares (l : Launch) (D : va_G) (h : Nat → Nat) (cI cL cF cM : ClassId) (a0 : Nat) (ha0 : kd a0 = 3) (F : Nat → Nat → Int32) (L : Nat → Nat → Int64) (r : Nat → Nat → Nat) {K : cS → Prop} (hh : wpX3_clearSquares a0 F L r K) : Cv l yX3_clearSquares wsX3_clearSquares rmX3_clearSquares [.ref (h a0)] D (cT cI cL cF cM) (cWu h cI cL cF cM) (F, L, r) K := by
  refine Cv_of (cc := cX3_clearSquares) (maxL := 2) (by decide) rfl (Nat.le_of_ble_eq_true rfl) ?_
  intro p e s m below meth c A Q C hw hR ls hl
  exact tX3_clearSquares_b0 C hR ha0 hh hw hl
theorem cdX3_clearSquares : yX3_clearSquares.cls = RX3 ∧ yX3_clearSquares.cls ≠ "java/lang/invoke/MethodHandle" ∧ yX3_clearSquares.cls ≠ "java/lang/invoke/VarHandle" ∧ (parseMethodDescriptor yX3_clearSquares.desc).map (fun d => d.parameters.length) = some 0 := by decide +kernel
abbrev rmX3_setDownWiped : Room := { frames := 1, cells := 0, slots := 0, locals := 21 }
def wpX3_setDownWiped_b0 (a0 : Nat) (F : Nat → Nat → Int32) (L : Nat → Nat → Int64) (r : Nat → Nat → Nat) (x1 : Int32) (K : cS → Prop) : Prop :=
  wpX3_setDown a0 F L r x1 (fun u2 =>
    wpX3_clearSquares a0 u2.1 u2.2.1 u2.2.2 (fun u6 =>
    K (u6.1, u6.2.1, u6.2.2)))
set_option maxHeartbeats 4000000 in
set_option maxRecDepth 100000 in
theorem tX3_setDownWiped_b0 {a0 : Nat} {K : cS → Prop} (C : CallFix p m c cX3_setDownWiped 2 s args wsX3_setDownWiped RX3) (hR : Rtv p l e rmX3_setDownWiped s m args below meth c cX3_setDownWiped D A (cT cI cL cF cM) (cWu h cI cL cF cM) K Q) (ha0 : kd a0 = 3) {F : Nat → Nat → Int32} {L : Nat → Nat → Int64} {r : Nat → Nat → Nat} {x1 : Int32} (hh : wpX3_setDownWiped_b0 a0 F L r x1 K) {H : Heap} {locs : List Loc} {ls : Array Slot} (hw : Wd D A s (cT cI cL cF cM) (cW h cI cL cF cM F L r) H locs) (hl : lv_has ls 2 [(0, .ref (h a0)), (1, .int x1)]) : W p l e rmX3_setDownWiped s m args below meth c H locs 0 0 Q (F0 m 0 ls []) := by
  unfold wpX3_setDownWiped_b0 at hh
  refine lv_aload_n C.1 C.2.1 dX3_setDownWiped_0 rfl (lv_at hl 0 rfl) ?_
  refine lv_iload_n C.1 C.2.1 dX3_setDownWiped_1 rfl (lv_at hl 1 rfl) ?_
  refine c_Vv C hw (ctX3_setDown l D h cI cL cF cM a0 ha0 F L r x1 hh) (cwV 1 C.2.2.2.2 (gd_V w_917 w_918 w_919 w_121 w_920) rfl rfl rfl cdX3_setDown ⟨Nat.le_of_ble_eq_true rfl, Nat.le_of_ble_eq_true rfl⟩) rfl (kd_lt ha0 (by decide)) (ce3 ha0) rfl hl.1 (Nat.le_of_ble_eq_true rfl) dX3_setDownWiped_2 ⟨Nat.zero_le _, Nat.zero_le _⟩ (fun u2 H locs hh hw => ?_) rfl
  refine lv_aload_n C.1 C.2.1 dX3_setDownWiped_5 rfl (lv_at hl 0 rfl) ?_
  refine c_Vv C hw (ctX3_clearSquares l D h cI cL cF cM a0 ha0 u2.1 u2.2.1 u2.2.2 hh) (cwV 0 C.2.2.2.2 (gd_V w_921 w_922 w_923 w_121 w_924) rfl rfl rfl cdX3_clearSquares ⟨Nat.le_of_ble_eq_true rfl, Nat.le_of_ble_eq_true rfl⟩) rfl (kd_lt ha0 (by decide)) (ce3 ha0) rfl hl.1 (Nat.le_of_ble_eq_true rfl) dX3_setDownWiped_6 ⟨Nat.zero_le _, Nat.zero_le _⟩ (fun u6 H locs hh hw => ?_) rfl
  exact hR _ _ (u6.1, u6.2.1, u6.2.2) _ _ dX3_setDownWiped_9 hh hw
def wpX3_setDownWiped (a0 : Nat) (F : Nat → Nat → Int32) (L : Nat → Nat → Int64) (r : Nat → Nat → Nat) (x1 : Int32) (K : cS → Prop) : Prop := wpX3_setDownWiped_b0 a0 F L r x1 K
theorem ctX3_setDownWiped (l : Launch) (D : va_G) (h : Nat → Nat) (cI cL cF cM : ClassId) (a0 : Nat) (ha0 : kd a0 = 3) (F : Nat → Nat → Int32) (L : Nat → Nat → Int64) (r : Nat → Nat → Nat) (x1 : Int32) {K : cS → Prop} (hh : wpX3_setDownWiped a0 F L r x1 K) : Cv l yX3_setDownWiped wsX3_setDownWiped rmX3_setDownWiped [.ref (h a0), .int x1] D (cT cI cL cF cM) (cWu h cI cL cF cM) (F, L, r) K := by
  refine Cv_of (cc := cX3_setDownWiped) (maxL := 2) (by decide) rfl (Nat.le_of_ble_eq_true rfl) ?_
  intro p e s m below meth c A Q C hw hR ls hl
  exact tX3_setDownWiped_b0 C hR ha0 hh hw hl
theorem cdX3_setDownWiped : yX3_setDownWiped.cls = RX3 ∧ yX3_setDownWiped.cls ≠ "java/lang/invoke/MethodHandle" ∧ yX3_setDownWiped.cls ≠ "java/lang/invoke/VarHandle" ∧ (parseMethodDescriptor yX3_setDownWiped.desc).map (fun d => d.parameters.length) = some 1 := by decide +kernel
abbrev rmX0_settle : Room := { frames := 0, cells := 0, slots := 0, locals := 0 }
def wpX0_settle_b0 (a0 : Nat) (F : Nat → Nat → Int32) (L : Nat → Nat → Int64) (r : Nat → Nat → Nat) (x1 : Int32) (K : cS → Prop) : Prop :=
  K (pt F a0 0 ((x1 &&& ((F a0 1) ^^^ (-1 : Int32))) ||| (F a0 2)), L, r)
set_option maxHeartbeats 4000000 in
set_option maxRecDepth 100000 in
theorem tX0_settle_b0 {a0 : Nat} {K : cS → Prop} (C : CallFix p m c cX0_settle 2 s args wsX0_settle RX0) (hR : Rtv p l e rmX0_settle s m args below meth c cX0_settle D A (cT cI cL cF cM) (cWu h cI cL cF cM) K Q) (ha0 : kd a0 = 0) {F : Nat → Nat → Int32} {L : Nat → Nat → Int64} {r : Nat → Nat → Nat} {x1 : Int32} (hh : wpX0_settle_b0 a0 F L r x1 K) {H : Heap} {locs : List Loc} {ls : Array Slot} (hw : Wd D A s (cT cI cL cF cM) (cW h cI cL cF cM F L r) H locs) (hl : lv_has ls 2 [(0, .ref (h a0)), (1, .int x1)]) : W p l e rmX0_settle s m args below meth c H locs 0 0 Q (F0 m 0 ls []) := by
  unfold wpX0_settle_b0 at hh
  refine lv_aload_n C.1 C.2.1 dX0_settle_0 rfl (lv_at hl 0 rfl) ?_
  refine lv_iload_n C.1 C.2.1 dX0_settle_1 rfl (lv_at hl 1 rfl) ?_
  refine lv_aload_n C.1 C.2.1 dX0_settle_2 rfl (lv_at hl 0 rfl) ?_
  refine c_get C hw (inC inW0) (kd_lt ha0 (by decide)) (ce0 ha0) rfl 1 (by decide) (wc w_441) (v := .int (F a0 1)) rfl dX0_settle_3 ?_
  refine lv_iconst (v := (-1 : Int32)) C.1 C.2.1 dX0_settle_6 (by decide) ?_
  refine lv_ixor C.1 C.2.1 dX0_settle_7 ?_
  refine lv_iand C.1 C.2.1 dX0_settle_8 ?_
  refine lv_aload_n C.1 C.2.1 dX0_settle_9 rfl (lv_at hl 0 rfl) ?_
  refine c_get C hw (inC inW0) (kd_lt ha0 (by decide)) (ce0 ha0) rfl 2 (by decide) (wc w_443) (v := .int (F a0 2)) rfl dX0_settle_10 ?_
  refine lv_ior C.1 C.2.1 dX0_settle_13 ?_
  refine c_puti C hw (inC inW0) tyX0 tyX0_ok nmX0 (kd_lt ha0 (by decide)) (ce0 ha0) rfl 0 (by decide) (wc w_439) rfl (ty := .int) (by decide +kernel) rfl rfl (Nat.le_of_ble_eq_true rfl) rfl dX0_settle_14 (fun H locs hw => ?_)
  exact hR _ _ (pt F a0 0 ((x1 &&& ((F a0 1) ^^^ (-1 : Int32))) ||| (F a0 2)), L, r) _ _ dX0_settle_17 hh hw
def wpX0_settle (a0 : Nat) (F : Nat → Nat → Int32) (L : Nat → Nat → Int64) (r : Nat → Nat → Nat) (x1 : Int32) (K : cS → Prop) : Prop := wpX0_settle_b0 a0 F L r x1 K
theorem ctX0_settle (l : Launch) (D : va_G) (h : Nat → Nat) (cI cL cF cM : ClassId) (a0 : Nat) (ha0 : kd a0 = 0) (F : Nat → Nat → Int32) (L : Nat → Nat → Int64) (r : Nat → Nat → Nat) (x1 : Int32) {K : cS → Prop} (hh : wpX0_settle a0 F L r x1 K) : Cv l yX0_settle wsX0_settle rmX0_settle [.ref (h a0), .int x1] D (cT cI cL cF cM) (cWu h cI cL cF cM) (F, L, r) K := by
  refine Cv_of (cc := cX0_settle) (maxL := 2) (by decide) rfl (Nat.le_of_ble_eq_true rfl) ?_
  intro p e s m below meth c A Q C hw hR ls hl
  exact tX0_settle_b0 C hR ha0 hh hw hl
theorem cdX0_settle : yX0_settle.cls = RX0 ∧ yX0_settle.cls ≠ "java/lang/invoke/MethodHandle" ∧ yX0_settle.cls ≠ "java/lang/invoke/VarHandle" ∧ (parseMethodDescriptor yX0_settle.desc).map (fun d => d.parameters.length) = some 1 := by decide +kernel
end
