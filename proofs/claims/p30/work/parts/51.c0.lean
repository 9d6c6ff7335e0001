section
variable {p : Program} {l : Launch} {e : Env} {s : State} {m : MethodId} {args : Array Value} {below : List Frame} {meth : Method} {c : Code} {D : va_G} {A : Nat → Prop} {h : Nat → Nat} {cI cL cF cM : ClassId} {Q : State → Prop}
abbrev rmX1_clearWalls : Room := { frames := 0, cells := 0, slots := 0, locals := 0 }
set_option maxHeartbeats 4000000 in
set_option maxRecDepth 100000 in
theorem tX1_clearWalls_b2_body {a0 : Nat} {B2 : (Nat → Nat → Int32) → (Nat → Nat → Int64) → (Nat → Nat → Nat) → Int32 → Prop} {K : cS → Prop} (C : CallFix p m c cX1_clearWalls 2 s args wsX1_clearWalls RX1) (hR : Rtv p l e rmX1_clearWalls s m args below meth c cX1_clearWalls D A (cT cI cL cF cM) (cWu h cI cL cF cM) K Q) (ha0 : kd a0 = 1) (hB2 : ∀ (F : Nat → Nat → Int32) (L : Nat → Nat → Int64) (r : Nat → Nat → Nat) (x1 : Int32) (H : Heap) (locs : List Loc) (ls : Array Slot), B2 F L r x1 → Wd D A s (cT cI cL cF cM) (cW h cI cL cF cM F L r) H locs → lv_has ls 2 [(0, .ref (h a0)), (1, .int x1)] → W p l e rmX1_clearWalls s m args below meth c H locs 0 0 Q (F0 m 2 ls [])) {F : Nat → Nat → Int32} {L : Nat → Nat → Int64} {r : Nat → Nat → Nat} {x1 : Int32} (hh : wpX1_clearWalls_b2_body B2 a0 F L r x1 K) {H : Heap} {locs : List Loc} {ls : Array Slot} (hw : Wd D A s (cT cI cL cF cM) (cW h cI cL cF cM F L r) H locs) (hl : lv_has ls 2 [(0, .ref (h a0)), (1, .int x1)]) : W p l e rmX1_clearWalls s m args below meth c H locs 0 0 Q (F0 m 2 ls []) := by
  unfold wpX1_clearWalls_b2_body at hh
  refine lv_iload_n C.1 C.2.1 dX1_clearWalls_2 rfl (lv_at hl 1 rfl) ?_
  refine lv_iconst (v := (4 : Int32)) C.1 C.2.1 dX1_clearWalls_3 (by decide) ?_
  refine lv_icmp_ge (tgt := 25) C.1 C.2.1 dX1_clearWalls_4 (by decide) (fun c4 => ?_) (fun c4 => ?_)
  · replace hh := hh.1 c4
    exact hR _ _ (F, L, r) _ _ dX1_clearWalls_25 hh hw
  · replace hh := hh.2 c4
    refine lv_aload_n C.1 C.2.1 dX1_clearWalls_7 rfl (lv_at hl 0 rfl) ?_
    refine c_get C hw (inC inW1) (kd_lt ha0 (by decide)) (ce1 ha0) rfl 4 (by decide) (wc w_365) (v := .ref (h (a0 + 1))) rfl dX1_clearWalls_8 ?_
    refine lv_iload_n C.1 C.2.1 dX1_clearWalls_11 rfl (lv_at hl 1 rfl) ?_
    refine lv_aload_n C.1 C.2.1 dX1_clearWalls_12 rfl (lv_at hl 0 rfl) ?_
    refine c_get C hw (inC inW1) (kd_lt ha0 (by decide)) (ce1 ha0) rfl 6 (by decide) (wc w_369) (v := .ref (h (a0 + 3))) rfl dX1_clearWalls_13 ?_
    refine lv_iload_n C.1 C.2.1 dX1_clearWalls_16 rfl (lv_at hl 1 rfl) ?_
    obtain ⟨hi17, hh⟩ := hh
    refine c_lal C hw (kd_lt (kd1_3 ha0) (by decide)) (ce22 (kd1_3 ha0)) hi17 dX1_clearWalls_17 ?_
    obtain ⟨hi18, hh⟩ := hh
    refine c_las C hw (kd_lt (kd1_1 ha0) (by decide)) (ce22 (kd1_1 ha0)) hi18 dX1_clearWalls_18 (fun H locs hw => ?_)
    refine lv_iinc (v := x1 + (1 : Int32)) (lv' := [(1, .int (x1 + (1 : Int32))), (0, .ref (h a0))]) C.1 C.2.1 dX1_clearWalls_19 hl (k := 1) rfl rfl (by decide) rfl (fun ls hl => ?_)
    refine lv_goto (tgt := 2) C.1 C.2.1 dX1_clearWalls_22 (by decide) ?_
    exact hB2 _ _ _ _ _ _ _ hh hw (lv_sub hl [1, 0] rfl)
theorem tX1_clearWalls_b2 {a0 : Nat} {K : cS → Prop} (C : CallFix p m c cX1_clearWalls 2 s args wsX1_clearWalls RX1) (hR : Rtv p l e rmX1_clearWalls s m args below meth c cX1_clearWalls D A (cT cI cL cF cM) (cWu h cI cL cF cM) K Q) (ha0 : kd a0 = 1) (n : Nat) : ∀ (F : Nat → Nat → Int32) (L : Nat → Nat → Int64) (r : Nat → Nat → Nat) (x1 : Int32) (H : Heap) (locs : List Loc) (ls : Array Slot), wpX1_clearWalls_b2 a0 n F L r x1 K → Wd D A s (cT cI cL cF cM) (cW h cI cL cF cM F L r) H locs → lv_has ls 2 [(0, .ref (h a0)), (1, .int x1)] → W p l e rmX1_clearWalls s m args below meth c H locs 0 0 Q (F0 m 2 ls []) := by
  induction n with
  | zero => intro F L r x1 H locs ls hh; exact hh.elim
  | succ n ih => intro F L r x1 H locs ls hh hw hl; exact tX1_clearWalls_b2_body C hR ha0 ih hh hw hl
set_option maxHeartbeats 4000000 in
set_option maxRecDepth 100000 in
theorem tX1_clearWalls_b0 {a0 : Nat} {K : cS → Prop} (C : CallFix p m c cX1_clearWalls 2 s args wsX1_clearWalls RX1) (hR : Rtv p l e rmX1_clearWalls s m args below meth c cX1_clearWalls D A (cT cI cL cF cM) (cWu h cI cL cF cM) K Q) (ha0 : kd a0 = 1) {F : Nat → Nat → Int32} {L : Nat → Nat → Int64} {r : Nat → Nat → Nat} (hh : wpX1_clearWalls_b0 a0 F L r K) {H : Heap} {locs : List Loc} {ls : Array Slot} (hw : Wd D A s (cT cI cL cF cM) (cW h cI cL cF cM F L r) H locs) (hl : lv_has ls 2 [(0, .ref (h a0))]) : W p l e rmX1_clearWalls s m args below meth c H locs 0 0 Q (F0 m 0 ls []) := by
  unfold wpX1_clearWalls_b0 at hh
  refine lv_iconst (v := (0 : Int32)) C.1 C.2.1 dX1_clearWalls_0 (by decide) ?_
  refine lv_istore_n (lv' := [(1, .int (0 : Int32)), (0, .ref (h a0))]) C.1 C.2.1 dX1_clearWalls_1 rfl hl (by decide) rfl (fun ls hl => ?_)
  obtain ⟨n, hh⟩ := hh
  exact tX1_clearWalls_b2 C hR ha0 n _ _ _ _ _ _ _ hh hw (lv_sub hl [1, 0] rfl)
theorem ctX1_clearWalls (l : Launch) (D : va_G) (h : Nat → Nat) (cI cL cF cM : ClassId) (a0 : Nat) (ha0 : kd a0 = 1) (F : Nat → Nat → Int32) (L : Nat → Nat → Int64) (r : Nat → Nat → Nat) {K : cS → Prop} (hh : wpX1_clearWalls a0 F L r K) : Cv l yX1_clearWalls wsX1_clearWalls rmX1_clearWalls [.ref (h a0)] D (cT cI cL cF cM) (cWu h cI cL cF cM) (F, L, r) K := by
  refine Cv_of (cc := cX1_clearWalls) (maxL := 2) (by decide) rfl (Nat.le_of_ble_eq_true rfl) ?_
  intro p e s m below meth c A Q C hw hR ls hl
  exact tX1_clearWalls_b0 C hR ha0 hh hw hl
theorem cdX1_clearWalls : yX1_clearWalls.cls = RX1 ∧ yX1_clearWalls.cls ≠ "java/lang/invoke/MethodHandle" ∧ yX1_clearWalls.cls ≠ "java/lang/invoke/VarHandle" ∧ (parseMethodDescriptor yX1_clearWalls.desc).map (fun d => d.parameters.length) = some 0 := by decide +kernel
abbrev rmX1_lay : Room := { frames := 1, cells := 0, slots := 0, locals := 21 }
set_option maxHeartbeats 4000000 in
set_option maxRecDepth 100000 in
theorem tX1_lay_b32_body {a0 : Nat} {B32 : (Nat → Nat → Int32) → (Nat → Nat → Int64) → (Nat → Nat → Nat) → Int32 → Int32 → Int64 → Int32 → Prop} {K : cS → Prop} (C : CallFix p m c cX1_lay 6 s args wsX1_lay RX1) (hR : Rtv p l e rmX1_lay s m args below meth c cX1_lay D A (cT cI cL cF cM) (cWu h cI cL cF cM) K Q) (ha0 : kd a0 = 1) (hB32 : ∀ (F : Nat → Nat → Int32) (L : Nat → Nat → Int64) (r : Nat → Nat → Nat) (x1 : Int32) (x2 : Int32) (x3 : Int64) (x5 : Int32) (H : Heap) (locs : List Loc) (ls : Array Slot), B32 F L r x1 x2 x3 x5 → Wd D A s (cT cI cL cF cM) (cW h cI cL cF cM F L r) H locs → lv_has ls 6 [(0, .ref (h a0)), (1, .int x1), (2, .int x2), (3, .long x3), (5, .int x5)] → W p l e rmX1_lay s m args below meth c H locs 0 0 Q (F0 m 32 ls [])) {F : Nat → Nat → Int32} {L : Nat → Nat → Int64} {r : Nat → Nat → Nat} {x1 : Int32} {x2 : Int32} {x3 : Int64} {x5 : Int32} (hh : wpX1_lay_b32_body B32 a0 F L r x1 x2 x3 x5 K) {H : Heap} {locs : List Loc} {ls : Array Slot} (hw : Wd D A s (cT cI cL cF cM) (cW h cI cL cF cM F L r) H locs) (hl : lv_has ls 6 [(0, .ref (h a0)), (1, .int x1), (2, .int x2), (3, .long x3), (5, .int x5)]) : W p l e rmX1_lay s m args below meth c H locs 0 0 Q (F0 m 32 ls []) := by
  unfold wpX1_lay_b32_body at hh
  refine lv_iload C.1 C.2.1 dX1_lay_32 (lv_at hl 4 rfl) ?_
  refine lv_iload_n C.1 C.2.1 dX1_lay_34 rfl (lv_at hl 2 rfl) ?_
  refine lv_icmp_ge (tgt := 53) C.1 C.2.1 dX1_lay_35 (by decide) (fun c35 => ?_) (fun c35 => ?_)
  · replace hh := hh.1 c35
    refine lv_aload_n C.1 C.2.1 dX1_lay_53 rfl (lv_at hl 0 rfl) ?_
    refine c_get C hw (inC inW1) (kd_lt ha0 (by decide)) (ce1 ha0) rfl 6 (by decide) (wc w_369) (v := .ref (h (a0 + 3))) rfl dX1_lay_54 ?_
    refine lv_iconst (v := (0 : Int32)) C.1 C.2.1 dX1_lay_57 (by decide) ?_
    refine lv_lconst (v := (1 : Int64)) C.1 C.2.1 dX1_lay_58 (by decide) ?_
    refine lv_iload_n C.1 C.2.1 dX1_lay_59 rfl (lv_at hl 1 rfl) ?_
    refine lv_lshl (v := jlshl (1 : Int64) x1) C.1 C.2.1 dX1_lay_60 rfl ?_
    refine lv_lconst (v := (1 : Int64)) C.1 C.2.1 dX1_lay_61 (by decide) ?_
    refine lv_lsub C.1 C.2.1 dX1_lay_62 ?_
    obtain ⟨hi63, hh⟩ := hh
    refine c_las C hw (kd_lt (kd1_3 ha0) (by decide)) (ce22 (kd1_3 ha0)) hi63 dX1_lay_63 (fun H locs hw => ?_)
    refine lv_aload_n C.1 C.2.1 dX1_lay_64 rfl (lv_at hl 0 rfl) ?_
    refine c_get C hw (inC inW1) (kd_lt ha0 (by decide)) (ce1 ha0) rfl 6 (by decide) (wc w_369) (v := .ref (h (a0 + 3))) rfl dX1_lay_65 ?_
    refine lv_iconst (v := (1 : Int32)) C.1 C.2.1 dX1_lay_68 (by decide) ?_
    refine lv_lload_n C.1 C.2.1 dX1_lay_69 rfl (lv_at hl 3 rfl) ?_
    refine lv_iload_n C.1 C.2.1 dX1_lay_70 rfl (lv_at hl 1 rfl) ?_
    refine lv_iconst (v := (1 : Int32)) C.1 C.2.1 dX1_lay_71 (by decide) ?_
    refine lv_isub C.1 C.2.1 dX1_lay_72 ?_
    refine lv_lshl (v := jlshl x3 (x1 - (1 : Int32))) C.1 C.2.1 dX1_lay_73 rfl ?_
    obtain ⟨hi74, hh⟩ := hh
    refine c_las C hw (kd_lt (kd1_3 ha0) (by decide)) (ce22 (kd1_3 ha0)) hi74 dX1_lay_74 (fun H locs hw => ?_)
    refine lv_aload_n C.1 C.2.1 dX1_lay_75 rfl (lv_at hl 0 rfl) ?_
    refine c_get C hw (inC inW1) (kd_lt ha0 (by decide)) (ce1 ha0) rfl 6 (by decide) (wc w_369) (v := .ref (h (a0 + 3))) rfl dX1_lay_76 ?_
    refine lv_iconst (v := (2 : Int32)) C.1 C.2.1 dX1_lay_79 (by decide) ?_
    refine lv_aload_n C.1 C.2.1 dX1_lay_80 rfl (lv_at hl 0 rfl) ?_
    refine c_get C hw (inC inW1) (kd_lt ha0 (by decide)) (ce1 ha0) rfl 6 (by decide) (wc w_369) (v := .ref (h (a0 + 3))) rfl dX1_lay_81 ?_
    refine lv_iconst (v := (0 : Int32)) C.1 C.2.1 dX1_lay_84 (by decide) ?_
    obtain ⟨hi85, hh⟩ := hh
    refine c_lal C hw (kd_lt (kd1_3 ha0) (by decide)) (ce22 (kd1_3 ha0)) hi85 dX1_lay_85 ?_
    refine lv_aload_n C.1 C.2.1 dX1_lay_86 rfl (lv_at hl 0 rfl) ?_
    refine c_get C hw (inC inW1) (kd_lt ha0 (by decide)) (ce1 ha0) rfl 2 (by decide) (wc w_358) (v := .int (F a0 2)) rfl dX1_lay_87 ?_
    refine lv_iload_n C.1 C.2.1 dX1_lay_90 rfl (lv_at hl 1 rfl) ?_
    refine lv_isub C.1 C.2.1 dX1_lay_91 ?_
    refine lv_lshl (v := jlshl ((ptL (ptL L (a0 + 3) (ix (0 : Int32)) ((jlshl (1 : Int64) x1) - (1 : Int64))) (a0 + 3) (ix (1 : Int32)) (jlshl x3 (x1 - (1 : Int32)))) (a0 + 3) (ix (0 : Int32))) ((F a0 2) - x1)) C.1 C.2.1 dX1_lay_92 rfl ?_
    obtain ⟨hi93, hh⟩ := hh
    refine c_las C hw (kd_lt (kd1_3 ha0) (by decide)) (ce22 (kd1_3 ha0)) hi93 dX1_lay_93 (fun H locs hw => ?_)
    refine lv_aload_n C.1 C.2.1 dX1_lay_94 rfl (lv_at hl 0 rfl) ?_
    refine c_get C hw (inC inW1) (kd_lt ha0 (by decide)) (ce1 ha0) rfl 6 (by decide) (wc w_369) (v := .ref (h (a0 + 3))) rfl dX1_lay_95 ?_
    refine lv_iconst (v := (3 : Int32)) C.1 C.2.1 dX1_lay_98 (by decide) ?_
    refine lv_lload_n C.1 C.2.1 dX1_lay_99 rfl (lv_at hl 3 rfl) ?_
    obtain ⟨hi100, hh⟩ := hh
    refine c_las C hw (kd_lt (kd1_3 ha0) (by decide)) (ce22 (kd1_3 ha0)) hi100 dX1_lay_100 (fun H locs hw => ?_)
    refine lv_aload_n C.1 C.2.1 dX1_lay_101 rfl (lv_at hl 0 rfl) ?_
    refine c_get C hw (inC inW1) (kd_lt ha0 (by decide)) (ce1 ha0) rfl 5 (by decide) (wc w_367) (v := .ref (h (a0 + 2))) rfl dX1_lay_102 ?_
    refine lv_iconst (v := (0 : Int32)) C.1 C.2.1 dX1_lay_105 (by decide) ?_
    refine lv_iload_n C.1 C.2.1 dX1_lay_106 rfl (lv_at hl 1 rfl) ?_
    refine lv_ineg C.1 C.2.1 dX1_lay_107 ?_
    obtain ⟨hi108, hh⟩ := hh
    refine c_ias C hw (kd_lt (kd1_2 ha0) (by decide)) (ce12 (kd1_2 ha0)) hi108 dX1_lay_108 (fun H locs hw => ?_)
    refine lv_aload_n C.1 C.2.1 dX1_lay_109 rfl (lv_at hl 0 rfl) ?_
    refine c_get C hw (inC inW1) (kd_lt ha0 (by decide)) (ce1 ha0) rfl 5 (by decide) (wc w_367) (v := .ref (h (a0 + 2))) rfl dX1_lay_110 ?_
    refine lv_iconst (v := (1 : Int32)) C.1 C.2.1 dX1_lay_113 (by decide) ?_
    refine lv_iconst (v := (1 : Int32)) C.1 C.2.1 dX1_lay_114 (by decide) ?_
    obtain ⟨hi115, hh⟩ := hh
    refine c_ias C hw (kd_lt (kd1_2 ha0) (by decide)) (ce12 (kd1_2 ha0)) hi115 dX1_lay_115 (fun H locs hw => ?_)
    refine lv_aload_n C.1 C.2.1 dX1_lay_116 rfl (lv_at hl 0 rfl) ?_
    refine c_get C hw (inC inW1) (kd_lt ha0 (by decide)) (ce1 ha0) rfl 5 (by decide) (wc w_367) (v := .ref (h (a0 + 2))) rfl dX1_lay_117 ?_
    refine lv_iconst (v := (2 : Int32)) C.1 C.2.1 dX1_lay_120 (by decide) ?_
    refine lv_iload_n C.1 C.2.1 dX1_lay_121 rfl (lv_at hl 1 rfl) ?_
    obtain ⟨hi122, hh⟩ := hh
    refine c_ias C hw (kd_lt (kd1_2 ha0) (by decide)) (ce12 (kd1_2 ha0)) hi122 dX1_lay_122 (fun H locs hw => ?_)
    refine lv_aload_n C.1 C.2.1 dX1_lay_123 rfl (lv_at hl 0 rfl) ?_
    refine c_get C hw (inC inW1) (kd_lt ha0 (by decide)) (ce1 ha0) rfl 5 (by decide) (wc w_367) (v := .ref (h (a0 + 2))) rfl dX1_lay_124 ?_
    refine lv_iconst (v := (3 : Int32)) C.1 C.2.1 dX1_lay_127 (by decide) ?_
    refine lv_iconst (v := (-1 : Int32)) C.1 C.2.1 dX1_lay_128 (by decide) ?_
    obtain ⟨hi129, hh⟩ := hh
    refine c_ias C hw (kd_lt (kd1_2 ha0) (by decide)) (ce12 (kd1_2 ha0)) hi129 dX1_lay_129 (fun H locs hw => ?_)
    refine lv_aload_n C.1 C.2.1 dX1_lay_130 rfl (lv_at hl 0 rfl) ?_
    refine c_Vv C hw (ctX1_clearWalls l D h cI cL cF cM a0 ha0 (pt (pt (pt (pt F (a0 + 2) (ix (0 : Int32)) (-x1)) (a0 + 2) (ix (1 : Int32)) (1 : Int32)) (a0 + 2) (ix (2 : Int32)) x1) (a0 + 2) (ix (3 : Int32)) (-1 : Int32)) (ptL (ptL (ptL (ptL L (a0 + 3) (ix (0 : Int32)) ((jlshl (1 : Int64) x1) - (1 : Int64))) (a0 + 3) (ix (1 : Int32)) (jlshl x3 (x1 - (1 : Int32)))) (a0 + 3) (ix (2 : Int32)) (jlshl ((ptL (ptL L (a0 + 3) (ix (0 : Int32)) ((jlshl (1 : Int64) x1) - (1 : Int64))) (a0 + 3) (ix (1 : Int32)) (jlshl x3 (x1 - (1 : Int32)))) (a0 + 3) (ix (0 : Int32))) ((F a0 2) - x1))) (a0 + 3) (ix (3 : Int32)) x3) r hh) (cwV 0 C.2.2.2.2 (gd_V w_352 w_354 w_0 w_120 w_355) rfl rfl rfl cdX1_clearWalls ⟨Nat.le_of_ble_eq_true rfl, Nat.le_of_ble_eq_true rfl⟩) rfl (kd_lt ha0 (by decide)) (ce1 ha0) rfl hl.1 (Nat.le_of_ble_eq_true rfl) dX1_lay_131 ⟨Nat.zero_le _, Nat.zero_le _⟩ (fun u131 H locs hh hw => ?_) rfl
    exact hR _ _ (u131.1, u131.2.1, u131.2.2) _ _ dX1_lay_134 hh hw
  · replace hh := hh.2 c35
    refine lv_lload_n C.1 C.2.1 dX1_lay_38 rfl (lv_at hl 3 rfl) ?_
    refine lv_lconst (v := (1 : Int64)) C.1 C.2.1 dX1_lay_39 (by decide) ?_
    refine lv_iload C.1 C.2.1 dX1_lay_40 (lv_at hl 4 rfl) ?_
    refine lv_iload_n C.1 C.2.1 dX1_lay_42 rfl (lv_at hl 1 rfl) ?_
    refine lv_imul C.1 C.2.1 dX1_lay_43 ?_
    refine lv_lshl (v := jlshl (1 : Int64) (x5 * x1)) C.1 C.2.1 dX1_lay_44 rfl ?_
    refine lv_lor C.1 C.2.1 dX1_lay_45 ?_
    refine lv_lstore_n (lv' := [(3, .long (x3 ||| (jlshl (1 : Int64) (x5 * x1)))), (0, .ref (h a0)), (1, .int x1), (2, .int x2), (5, .int x5)]) C.1 C.2.1 dX1_lay_46 rfl hl (by decide) rfl (fun ls hl => ?_)
    refine lv_iinc (v := x5 + (1 : Int32)) (lv' := [(5, .int (x5 + (1 : Int32))), (3, .long (x3 ||| (jlshl (1 : Int64) (x5 * x1)))), (0, .ref (h a0)), (1, .int x1), (2, .int x2)]) C.1 C.2.1 dX1_lay_47 hl (k := 4) rfl rfl (by decide) rfl (fun ls hl => ?_)
    refine lv_goto (tgt := 32) C.1 C.2.1 dX1_lay_50 (by decide) ?_
    exact hB32 _ _ _ _ _ _ _ _ _ _ hh hw (lv_sub hl [2, 3, 4, 1, 0] rfl)
theorem tX1_lay_b32 {a0 : Nat} {K : cS → Prop} (C : CallFix p m c cX1_lay 6 s args wsX1_lay RX1) (hR : Rtv p l e rmX1_lay s m args below meth c cX1_lay D A (cT cI cL cF cM) (cWu h cI cL cF cM) K Q) (ha0 : kd a0 = 1) (n : Nat) : ∀ (F : Nat → Nat → Int32) (L : Nat → Nat → Int64) (r : Nat → Nat → Nat) (x1 : Int32) (x2 : Int32) (x3 : Int64) (x5 : Int32) (H : Heap) (locs : List Loc) (ls : Array Slot), wpX1_lay_b32 a0 n F L r x1 x2 x3 x5 K → Wd D A s (cT cI cL cF cM) (cW h cI cL cF cM F L r) H locs → lv_has ls 6 [(0, .ref (h a0)), (1, .int x1), (2, .int x2), (3, .long x3), (5, .int x5)] → W p l e rmX1_lay s m args below meth c H locs 0 0 Q (F0 m 32 ls []) := by
  induction n with
  | zero => intro F L r x1 x2 x3 x5 H locs ls hh; exact hh.elim
  | succ n ih => intro F L r x1 x2 x3 x5 H locs ls hh hw hl; exact tX1_lay_b32_body C hR ha0 ih hh hw hl
set_option maxHeartbeats 4000000 in
set_option maxRecDepth 100000 in
theorem tX1_lay_b0 {a0 : Nat} {K : cS → Prop} (C : CallFix p m c cX1_lay 6 s args wsX1_lay RX1) (hR : Rtv p l e rmX1_lay s m args below meth c cX1_lay D A (cT cI cL cF cM) (cWu h cI cL cF cM) K Q) (ha0 : kd a0 = 1) {F : Nat → Nat → Int32} {L : Nat → Nat → Int64} {r : Nat → Nat → Nat} {x1 : Int32} {x2 : Int32} (hh : wpX1_lay_b0 a0 F L r x1 x2 K) {H : Heap} {locs : List Loc} {ls : Array Slot} (hw : Wd D A s (cT cI cL cF cM) (cW h cI cL cF cM F L r) H locs) (hl : lv_has ls 6 [(0, .ref (h a0)), (1, .int x1), (2, .int x2)]) : W p l e rmX1_lay s m args below meth c H locs 0 0 Q (F0 m 0 ls []) := by
  unfold wpX1_lay_b0 at hh
  refine lv_aload_n C.1 C.2.1 dX1_lay_0 rfl (lv_at hl 0 rfl) ?_
  refine lv_iload_n C.1 C.2.1 dX1_lay_1 rfl (lv_at hl 1 rfl) ?_
  refine c_puti C hw (inC inW1) tyX1 tyX1_ok nmX1 (kd_lt ha0 (by decide)) (ce1 ha0) rfl 0 (by decide) (wc w_356) rfl (ty := .int) (by decide +kernel) rfl rfl (Nat.le_of_ble_eq_true rfl) rfl dX1_lay_2 (fun H locs hw => ?_)
  refine lv_aload_n C.1 C.2.1 dX1_lay_5 rfl (lv_at hl 0 rfl) ?_
  refine lv_iload_n C.1 C.2.1 dX1_lay_6 rfl (lv_at hl 2 rfl) ?_
  refine c_puti C hw (inC inW1) tyX1 tyX1_ok nmX1 (kd_lt ha0 (by decide)) (ce1 ha0) rfl 1 (by decide) (wc w_357) rfl (ty := .int) (by decide +kernel) rfl rfl (Nat.le_of_ble_eq_true rfl) rfl dX1_lay_7 (fun H locs hw => ?_)
  refine lv_aload_n C.1 C.2.1 dX1_lay_10 rfl (lv_at hl 0 rfl) ?_
  refine lv_iload_n C.1 C.2.1 dX1_lay_11 rfl (lv_at hl 1 rfl) ?_
  refine lv_iload_n C.1 C.2.1 dX1_lay_12 rfl (lv_at hl 2 rfl) ?_
  refine lv_imul C.1 C.2.1 dX1_lay_13 ?_
  refine c_puti C hw (inC inW1) tyX1 tyX1_ok nmX1 (kd_lt ha0 (by decide)) (ce1 ha0) rfl 2 (by decide) (wc w_358) rfl (ty := .int) (by decide +kernel) rfl rfl (Nat.le_of_ble_eq_true rfl) rfl dX1_lay_14 (fun H locs hw => ?_)
  refine lv_aload_n C.1 C.2.1 dX1_lay_17 rfl (lv_at hl 0 rfl) ?_
  refine lv_aload_n C.1 C.2.1 dX1_lay_18 rfl (lv_at hl 0 rfl) ?_
  refine c_get C hw (inC inW1) (kd_lt ha0 (by decide)) (ce1 ha0) rfl 2 (by decide) (wc w_358) (v := .int ((pt (pt (pt F a0 0 x1) a0 1 x2) a0 2 (x1 * x2)) a0 2)) rfl dX1_lay_19 ?_
  refine lv_iconst (v := (1 : Int32)) C.1 C.2.1 dX1_lay_22 (by decide) ?_
  refine lv_isub C.1 C.2.1 dX1_lay_23 ?_
  refine c_puti C hw (inC inW1) tyX1 tyX1_ok nmX1 (kd_lt ha0 (by decide)) (ce1 ha0) rfl 3 (by decide) (wc w_361) rfl (ty := .int) (by decide +kernel) rfl rfl (Nat.le_of_ble_eq_true rfl) rfl dX1_lay_24 (fun H locs hw => ?_)
  refine lv_lconst (v := (0 : Int64)) C.1 C.2.1 dX1_lay_27 (by decide) ?_
  refine lv_lstore_n (lv' := [(3, .long (0 : Int64)), (0, .ref (h a0)), (1, .int x1), (2, .int x2)]) C.1 C.2.1 dX1_lay_28 rfl hl (by decide) rfl (fun ls hl => ?_)
  refine lv_iconst (v := (0 : Int32)) C.1 C.2.1 dX1_lay_29 (by decide) ?_
  refine lv_istore (lv' := [(5, .int (0 : Int32)), (3, .long (0 : Int64)), (0, .ref (h a0)), (1, .int x1), (2, .int x2)]) C.1 C.2.1 dX1_lay_30 hl (by decide) rfl (fun ls hl => ?_)
  obtain ⟨n, hh⟩ := hh
  exact tX1_lay_b32 C hR ha0 n _ _ _ _ _ _ _ _ _ _ hh hw (lv_sub hl [2, 3, 4, 1, 0] rfl)
theorem ctX1_lay (l : Launch) (D : va_G) (h : Nat → Nat) (cI cL cF cM : ClassId) (a0 : Nat) (ha0 : kd a0 = 1) (F : Nat → Nat → Int32) (L : Nat → Nat → Int64) (r : Nat → Nat → Nat) (x1 : Int32) (x2 : Int32) {K : cS → Prop} (hh : wpX1_lay a0 F L r x1 x2 K) : Cv l yX1_lay wsX1_lay rmX1_lay [.ref (h a0), .int x1, .int x2] D (cT cI cL cF cM) (cWu h cI cL cF cM) (F, L, r) K := by
  refine Cv_of (cc := cX1_lay) (maxL := 6) (by decide) rfl (Nat.le_of_ble_eq_true rfl) ?_
  intro p e s m below meth c A Q C hw hR ls hl
  exact tX1_lay_b0 C hR ha0 hh hw hl
theorem cdX1_lay : yX1_lay.cls = RX1 ∧ yX1_lay.cls ≠ "java/lang/invoke/MethodHandle" ∧ yX1_lay.cls ≠ "java/lang/invoke/VarHandle" ∧ (parseMethodDescriptor yX1_lay.desc).map (fun d => d.parameters.length) = some 2 := by decide +kernel
abbrev rmX9_hasRoomFor : Room := { frames := 0, cells := 0, slots := 0, locals := 0 }
set_option maxHeartbeats 4000000 in
set_option maxRecDepth 100000 in
theorem tX9_hasRoomFor_b17 {K : Int32 → cS → Prop} (C : CallFix p m c cX9_hasRoomFor 2 s args wsX9_hasRoomFor RX9) (hR : Rti .boolean p l e rmX9_hasRoomFor s m args below meth c cX9_hasRoomFor D A (cT cI cL cF cM) (cWu h cI cL cF cM) K Q) {F : Nat → Nat → Int32} {L : Nat → Nat → Int64} {r : Nat → Nat → Nat} {k0 : Int32} (hh : wpX9_hasRoomFor_b17 F L r k0 K) {H : Heap} {locs : List Loc} {ls : Array Slot} (hw : Wd D A s (cT cI cL cF cM) (cW h cI cL cF cM F L r) H locs) (hl : lv_has ls 2 [(0, .ref (h 4))]) : W p l e rmX9_hasRoomFor s m args below meth c H locs 0 0 Q (F0 m 17 ls [.int k0]) := by
  unfold wpX9_hasRoomFor_b17 at hh
  obtain ⟨hb17, hh⟩ := hh
  exact hR _ _ _ (F, L, r) _ _ dX9_hasRoomFor_17 (isB_nar hb17) hh hw
set_option maxHeartbeats 4000000 in
set_option maxRecDepth 100000 in
theorem tX9_hasRoomFor_b0 {K : Int32 → cS → Prop} (C : CallFix p m c cX9_hasRoomFor 2 s args wsX9_hasRoomFor RX9) (hR : Rti .boolean p l e rmX9_hasRoomFor s m args below meth c cX9_hasRoomFor D A (cT cI cL cF cM) (cWu h cI cL cF cM) K Q) {F : Nat → Nat → Int32} {L : Nat → Nat → Int64} {r : Nat → Nat → Nat} {x1 : Int32} (hh : wpX9_hasRoomFor_b0 F L r x1 K) {H : Heap} {locs : List Loc} {ls : Array Slot} (hw : Wd D A s (cT cI cL cF cM) (cW h cI cL cF cM F L r) H locs) (hl : lv_has ls 2 [(0, .ref (h 4)), (1, .int x1)]) : W p l e rmX9_hasRoomFor s m args below meth c H locs 0 0 Q (F0 m 0 ls []) := by
  unfold wpX9_hasRoomFor_b0 at hh
  refine lv_aload_n C.1 C.2.1 dX9_hasRoomFor_0 rfl (lv_at hl 0 rfl) ?_
  refine c_get C hw (inC inW9) (kd_lt kp4 (by decide)) (ce9 kp4) rfl 0 (by decide) (wc w_152) (v := .int (F 4 0)) rfl dX9_hasRoomFor_1 ?_
  refine lv_iload_n C.1 C.2.1 dX9_hasRoomFor_4 rfl (lv_at hl 1 rfl) ?_
  refine lv_iadd C.1 C.2.1 dX9_hasRoomFor_5 ?_
  refine lv_sipush (v := (500 : Int32)) C.1 C.2.1 dX9_hasRoomFor_6 (by decide) ?_
  refine lv_icmp_gt (tgt := 16) C.1 C.2.1 dX9_hasRoomFor_9 (by decide) (fun c9 => ?_) (fun c9 => ?_)
  · replace hh := hh.1 c9
    refine lv_iconst (v := (0 : Int32)) C.1 C.2.1 dX9_hasRoomFor_16 (by decide) ?_
    exact tX9_hasRoomFor_b17 C hR hh hw (lv_sub hl [0] rfl)
  · replace hh := hh.2 c9
    refine lv_iconst (v := (1 : Int32)) C.1 C.2.1 dX9_hasRoomFor_12 (by decide) ?_
    refine lv_goto (tgt := 17) C.1 C.2.1 dX9_hasRoomFor_13 (by decide) ?_
    exact tX9_hasRoomFor_b17 C hR hh hw (lv_sub hl [0] rfl)
theorem ctX9_hasRoomFor (l : Launch) (D : va_G) (h : Nat → Nat) (cI cL cF cM : ClassId) (F : Nat → Nat → Int32) (L : Nat → Nat → Int64) (r : Nat → Nat → Nat) (x1 : Int32) {K : Int32 → cS → Prop} (hh : wpX9_hasRoomFor F L r x1 K) : Ci l yX9_hasRoomFor wsX9_hasRoomFor rmX9_hasRoomFor [.ref (h 4), .int x1] D (cT cI cL cF cM) (cWu h cI cL cF cM) (F, L, r) K := by
  refine Ci_of (cc := cX9_hasRoomFor) (maxL := 2) (by decide) rfl (Nat.le_of_ble_eq_true rfl) ?_
  intro p e s m below meth c A Q C hw hR ls hl
  exact tX9_hasRoomFor_b0 C hR hh hw hl
theorem cdX9_hasRoomFor : yX9_hasRoomFor.cls = RX9 ∧ yX9_hasRoomFor.cls ≠ "java/lang/invoke/MethodHandle" ∧ yX9_hasRoomFor.cls ≠ "java/lang/invoke/VarHandle" ∧ (parseMethodDescriptor yX9_hasRoomFor.desc).map (fun d => d.parameters.length) = some 1 := by decide +kernel
abbrev rmX9_append : Room := { frames := 0, cells := 0, slots := 0, locals := 0 }
set_option maxHeartbeats 4000000 in
set_option maxRecDepth 100000 in
theorem tX9_append_b49 {K : cS → Prop} (C : CallFix p m c cX9_append 3 s args wsX9_append RX9) (hR : Rtv p l e rmX9_append s m args below meth c cX9_append D A (cT cI cL cF cM) (cWu h cI cL cF cM) K Q) {F : Nat → Nat → Int32} {L : Nat → Nat → Int64} {r : Nat → Nat → Nat} (hh : wpX9_append_b49 F L r K) {H : Heap} {locs : List Loc} {ls : Array Slot} (hw : Wd D A s (cT cI cL cF cM) (cW h cI cL cF cM F L r) H locs) (hl : lv_has ls 3 [(0, .ref (h 4))]) : W p l e rmX9_append s m args below meth c H locs 0 0 Q (F0 m 49 ls []) := by
  unfold wpX9_append_b49 at hh
  exact hR _ _ (F, L, r) _ _ dX9_append_49 hh hw
set_option maxHeartbeats 4000000 in
set_option maxRecDepth 100000 in
theorem tX9_append_b3_body {B3 : (Nat → Nat → Int32) → (Nat → Nat → Int64) → (Nat → Nat → Nat) → Int32 → Int32 → Prop} {K : cS → Prop} (C : CallFix p m c cX9_append 3 s args wsX9_append RX9) (hR : Rtv p l e rmX9_append s m args below meth c cX9_append D A (cT cI cL cF cM) (cWu h cI cL cF cM) K Q) (hB3 : ∀ (F : Nat → Nat → Int32) (L : Nat → Nat → Int64) (r : Nat → Nat → Nat) (x1 : Int32) (x2 : Int32) (H : Heap) (locs : List Loc) (ls : Array Slot), B3 F L r x1 x2 → Wd D A s (cT cI cL cF cM) (cW h cI cL cF cM F L r) H locs → lv_has ls 3 [(0, .ref (h 4)), (1, .int x1), (2, .int x2)] → W p l e rmX9_append s m args below meth c H locs 0 0 Q (F0 m 3 ls [])) {F : Nat → Nat → Int32} {L : Nat → Nat → Int64} {r : Nat → Nat → Nat} {x1 : Int32} {x2 : Int32} (hh : wpX9_append_b3_body B3 F L r x1 x2 K) {H : Heap} {locs : List Loc} {ls : Array Slot} (hw : Wd D A s (cT cI cL cF cM) (cW h cI cL cF cM F L r) H locs) (hl : lv_has ls 3 [(0, .ref (h 4)), (1, .int x1), (2, .int x2)]) : W p l e rmX9_append s m args below meth c H locs 0 0 Q (F0 m 3 ls []) := by
  unfold wpX9_append_b3_body at hh
  refine lv_iload_n C.1 C.2.1 dX9_append_3 rfl (lv_at hl 2 rfl) ?_
  refine lv_if_lt (tgt := 49) C.1 C.2.1 dX9_append_4 (by decide) (fun c4 => ?_) (fun c4 => ?_)
  · replace hh := hh.1 c4
    exact tX9_append_b49 C hR hh hw (lv_sub hl [0] rfl)
  · replace hh := hh.2 c4
    refine lv_aload_n C.1 C.2.1 dX9_append_7 rfl (lv_at hl 0 rfl) ?_
    refine c_get C hw (inC inW9) (kd_lt kp4 (by decide)) (ce9 kp4) rfl 0 (by decide) (wc w_152) (v := .int (F 4 0)) rfl dX9_append_8 ?_
    refine lv_sipush (v := (500 : Int32)) C.1 C.2.1 dX9_append_11 (by decide) ?_
    refine lv_icmp_ge (tgt := 49) C.1 C.2.1 dX9_append_14 (by decide) (fun c14 => ?_) (fun c14 => ?_)
    · replace hh := hh.1 c14
      exact tX9_append_b49 C hR hh hw (lv_sub hl [0] rfl)
    · replace hh := hh.2 c14
      refine lv_aload_n C.1 C.2.1 dX9_append_17 rfl (lv_at hl 0 rfl) ?_
      refine c_get C hw (inC inW9) (kd_lt kp4 (by decide)) (ce9 kp4) rfl 7 (by decide) (wc w_172) (v := .ref (h 5)) rfl dX9_append_18 ?_
      refine lv_aload_n C.1 C.2.1 dX9_append_21 rfl (lv_at hl 0 rfl) ?_
      refine c_get C hw (inC inW9) (kd_lt kp4 (by decide)) (ce9 kp4) rfl 0 (by decide) (wc w_152) (v := .int (F 4 0)) rfl dX9_append_22 ?_
      refine lv_iload_n C.1 C.2.1 dX9_append_25 rfl (lv_at hl 1 rfl) ?_
      refine lv_iload_n C.1 C.2.1 dX9_append_26 rfl (lv_at hl 2 rfl) ?_
      refine g_iushr C dX9_append_27 ?_
      refine lv_sipush (v := (255 : Int32)) C.1 C.2.1 dX9_append_28 (by decide) ?_
      refine lv_iand C.1 C.2.1 dX9_append_31 ?_
      obtain ⟨hi32, hh⟩ := hh
      refine c_ias C hw (kd_lt kp5 (by decide)) (ce13 kp5) hi32 dX9_append_32 (fun H locs hw => ?_)
      refine lv_aload_n C.1 C.2.1 dX9_append_33 rfl (lv_at hl 0 rfl) ?_
      refine lv_dup C.1 C.2.1 dX9_append_34 rfl ?_
      refine c_get C hw (inC inW9) (kd_lt kp4 (by decide)) (ce9 kp4) rfl 0 (by decide) (wc w_152) (v := .int ((pt F 5 (ix (F 4 0)) ((jushr x1 x2) &&& (255 : Int32))) 4 0)) rfl dX9_append_35 ?_
      refine lv_iconst (v := (1 : Int32)) C.1 C.2.1 dX9_append_38 (by decide) ?_
      refine lv_iadd C.1 C.2.1 dX9_append_39 ?_
      refine c_puti C hw (inC inW9) tyX9 tyX9_ok nmX9 (kd_lt kp4 (by decide)) (ce9 kp4) rfl 0 (by decide) (wc w_152) rfl (ty := .int) (by decide +kernel) rfl rfl (Nat.le_of_ble_eq_true rfl) rfl dX9_append_40 (fun H locs hw => ?_)
      refine lv_iinc (v := x2 + (-8 : Int32)) (lv' := [(2, .int (x2 + (-8 : Int32))), (0, .ref (h 4)), (1, .int x1)]) C.1 C.2.1 dX9_append_43 hl (k := 2) rfl rfl (by decide) rfl (fun ls hl => ?_)
      refine lv_goto (tgt := 3) C.1 C.2.1 dX9_append_46 (by decide) ?_
      exact hB3 _ _ _ _ _ _ _ _ hh hw (lv_sub hl [1, 2, 0] rfl)
theorem tX9_append_b3 {K : cS → Prop} (C : CallFix p m c cX9_append 3 s args wsX9_append RX9) (hR : Rtv p l e rmX9_append s m args below meth c cX9_append D A (cT cI cL cF cM) (cWu h cI cL cF cM) K Q) (n : Nat) : ∀ (F : Nat → Nat → Int32) (L : Nat → Nat → Int64) (r : Nat → Nat → Nat) (x1 : Int32) (x2 : Int32) (H : Heap) (locs : List Loc) (ls : Array Slot), wpX9_append_b3 n F L r x1 x2 K → Wd D A s (cT cI cL cF cM) (cW h cI cL cF cM F L r) H locs → lv_has ls 3 [(0, .ref (h 4)), (1, .int x1), (2, .int x2)] → W p l e rmX9_append s m args below meth c H locs 0 0 Q (F0 m 3 ls []) := by
  induction n with
  | zero => intro F L r x1 x2 H locs ls hh; exact hh.elim
  | succ n ih => intro F L r x1 x2 H locs ls hh hw hl; exact tX9_append_b3_body C hR ih hh hw hl
set_option maxHeartbeats 4000000 in
set_option maxRecDepth 100000 in
theorem tX9_append_b0 {K : cS → Prop} (C : CallFix p m c cX9_append 3 s args wsX9_append RX9) (hR : Rtv p l e rmX9_append s m args below meth c cX9_append D A (cT cI cL cF cM) (cWu h cI cL cF cM) K Q) {F : Nat → Nat → Int32} {L : Nat → Nat → Int64} {r : Nat → Nat → Nat} {x1 : Int32} (hh : wpX9_append_b0 F L r x1 K) {H : Heap} {locs : List Loc} {ls : Array Slot} (hw : Wd D A s (cT cI cL cF cM) (cW h cI cL cF cM F L r) H locs) (hl : lv_has ls 3 [(0, .ref (h 4)), (1, .int x1)]) : W p l e rmX9_append s m args below meth c H locs 0 0 Q (F0 m 0 ls []) := by
  unfold wpX9_append_b0 at hh
  refine lv_bipush (v := (24 : Int32)) C.1 C.2.1 dX9_append_0 (by decide) ?_
  refine lv_istore_n (lv' := [(2, .int (24 : Int32)), (0, .ref (h 4)), (1, .int x1)]) C.1 C.2.1 dX9_append_2 rfl hl (by decide) rfl (fun ls hl => ?_)
  obtain ⟨n, hh⟩ := hh
  exact tX9_append_b3 C hR n _ _ _ _ _ _ _ _ hh hw (lv_sub hl [1, 2, 0] rfl)
theorem ctX9_append (l : Launch) (D : va_G) (h : Nat → Nat) (cI cL cF cM : ClassId) (F : Nat → Nat → Int32) (L : Nat → Nat → Int64) (r : Nat → Nat → Nat) (x1 : Int32) {K : cS → Prop} (hh : wpX9_append F L r x1 K) : Cv l yX9_append wsX9_append rmX9_append [.ref (h 4), .int x1] D (cT cI cL cF cM) (cWu h cI cL cF cM) (F, L, r) K := by
  refine Cv_of (cc := cX9_append) (maxL := 3) (by decide) rfl (Nat.le_of_ble_eq_true rfl) ?_
  intro p e s m below meth c A Q C hw hR ls hl
  exact tX9_append_b0 C hR hh hw hl
theorem cdX9_append : yX9_append.cls = RX9 ∧ yX9_append.cls ≠ "java/lang/invoke/MethodHandle" ∧ yX9_append.cls ≠ "java/lang/invoke/VarHandle" ∧ (parseMethodDescriptor yX9_append.desc).map (fun d => d.parameters.length) = some 1 := by decide +kernel
abbrev rmX10_feed : Room := { frames := 1, cells := 0, slots := 0, locals := 22 }
set_option maxHeartbeats 4000000 in
set_option maxRecDepth 100000 in
theorem tX10_feed_b0 {K : Int32 → cS → Prop} (C : CallFix p m c cX10_feed 6 s args wsX10_feed RX10) (hR : Rti .int p l e rmX10_feed s m args below meth c cX10_feed D A (cT cI cL cF cM) (cWu h cI cL cF cM) K Q) {F : Nat → Nat → Int32} {L : Nat → Nat → Int64} {r : Nat → Nat → Nat} {x1 : Int32} {x2 : Int32} {x3 : Int32} {x4 : Int32} {x5 : Int32} (hh : wpX10_feed_b0 F L r x1 x2 x3 x4 x5 K) {H : Heap} {locs : List Loc} {ls : Array Slot} (hw : Wd D A s (cT cI cL cF cM) (cW h cI cL cF cM F L r) H locs) (hl : lv_has ls 6 [(0, .ref (h 0)), (1, .int x1), (2, .int x2), (3, .int x3), (4, .int x4), (5, .int x5)]) : W p l e rmX10_feed s m args below meth c H locs 0 0 Q (F0 m 0 ls []) := by
  unfold wpX10_feed_b0 at hh
  refine lv_aload_n C.1 C.2.1 dX10_feed_0 rfl (lv_at hl 0 rfl) ?_
  refine c_get C hw (inC inW10) (kd_lt kp0 (by decide)) (ce10 kp0) rfl 0 (by decide) (wc w_570) (v := .ref (h 4)) rfl dX10_feed_1 ?_
  refine lv_bipush (v := (20 : Int32)) C.1 C.2.1 dX10_feed_4 (by decide) ?_
  refine c_Vi C hw (ctX9_hasRoomFor l D h cI cL cF cM F L r (20 : Int32) hh) (cwV 1 C.2.2.2.2 (gd_V w_620 w_621 w_622 w_115 w_623) rfl rfl rfl cdX9_hasRoomFor ⟨Nat.le_of_ble_eq_true rfl, Nat.le_of_ble_eq_true rfl⟩) rfl (kd_lt kp4 (by decide)) (ce9 kp4) rfl hl.1 (Nat.le_of_ble_eq_true rfl) dX10_feed_6 ⟨Nat.zero_le _, Nat.zero_le _⟩ (fun r6 u6 H locs hh hw => ?_) rfl
  refine lv_if_ne (tgt := 14) C.1 C.2.1 dX10_feed_9 (by decide) (fun c9 => ?_) (fun c9 => ?_)
  · replace hh := hh.1 c9
    refine lv_aload_n C.1 C.2.1 dX10_feed_14 rfl (lv_at hl 0 rfl) ?_
    refine c_get C hw (inC inW10) (kd_lt kp0 (by decide)) (ce10 kp0) rfl 0 (by decide) (wc w_570) (v := .ref (h 4)) rfl dX10_feed_15 ?_
    refine lv_iload_n C.1 C.2.1 dX10_feed_18 rfl (lv_at hl 1 rfl) ?_
    refine c_Vv C hw (ctX9_append l D h cI cL cF cM u6.1 u6.2.1 u6.2.2 x1 hh) (cwV 1 C.2.2.2.2 (gd_V w_624 w_625 w_626 w_115 w_627) rfl rfl rfl cdX9_append ⟨Nat.le_of_ble_eq_true rfl, Nat.le_of_ble_eq_true rfl⟩) rfl (kd_lt kp4 (by decide)) (ce9 kp4) rfl hl.1 (Nat.le_of_ble_eq_true rfl) dX10_feed_19 ⟨Nat.zero_le _, Nat.zero_le _⟩ (fun u19 H locs hh hw => ?_) rfl
    refine lv_aload_n C.1 C.2.1 dX10_feed_22 rfl (lv_at hl 0 rfl) ?_
    refine c_get C hw (inC inW10) (kd_lt kp0 (by decide)) (ce10 kp0) rfl 0 (by decide) (wc w_570) (v := .ref (h 4)) rfl dX10_feed_23 ?_
    refine lv_iload_n C.1 C.2.1 dX10_feed_26 rfl (lv_at hl 2 rfl) ?_
    refine c_Vv C hw (ctX9_append l D h cI cL cF cM u19.1 u19.2.1 u19.2.2 x2 hh) (cwV 1 C.2.2.2.2 (gd_V w_624 w_625 w_626 w_115 w_627) rfl rfl rfl cdX9_append ⟨Nat.le_of_ble_eq_true rfl, Nat.le_of_ble_eq_true rfl⟩) rfl (kd_lt kp4 (by decide)) (ce9 kp4) rfl hl.1 (Nat.le_of_ble_eq_true rfl) dX10_feed_27 ⟨Nat.zero_le _, Nat.zero_le _⟩ (fun u27 H locs hh hw => ?_) rfl
    refine lv_aload_n C.1 C.2.1 dX10_feed_30 rfl (lv_at hl 0 rfl) ?_
    refine c_get C hw (inC inW10) (kd_lt kp0 (by decide)) (ce10 kp0) rfl 0 (by decide) (wc w_570) (v := .ref (h 4)) rfl dX10_feed_31 ?_
    refine lv_iload_n C.1 C.2.1 dX10_feed_34 rfl (lv_at hl 3 rfl) ?_
    refine c_Vv C hw (ctX9_append l D h cI cL cF cM u27.1 u27.2.1 u27.2.2 x3 hh) (cwV 1 C.2.2.2.2 (gd_V w_624 w_625 w_626 w_115 w_627) rfl rfl rfl cdX9_append ⟨Nat.le_of_ble_eq_true rfl, Nat.le_of_ble_eq_true rfl⟩) rfl (kd_lt kp4 (by decide)) (ce9 kp4) rfl hl.1 (Nat.le_of_ble_eq_true rfl) dX10_feed_35 ⟨Nat.zero_le _, Nat.zero_le _⟩ (fun u35 H locs hh hw => ?_) rfl
    refine lv_aload_n C.1 C.2.1 dX10_feed_38 rfl (lv_at hl 0 rfl) ?_
    refine c_get C hw (inC inW10) (kd_lt kp0 (by decide)) (ce10 kp0) rfl 0 (by decide) (wc w_570) (v := .ref (h 4)) rfl dX10_feed_39 ?_
    refine lv_iload C.1 C.2.1 dX10_feed_42 (lv_at hl 4 rfl) ?_
    refine c_Vv C hw (ctX9_append l D h cI cL cF cM u35.1 u35.2.1 u35.2.2 x4 hh) (cwV 1 C.2.2.2.2 (gd_V w_624 w_625 w_626 w_115 w_627) rfl rfl rfl cdX9_append ⟨Nat.le_of_ble_eq_true rfl, Nat.le_of_ble_eq_true rfl⟩) rfl (kd_lt kp4 (by decide)) (ce9 kp4) rfl hl.1 (Nat.le_of_ble_eq_true rfl) dX10_feed_44 ⟨Nat.zero_le _, Nat.zero_le _⟩ (fun u44 H locs hh hw => ?_) rfl
    refine lv_aload_n C.1 C.2.1 dX10_feed_47 rfl (lv_at hl 0 rfl) ?_
    refine c_get C hw (inC inW10) (kd_lt kp0 (by decide)) (ce10 kp0) rfl 0 (by decide) (wc w_570) (v := .ref (h 4)) rfl dX10_feed_48 ?_
    refine lv_iload C.1 C.2.1 dX10_feed_51 (lv_at hl 5 rfl) ?_
    refine c_Vv C hw (ctX9_append l D h cI cL cF cM u44.1 u44.2.1 u44.2.2 x5 hh) (cwV 1 C.2.2.2.2 (gd_V w_624 w_625 w_626 w_115 w_627) rfl rfl rfl cdX9_append ⟨Nat.le_of_ble_eq_true rfl, Nat.le_of_ble_eq_true rfl⟩) rfl (kd_lt kp4 (by decide)) (ce9 kp4) rfl hl.1 (Nat.le_of_ble_eq_true rfl) dX10_feed_53 ⟨Nat.zero_le _, Nat.zero_le _⟩ (fun u53 H locs hh hw => ?_) rfl
    refine lv_aload_n C.1 C.2.1 dX10_feed_56 rfl (lv_at hl 0 rfl) ?_
    refine c_get C hw (inC inW10) (kd_lt kp0 (by decide)) (ce10 kp0) rfl 0 (by decide) (wc w_570) (v := .ref (h 4)) rfl dX10_feed_57 ?_
    refine c_get C hw (inC inW9) (kd_lt kp4 (by decide)) (ce9 kp4) rfl 0 (by decide) (wc w_153) (v := .int (u53.1 4 0)) rfl dX10_feed_60 ?_
    exact hR _ _ _ (u53.1, u53.2.1, u53.2.2) _ _ dX10_feed_63 rfl hh hw
  · replace hh := hh.2 c9
    refine lv_iconst (v := (-1 : Int32)) C.1 C.2.1 dX10_feed_12 (by decide) ?_
    exact hR _ _ _ (u6.1, u6.2.1, u6.2.2) _ _ dX10_feed_13 rfl hh hw
theorem ctX10_feed (l : Launch) (D : va_G) (h : Nat → Nat) (cI cL cF cM : ClassId) (F : Nat → Nat → Int32) (L : Nat → Nat → Int64) (r : Nat → Nat → Nat) (x1 : Int32) (x2 : Int32) (x3 : Int32) (x4 : Int32) (x5 : Int32) {K : Int32 → cS → Prop} (hh : wpX10_feed F L r x1 x2 x3 x4 x5 K) : Ci l yX10_feed wsX10_feed rmX10_feed [.ref (h 0), .int x1, .int x2, .int x3, .int x4, .int x5] D (cT cI cL cF cM) (cWu h cI cL cF cM) (F, L, r) K := by
  refine Ci_of (cc := cX10_feed) (maxL := 6) (by decide) rfl (Nat.le_of_ble_eq_true rfl) ?_
  intro p e s m below meth c A Q C hw hR ls hl
  exact tX10_feed_b0 C hR hh hw hl
theorem cdX10_feed : yX10_feed.cls = RX10 ∧ yX10_feed.cls ≠ "java/lang/invoke/MethodHandle" ∧ yX10_feed.cls ≠ "java/lang/invoke/VarHandle" ∧ (parseMethodDescriptor yX10_feed.desc).map (fun d => d.parameters.length) = some 5 := by decide +kernel
abbrev rmX9_byteAt : Room := { frames := 0, cells := 0, slots := 0, locals := 0 }
set_option maxHeartbeats 4000000 in
set_option maxRecDepth 100000 in
theorem tX9_byteAt_b29 {K : Int32 → cS → Prop} (C : CallFix p m c cX9_byteAt 2 s args wsX9_byteAt RX9) (hR : Rti .int p l e rmX9_byteAt s m args below meth c cX9_byteAt D A (cT cI cL cF cM) (cWu h cI cL cF cM) K Q) {F : Nat → Nat → Int32} {L : Nat → Nat → Int64} {r : Nat → Nat → Nat} {k0 : Int32} (hh : wpX9_byteAt_b29 F L r k0 K) {H : Heap} {locs : List Loc} {ls : Array Slot} (hw : Wd D A s (cT cI cL cF cM) (cW h cI cL cF cM F L r) H locs) (hl : lv_has ls 2 [(0, .ref (h 4))]) : W p l e rmX9_byteAt s m args below meth c H locs 0 0 Q (F0 m 29 ls [.int k0]) := by
  unfold wpX9_byteAt_b29 at hh
  exact hR _ _ _ (F, L, r) _ _ dX9_byteAt_29 rfl hh hw
set_option maxHeartbeats 4000000 in
set_option maxRecDepth 100000 in
theorem tX9_byteAt_b28 {K : Int32 → cS → Prop} (C : CallFix p m c cX9_byteAt 2 s args wsX9_byteAt RX9) (hR : Rti .int p l e rmX9_byteAt s m args below meth c cX9_byteAt D A (cT cI cL cF cM) (cWu h cI cL cF cM) K Q) {F : Nat → Nat → Int32} {L : Nat → Nat → Int64} {r : Nat → Nat → Nat} (hh : wpX9_byteAt_b28 F L r K) {H : Heap} {locs : List Loc} {ls : Array Slot} (hw : Wd D A s (cT cI cL cF cM) (cW h cI cL cF cM F L r) H locs) (hl : lv_has ls 2 [(0, .ref (h 4))]) : W p l e rmX9_byteAt s m args below meth c H locs 0 0 Q (F0 m 28 ls []) := by
  unfold wpX9_byteAt_b28 at hh
  refine lv_iconst (v := (-1 : Int32)) C.1 C.2.1 dX9_byteAt_28 (by decide) ?_
  exact tX9_byteAt_b29 C hR hh hw hl
set_option maxHeartbeats 4000000 in
set_option maxRecDepth 100000 in
theorem tX9_byteAt_b0 {K : Int32 → cS → Prop} (C : CallFix p m c cX9_byteAt 2 s args wsX9_byteAt RX9) (hR : Rti .int p l e rmX9_byteAt s m args below meth c cX9_byteAt D A (cT cI cL cF cM) (cWu h cI cL cF cM) K Q) {F : Nat → Nat → Int32} {L : Nat → Nat → Int64} {r : Nat → Nat → Nat} {x1 : Int32} (hh : wpX9_byteAt_b0 F L r x1 K) {H : Heap} {locs : List Loc} {ls : Array Slot} (hw : Wd D A s (cT cI cL cF cM) (cW h cI cL cF cM F L r) H locs) (hl : lv_has ls 2 [(0, .ref (h 4)), (1, .int x1)]) : W p l e rmX9_byteAt s m args below meth c H locs 0 0 Q (F0 m 0 ls []) := by
  unfold wpX9_byteAt_b0 at hh
  refine lv_iload_n C.1 C.2.1 dX9_byteAt_0 rfl (lv_at hl 1 rfl) ?_
  refine lv_if_lt (tgt := 28) C.1 C.2.1 dX9_byteAt_1 (by decide) (fun c1 => ?_) (fun c1 => ?_)
  · replace hh := hh.1 c1
    exact tX9_byteAt_b28 C hR hh hw (lv_sub hl [0] rfl)
  · replace hh := hh.2 c1
    refine lv_iload_n C.1 C.2.1 dX9_byteAt_4 rfl (lv_at hl 1 rfl) ?_
    refine lv_aload_n C.1 C.2.1 dX9_byteAt_5 rfl (lv_at hl 0 rfl) ?_
    refine c_get C hw (inC inW9) (kd_lt kp4 (by decide)) (ce9 kp4) rfl 14 (by decide) (wc w_179) (v := .int (F 4 14)) rfl dX9_byteAt_6 ?_
    refine lv_icmp_ge (tgt := 28) C.1 C.2.1 dX9_byteAt_9 (by decide) (fun c9 => ?_) (fun c9 => ?_)
    · replace hh := hh.1 c9
      exact tX9_byteAt_b28 C hR hh hw (lv_sub hl [0] rfl)
    · replace hh := hh.2 c9
      refine lv_iload_n C.1 C.2.1 dX9_byteAt_12 rfl (lv_at hl 1 rfl) ?_
      refine lv_sipush (v := (500 : Int32)) C.1 C.2.1 dX9_byteAt_13 (by decide) ?_
      refine lv_icmp_ge (tgt := 28) C.1 C.2.1 dX9_byteAt_16 (by decide) (fun c16 => ?_) (fun c16 => ?_)
      · replace hh := hh.1 c16
        exact tX9_byteAt_b28 C hR hh hw (lv_sub hl [0] rfl)
      · replace hh := hh.2 c16
        refine lv_aload_n C.1 C.2.1 dX9_byteAt_19 rfl (lv_at hl 0 rfl) ?_
        refine c_get C hw (inC inW9) (kd_lt kp4 (by decide)) (ce9 kp4) rfl 7 (by decide) (wc w_172) (v := .ref (h 5)) rfl dX9_byteAt_20 ?_
        refine lv_iload_n C.1 C.2.1 dX9_byteAt_23 rfl (lv_at hl 1 rfl) ?_
        obtain ⟨hi24, hh⟩ := hh
        refine c_ial C hw (kd_lt kp5 (by decide)) (ce13 kp5) hi24 dX9_byteAt_24 ?_
        refine lv_goto (tgt := 29) C.1 C.2.1 dX9_byteAt_25 (by decide) ?_
        exact tX9_byteAt_b29 C hR hh hw (lv_sub hl [0] rfl)
theorem ctX9_byteAt (l : Launch) (D : va_G) (h : Nat → Nat) (cI cL cF cM : ClassId) (F : Nat → Nat → Int32) (L : Nat → Nat → Int64) (r : Nat → Nat → Nat) (x1 : Int32) {K : Int32 → cS → Prop} (hh : wpX9_byteAt F L r x1 K) : Ci l yX9_byteAt wsX9_byteAt rmX9_byteAt [.ref (h 4), .int x1] D (cT cI cL cF cM) (cWu h cI cL cF cM) (F, L, r) K := by
  refine Ci_of (cc := cX9_byteAt) (maxL := 2) (by decide) rfl (Nat.le_of_ble_eq_true rfl) ?_
  intro p e s m below meth c A Q C hw hR ls hl
  exact tX9_byteAt_b0 C hR hh hw hl
theorem cdX9_byteAt : yX9_byteAt.cls = RX9 ∧ yX9_byteAt.cls ≠ "java/lang/invoke/MethodHandle" ∧ yX9_byteAt.cls ≠ "java/lang/invoke/VarHandle" ∧ (parseMethodDescriptor yX9_byteAt.desc).map (fun d => d.parameters.length) = some 1 := by decide +kernel
abbrev rmX9_isLetter : Room := { frames := 0, cells := 0, slots := 0, locals := 0 }
set_option maxHeartbeats 4000000 in
set_option maxRecDepth 100000 in
theorem tX9_isLetter_b17 {K : Int32 → Unit → Prop} (C : CallFix p m c cX9_isLetter 1 s args wsX9_isLetter RX9) (hR : Rti .boolean p l e rmX9_isLetter s m args below meth c cX9_isLetter D A [] (fun _ : Unit => []) K Q) {k0 : Int32} (hh : wpX9_isLetter_b17 k0 K) {H : Heap} {locs : List Loc} {ls : Array Slot} (hw : Wd D A s [] [] H locs) (hl : lv_has ls 1 []) : W p l e rmX9_isLetter s m args below meth c H locs 0 0 Q (F0 m 17 ls [.int k0]) := by
  unfold wpX9_isLetter_b17 at hh
  obtain ⟨hb17, hh⟩ := hh
  exact hR _ _ _ () _ _ dX9_isLetter_17 (isB_nar hb17) hh hw
set_option maxHeartbeats 4000000 in
set_option maxRecDepth 100000 in
theorem tX9_isLetter_b16 {K : Int32 → Unit → Prop} (C : CallFix p m c cX9_isLetter 1 s args wsX9_isLetter RX9) (hR : Rti .boolean p l e rmX9_isLetter s m args below meth c cX9_isLetter D A [] (fun _ : Unit => []) K Q) (hh : wpX9_isLetter_b16  K) {H : Heap} {locs : List Loc} {ls : Array Slot} (hw : Wd D A s [] [] H locs) (hl : lv_has ls 1 []) : W p l e rmX9_isLetter s m args below meth c H locs 0 0 Q (F0 m 16 ls []) := by
  unfold wpX9_isLetter_b16 at hh
  refine lv_iconst (v := (0 : Int32)) C.1 C.2.1 dX9_isLetter_16 (by decide) ?_
  exact tX9_isLetter_b17 C hR hh hw hl
set_option maxHeartbeats 4000000 in
set_option maxRecDepth 100000 in
theorem tX9_isLetter_b0 {K : Int32 → Unit → Prop} (C : CallFix p m c cX9_isLetter 1 s args wsX9_isLetter RX9) (hR : Rti .boolean p l e rmX9_isLetter s m args below meth c cX9_isLetter D A [] (fun _ : Unit => []) K Q) {x0 : Int32} (hh : wpX9_isLetter_b0 x0 K) {H : Heap} {locs : List Loc} {ls : Array Slot} (hw : Wd D A s [] [] H locs) (hl : lv_has ls 1 [(0, .int x0)]) : W p l e rmX9_isLetter s m args below meth c H locs 0 0 Q (F0 m 0 ls []) := by
  unfold wpX9_isLetter_b0 at hh
  refine lv_iload_n C.1 C.2.1 dX9_isLetter_0 rfl (lv_at hl 0 rfl) ?_
  refine lv_bipush (v := (97 : Int32)) C.1 C.2.1 dX9_isLetter_1 (by decide) ?_
  refine lv_icmp_lt (tgt := 16) C.1 C.2.1 dX9_isLetter_3 (by decide) (fun c3 => ?_) (fun c3 => ?_)
  · replace hh := hh.1 c3
    exact tX9_isLetter_b16 C hR hh hw (lv_sub hl [] rfl)
  · replace hh := hh.2 c3
    refine lv_iload_n C.1 C.2.1 dX9_isLetter_6 rfl (lv_at hl 0 rfl) ?_
    refine lv_bipush (v := (122 : Int32)) C.1 C.2.1 dX9_isLetter_7 (by decide) ?_
    refine lv_icmp_gt (tgt := 16) C.1 C.2.1 dX9_isLetter_9 (by decide) (fun c9 => ?_) (fun c9 => ?_)
    · replace hh := hh.1 c9
      exact tX9_isLetter_b16 C hR hh hw (lv_sub hl [] rfl)
    · replace hh := hh.2 c9
      refine lv_iconst (v := (1 : Int32)) C.1 C.2.1 dX9_isLetter_12 (by decide) ?_
      refine lv_goto (tgt := 17) C.1 C.2.1 dX9_isLetter_13 (by decide) ?_
      exact tX9_isLetter_b17 C hR hh hw (lv_sub hl [] rfl)
theorem ctX9_isLetter (l : Launch) (D : va_G) (x0 : Int32) {K : Int32 → Unit → Prop} (hh : wpX9_isLetter x0 K) : Ci l yX9_isLetter wsX9_isLetter rmX9_isLetter [.int x0] D [] (fun _ : Unit => []) () K := by
  refine Ci_of (cc := cX9_isLetter) (maxL := 1) (by decide) rfl (Nat.le_of_ble_eq_true rfl) ?_
  intro p e s m below meth c A Q C hw hR ls hl
  exact tX9_isLetter_b0 C hR hh hw hl
theorem cdX9_isLetter : yX9_isLetter.cls ≠ "java/lang/invoke/MethodHandle" ∧ yX9_isLetter.cls ≠ "java/lang/invoke/VarHandle" ∧ (parseMethodDescriptor yX9_isLetter.desc).map (fun d => d.parameters.length) = some 1 := by decide +kernel
abbrev rmX9_letterCode : Room := { frames := 0, cells := 0, slots := 0, locals := 0 }
set_option maxHeartbeats 4000000 in
set_option maxRecDepth 100000 in
theorem tX9_letterCode_b0 {K : Int32 → Unit → Prop} (C : CallFix p m c cX9_letterCode 1 s args wsX9_letterCode RX9) (hR : Rti .int p l e rmX9_letterCode s m args below meth c cX9_letterCode D A [] (fun _ : Unit => []) K Q) {x0 : Int32} (hh : wpX9_letterCode_b0 x0 K) {H : Heap} {locs : List Loc} {ls : Array Slot} (hw : Wd D A s [] [] H locs) (hl : lv_has ls 1 [(0, .int x0)]) : W p l e rmX9_letterCode s m args below meth c H locs 0 0 Q (F0 m 0 ls []) := by
  unfold wpX9_letterCode_b0 at hh
  refine lv_iload_n C.1 C.2.1 dX9_letterCode_0 rfl (lv_at hl 0 rfl) ?_
  refine lv_bipush (v := (97 : Int32)) C.1 C.2.1 dX9_letterCode_1 (by decide) ?_
  refine lv_isub C.1 C.2.1 dX9_letterCode_3 ?_
  refine lv_iconst (v := (1 : Int32)) C.1 C.2.1 dX9_letterCode_4 (by decide) ?_
  refine lv_iadd C.1 C.2.1 dX9_letterCode_5 ?_
  exact hR _ _ _ () _ _ dX9_letterCode_6 rfl hh hw
theorem ctX9_letterCode (l : Launch) (D : va_G) (x0 : Int32) {K : Int32 → Unit → Prop} (hh : wpX9_letterCode x0 K) : Ci l yX9_letterCode wsX9_letterCode rmX9_letterCode [.int x0] D [] (fun _ : Unit => []) () K := by
  refine Ci_of (cc := cX9_letterCode) (maxL := 1) (by decide) rfl (Nat.le_of_ble_eq_true rfl) ?_
  intro p e s m below meth c A Q C hw hR ls hl
  exact tX9_letterCode_b0 C hR hh hw hl
theorem cdX9_letterCode : yX9_letterCode.cls ≠ "java/lang/invoke/MethodHandle" ∧ yX9_letterCode.cls ≠ "java/lang/invoke/VarHandle" ∧ (parseMethodDescriptor yX9_letterCode.desc).map (fun d => d.parameters.length) = some 1 := by decide +kernel
abbrev rmX9_packWord : Room := { frames := 1, cells := 0, slots := 0, locals := 21 }
set_option maxHeartbeats 4000000 in
set_option maxRecDepth 100000 in
theorem tX9_packWord_b76 {K : Int32 → cS → Prop} (C : CallFix p m c cX9_packWord 3 s args wsX9_packWord RX9) (hR : Rti .int p l e rmX9_packWord s m args below meth c cX9_packWord D A (cT cI cL cF cM) (cWu h cI cL cF cM) K Q) {F : Nat → Nat → Int32} {L : Nat → Nat → Int64} {r : Nat → Nat → Nat} {x2 : Int32} (hh : wpX9_packWord_b76 F L r x2 K) {H : Heap} {locs : List Loc} {ls : Array Slot} (hw : Wd D A s (cT cI cL cF cM) (cW h cI cL cF cM F L r) H locs) (hl : lv_has ls 3 [(0, .ref (h 4)), (2, .int x2)]) : W p l e rmX9_packWord s m args below meth c H locs 0 0 Q (F0 m 76 ls []) := by
  unfold wpX9_packWord_b76 at hh
  refine lv_iload_n C.1 C.2.1 dX9_packWord_76 rfl (lv_at hl 1 rfl) ?_
  exact hR _ _ _ (F, L, r) _ _ dX9_packWord_77 rfl hh hw
set_option maxHeartbeats 4000000 in
set_option maxRecDepth 100000 in
theorem tX9_packWord_b62 {B7 : (Nat → Nat → Int32) → (Nat → Nat → Int64) → (Nat → Nat → Nat) → Int32 → Int32 → Prop} {K : Int32 → cS → Prop} (C : CallFix p m c cX9_packWord 3 s args wsX9_packWord RX9) (hR : Rti .int p l e rmX9_packWord s m args below meth c cX9_packWord D A (cT cI cL cF cM) (cWu h cI cL cF cM) K Q) (hB7 : ∀ (F : Nat → Nat → Int32) (L : Nat → Nat → Int64) (r : Nat → Nat → Nat) (x1 : Int32) (x2 : Int32) (H : Heap) (locs : List Loc) (ls : Array Slot), B7 F L r x1 x2 → Wd D A s (cT cI cL cF cM) (cW h cI cL cF cM F L r) H locs → lv_has ls 3 [(0, .ref (h 4)), (1, .int x1), (2, .int x2)] → W p l e rmX9_packWord s m args below meth c H locs 0 0 Q (F0 m 7 ls [])) {F : Nat → Nat → Int32} {L : Nat → Nat → Int64} {r : Nat → Nat → Nat} {k0 : Int32} {x1 : Int32} (hh : wpX9_packWord_b62 B7 F L r k0 x1 K) {H : Heap} {locs : List Loc} {ls : Array Slot} (hw : Wd D A s (cT cI cL cF cM) (cW h cI cL cF cM F L r) H locs) (hl : lv_has ls 3 [(0, .ref (h 4)), (1, .int x1)]) : W p l e rmX9_packWord s m args below meth c H locs 0 0 Q (F0 m 62 ls [.int k0]) := by
  unfold wpX9_packWord_b62 at hh
  refine lv_istore_n (lv' := [(2, .int k0), (0, .ref (h 4)), (1, .int x1)]) C.1 C.2.1 dX9_packWord_62 rfl hl (by decide) rfl (fun ls hl => ?_)
  refine lv_aload_n C.1 C.2.1 dX9_packWord_63 rfl (lv_at hl 1 rfl) ?_
  refine lv_dup C.1 C.2.1 dX9_packWord_64 rfl ?_
  refine c_get C hw (inC inW9) (kd_lt kp4 (by decide)) (ce9 kp4) rfl 15 (by decide) (wc w_180) (v := .int (F 4 15)) rfl dX9_packWord_65 ?_
  refine lv_iconst (v := (1 : Int32)) C.1 C.2.1 dX9_packWord_68 (by decide) ?_
  refine lv_iadd C.1 C.2.1 dX9_packWord_69 ?_
  refine c_puti C hw (inC inW9) tyX9 tyX9_ok nmX9 (kd_lt kp4 (by decide)) (ce9 kp4) rfl 15 (by decide) (wc w_180) rfl (ty := .int) (by decide +kernel) rfl rfl (Nat.le_of_ble_eq_true rfl) rfl dX9_packWord_70 (fun H locs hw => ?_)
  refine lv_goto (tgt := 7) C.1 C.2.1 dX9_packWord_73 (by decide) ?_
  exact hB7 _ _ _ _ _ _ _ _ hh hw (lv_sub hl [1, 2, 0] rfl)
set_option maxHeartbeats 4000000 in
set_option maxRecDepth 100000 in
theorem tX9_packWord_b7_body {B7 : (Nat → Nat → Int32) → (Nat → Nat → Int64) → (Nat → Nat → Nat) → Int32 → Int32 → Prop} {K : Int32 → cS → Prop} (C : CallFix p m c cX9_packWord 3 s args wsX9_packWord RX9) (hR : Rti .int p l e rmX9_packWord s m args below meth c cX9_packWord D A (cT cI cL cF cM) (cWu h cI cL cF cM) K Q) (hB7 : ∀ (F : Nat → Nat → Int32) (L : Nat → Nat → Int64) (r : Nat → Nat → Nat) (x1 : Int32) (x2 : Int32) (H : Heap) (locs : List Loc) (ls : Array Slot), B7 F L r x1 x2 → Wd D A s (cT cI cL cF cM) (cW h cI cL cF cM F L r) H locs → lv_has ls 3 [(0, .ref (h 4)), (1, .int x1), (2, .int x2)] → W p l e rmX9_packWord s m args below meth c H locs 0 0 Q (F0 m 7 ls [])) {F : Nat → Nat → Int32} {L : Nat → Nat → Int64} {r : Nat → Nat → Nat} {x1 : Int32} {x2 : Int32} (hh : wpX9_packWord_b7_body B7 F L r x1 x2 K) {H : Heap} {locs : List Loc} {ls : Array Slot} (hw : Wd D A s (cT cI cL cF cM) (cW h cI cL cF cM F L r) H locs) (hl : lv_has ls 3 [(0, .ref (h 4)), (1, .int x1), (2, .int x2)]) : W p l e rmX9_packWord s m args below meth c H locs 0 0 Q (F0 m 7 ls []) := by
  unfold wpX9_packWord_b7_body at hh
  refine lv_aload_n C.1 C.2.1 dX9_packWord_7 rfl (lv_at hl 0 rfl) ?_
  refine c_get C hw (inC inW9) (kd_lt kp4 (by decide)) (ce9 kp4) rfl 15 (by decide) (wc w_180) (v := .int (F 4 15)) rfl dX9_packWord_8 ?_
  refine lv_aload_n C.1 C.2.1 dX9_packWord_11 rfl (lv_at hl 0 rfl) ?_
  refine c_get C hw (inC inW9) (kd_lt kp4 (by decide)) (ce9 kp4) rfl 14 (by decide) (wc w_179) (v := .int (F 4 14)) rfl dX9_packWord_12 ?_
  refine lv_icmp_ge (tgt := 76) C.1 C.2.1 dX9_packWord_15 (by decide) (fun c15 => ?_) (fun c15 => ?_)
  · replace hh := hh.1 c15
    exact tX9_packWord_b76 C hR hh hw (lv_sub hl [0, 2] rfl)
  · replace hh := hh.2 c15
    refine lv_aload_n C.1 C.2.1 dX9_packWord_18 rfl (lv_at hl 0 rfl) ?_
    refine lv_aload_n C.1 C.2.1 dX9_packWord_19 rfl (lv_at hl 0 rfl) ?_
    refine c_get C hw (inC inW9) (kd_lt kp4 (by decide)) (ce9 kp4) rfl 15 (by decide) (wc w_180) (v := .int (F 4 15)) rfl dX9_packWord_20 ?_
    refine c_Vi C hw (ctX9_byteAt l D h cI cL cF cM F L r (F 4 15) hh) (cwV 1 C.2.2.2.2 (gd_V w_645 w_647 w_2 w_115 w_648) rfl rfl rfl cdX9_byteAt ⟨Nat.le_of_ble_eq_true rfl, Nat.le_of_ble_eq_true rfl⟩) rfl (kd_lt kp4 (by decide)) (ce9 kp4) rfl hl.1 (Nat.le_of_ble_eq_true rfl) dX9_packWord_23 ⟨Nat.zero_le _, Nat.zero_le _⟩ (fun r23 u23 H locs hh hw => ?_) rfl
    refine wd_Si C hw (ctX9_isLetter l D r23 hh) (va_cwS 1 C.2.2.2.2 (gd_S w_649 w_650 (ini_cls rfl w_115) w_651) rfl rfl rfl cdX9_isLetter ⟨Nat.le_of_ble_eq_true rfl, Nat.le_of_ble_eq_true rfl⟩) rfl hl.1 (Nat.le_of_ble_eq_true rfl) dX9_packWord_26 ⟨Nat.zero_le _, Nat.zero_le _⟩ (fun r26 H locs hh hw => ?_) rfl
    refine lv_if_eq (tgt := 76) C.1 C.2.1 dX9_packWord_29 (by decide) (fun c29 => ?_) (fun c29 => ?_)
    · replace hh := hh.1 c29
      exact tX9_packWord_b76 C hR hh hw (lv_sub hl [0, 2] rfl)
    · replace hh := hh.2 c29
      refine lv_aload_n C.1 C.2.1 dX9_packWord_32 rfl (lv_at hl 0 rfl) ?_
      refine c_get C hw (inC inW9) (kd_lt kp4 (by decide)) (ce9 kp4) rfl 15 (by decide) (wc w_180) (v := .int (u23.1 4 15)) rfl dX9_packWord_33 ?_
      refine lv_iload_n C.1 C.2.1 dX9_packWord_36 rfl (lv_at hl 1 rfl) ?_
      refine lv_isub C.1 C.2.1 dX9_packWord_37 ?_
      refine lv_bipush (v := (6 : Int32)) C.1 C.2.1 dX9_packWord_38 (by decide) ?_
      refine lv_icmp_ge (tgt := 61) C.1 C.2.1 dX9_packWord_40 (by decide) (fun c40 => ?_) (fun c40 => ?_)
      · replace hh := hh.1 c40
        refine lv_iconst (v := (0 : Int32)) C.1 C.2.1 dX9_packWord_61 (by decide) ?_
        exact tX9_packWord_b62 C hR hB7 hh hw (lv_sub hl [0, 1] rfl)
      · replace hh := hh.2 c40
        refine lv_iload_n C.1 C.2.1 dX9_packWord_43 rfl (lv_at hl 2 rfl) ?_
        refine lv_iconst (v := (5 : Int32)) C.1 C.2.1 dX9_packWord_44 (by decide) ?_
        refine g_ishl C dX9_packWord_45 ?_
        refine lv_aload_n C.1 C.2.1 dX9_packWord_46 rfl (lv_at hl 0 rfl) ?_
        refine lv_aload_n C.1 C.2.1 dX9_packWord_47 rfl (lv_at hl 0 rfl) ?_
        refine c_get C hw (inC inW9) (kd_lt kp4 (by decide)) (ce9 kp4) rfl 15 (by decide) (wc w_180) (v := .int (u23.1 4 15)) rfl dX9_packWord_48 ?_
        refine c_Vi C hw (ctX9_byteAt l D h cI cL cF cM u23.1 u23.2.1 u23.2.2 (u23.1 4 15) hh) (cwV 1 C.2.2.2.2 (gd_V w_645 w_647 w_2 w_115 w_648) rfl rfl rfl cdX9_byteAt ⟨Nat.le_of_ble_eq_true rfl, Nat.le_of_ble_eq_true rfl⟩) rfl (kd_lt kp4 (by decide)) (ce9 kp4) rfl hl.1 (Nat.le_of_ble_eq_true rfl) dX9_packWord_51 ⟨Nat.zero_le _, Nat.zero_le _⟩ (fun r51 u51 H locs hh hw => ?_) rfl
        refine wd_Si C hw (ctX9_letterCode l D r51 hh) (va_cwS 1 C.2.2.2.2 (gd_S w_656 w_657 (ini_cls rfl w_115) w_658) rfl rfl rfl cdX9_letterCode ⟨Nat.le_of_ble_eq_true rfl, Nat.le_of_ble_eq_true rfl⟩) rfl hl.1 (Nat.le_of_ble_eq_true rfl) dX9_packWord_54 ⟨Nat.zero_le _, Nat.zero_le _⟩ (fun r54 H locs hh hw => ?_) rfl
        refine lv_ior C.1 C.2.1 dX9_packWord_57 ?_
        refine lv_goto (tgt := 62) C.1 C.2.1 dX9_packWord_58 (by decide) ?_
        exact tX9_packWord_b62 C hR hB7 hh hw (lv_sub hl [0, 1] rfl)
theorem tX9_packWord_b7 {K : Int32 → cS → Prop} (C : CallFix p m c cX9_packWord 3 s args wsX9_packWord RX9) (hR : Rti .int p l e rmX9_packWord s m args below meth c cX9_packWord D A (cT cI cL cF cM) (cWu h cI cL cF cM) K Q) (n : Nat) : ∀ (F : Nat → Nat → Int32) (L : Nat → Nat → Int64) (r : Nat → Nat → Nat) (x1 : Int32) (x2 : Int32) (H : Heap) (locs : List Loc) (ls : Array Slot), wpX9_packWord_b7 n F L r x1 x2 K → Wd D A s (cT cI cL cF cM) (cW h cI cL cF cM F L r) H locs → lv_has ls 3 [(0, .ref (h 4)), (1, .int x1), (2, .int x2)] → W p l e rmX9_packWord s m args below meth c H locs 0 0 Q (F0 m 7 ls []) := by
  induction n with
  | zero => intro F L r x1 x2 H locs ls hh; exact hh.elim
  | succ n ih => intro F L r x1 x2 H locs ls hh hw hl; exact tX9_packWord_b7_body C hR ih hh hw hl
set_option maxHeartbeats 4000000 in
set_option maxRecDepth 100000 in
theorem tX9_packWord_b0 {K : Int32 → cS → Prop} (C : CallFix p m c cX9_packWord 3 s args wsX9_packWord RX9) (hR : Rti .int p l e rmX9_packWord s m args below meth c cX9_packWord D A (cT cI cL cF cM) (cWu h cI cL cF cM) K Q) {F : Nat → Nat → Int32} {L : Nat → Nat → Int64} {r : Nat → Nat → Nat} (hh : wpX9_packWord_b0 F L r K) {H : Heap} {locs : List Loc} {ls : Array Slot} (hw : Wd D A s (cT cI cL cF cM) (cW h cI cL cF cM F L r) H locs) (hl : lv_has ls 3 [(0, .ref (h 4))]) : W p l e rmX9_packWord s m args below meth c H locs 0 0 Q (F0 m 0 ls []) := by
  unfold wpX9_packWord_b0 at hh
  refine lv_aload_n C.1 C.2.1 dX9_packWord_0 rfl (lv_at hl 0 rfl) ?_
  refine c_get C hw (inC inW9) (kd_lt kp4 (by decide)) (ce9 kp4) rfl 15 (by decide) (wc w_180) (v := .int (F 4 15)) rfl dX9_packWord_1 ?_
  refine lv_istore_n (lv' := [(1, .int (F 4 15)), (0, .ref (h 4))]) C.1 C.2.1 dX9_packWord_4 rfl hl (by decide) rfl (fun ls hl => ?_)
  refine lv_iconst (v := (0 : Int32)) C.1 C.2.1 dX9_packWord_5 (by decide) ?_
  refine lv_istore_n (lv' := [(2, .int (0 : Int32)), (1, .int (F 4 15)), (0, .ref (h 4))]) C.1 C.2.1 dX9_packWord_6 rfl hl (by decide) rfl (fun ls hl => ?_)
  obtain ⟨n, hh⟩ := hh
  exact tX9_packWord_b7 C hR n _ _ _ _ _ _ _ _ hh hw (lv_sub hl [2, 1, 0] rfl)
theorem ctX9_packWord (l : Launch) (D : va_G) (h : Nat → Nat) (cI cL cF cM : ClassId) (F : Nat → Nat → Int32) (L : Nat → Nat → Int64) (r : Nat → Nat → Nat) {K : Int32 → cS → Prop} (hh : wpX9_packWord F L r K) : Ci l yX9_packWord wsX9_packWord rmX9_packWord [.ref (h 4)] D (cT cI cL cF cM) (cWu h cI cL cF cM) (F, L, r) K := by
  refine Ci_of (cc := cX9_packWord) (maxL := 3) (by decide) rfl (Nat.le_of_ble_eq_true rfl) ?_
  intro p e s m below meth c A Q C hw hR ls hl
  exact tX9_packWord_b0 C hR hh hw hl
theorem cdX9_packWord : yX9_packWord.cls = RX9 ∧ yX9_packWord.cls ≠ "java/lang/invoke/MethodHandle" ∧ yX9_packWord.cls ≠ "java/lang/invoke/VarHandle" ∧ (parseMethodDescriptor yX9_packWord.desc).map (fun d => d.parameters.length) = some 0 := by decide +kernel
abbrev rmX9_indexOfWord : Room := { frames := 4, cells := 0, slots := 0, locals := 85 }
set_option maxHeartbeats 4000000 in
set_option maxRecDepth 100000 in
theorem tX9_indexOfWord_b56 {z1 : Nat} {B7 : Int32 → Int32 → Int32 → Int32 → Prop} {K : Int32 → Unit → Prop} (C : CallFix p m c cX9_indexOfWord 6 s args wsX9_indexOfWord RX9) (hR : Rti .int p l e rmX9_indexOfWord s m args below meth c cX9_indexOfWord D A [] (fun _ : Unit => []) K Q) (hz1 : z1 < 2) (hB7 : ∀  (x0 : Int32) (x2 : Int32) (x3 : Int32) (x4 : Int32) (H : Heap) (locs : List Loc) (ls : Array Slot), B7 x0 x2 x3 x4 → Wd D A s [] [] H locs → lv_has ls 6 [(0, .int x0), (1, .ref (D.2 1000 z1)), (2, .int x2), (3, .int x3), (4, .int x4)] → W p l e rmX9_indexOfWord s m args below meth c H locs 0 0 Q (F0 m 7 ls [])) {x0 : Int32} {x2 : Int32} {x3 : Int32} {x4 : Int32} (hh : wpX9_indexOfWord_b56 B7 z1 x0 x2 x3 x4 K) {H : Heap} {locs : List Loc} {ls : Array Slot} (hw : Wd D A s [] [] H locs) (hl : lv_has ls 6 [(0, .int x0), (1, .ref (D.2 1000 z1)), (2, .int x2), (3, .int x3), (4, .int x4)]) : W p l e rmX9_indexOfWord s m args below meth c H locs 0 0 Q (F0 m 56 ls []) := by
  unfold wpX9_indexOfWord_b56 at hh
  refine lv_iinc (v := x4 + (1 : Int32)) (lv' := [(4, .int (x4 + (1 : Int32))), (0, .int x0), (1, .ref (D.2 1000 z1)), (2, .int x2), (3, .int x3)]) C.1 C.2.1 dX9_indexOfWord_56 hl (k := 4) rfl rfl (by decide) rfl (fun ls hl => ?_)
  refine lv_goto (tgt := 7) C.1 C.2.1 dX9_indexOfWord_59 (by decide) ?_
  exact hB7 _ _ _ _ _ _ _ hh hw (lv_sub hl [1, 2, 3, 4, 0] rfl)
set_option maxHeartbeats 4000000 in
set_option maxRecDepth 100000 in
theorem tX9_indexOfWord_b7_body {z1 : Nat} {B7 : Int32 → Int32 → Int32 → Int32 → Prop} {K : Int32 → Unit → Prop} (C : CallFix p m c cX9_indexOfWord 6 s args wsX9_indexOfWord RX9) (hR : Rti .int p l e rmX9_indexOfWord s m args below meth c cX9_indexOfWord D A [] (fun _ : Unit => []) K Q) (hz1 : z1 < 2) (hB7 : ∀  (x0 : Int32) (x2 : Int32) (x3 : Int32) (x4 : Int32) (H : Heap) (locs : List Loc) (ls : Array Slot), B7 x0 x2 x3 x4 → Wd D A s [] [] H locs → lv_has ls 6 [(0, .int x0), (1, .ref (D.2 1000 z1)), (2, .int x2), (3, .int x3), (4, .int x4)] → W p l e rmX9_indexOfWord s m args below meth c H locs 0 0 Q (F0 m 7 ls [])) {x0 : Int32} {x2 : Int32} {x3 : Int32} {x4 : Int32} (hh : wpX9_indexOfWord_b7_body B7 z1 x0 x2 x3 x4 K) {H : Heap} {locs : List Loc} {ls : Array Slot} (hw : Wd D A s [] [] H locs) (hl : lv_has ls 6 [(0, .int x0), (1, .ref (D.2 1000 z1)), (2, .int x2), (3, .int x3), (4, .int x4)]) : W p l e rmX9_indexOfWord s m args below meth c H locs 0 0 Q (F0 m 7 ls []) := by
  unfold wpX9_indexOfWord_b7_body at hh
  refine lv_iload C.1 C.2.1 dX9_indexOfWord_7 (lv_at hl 4 rfl) ?_
  refine lv_aload_n C.1 C.2.1 dX9_indexOfWord_9 rfl (lv_at hl 1 rfl) ?_
  refine wz_Vi C hw hz1 (ctJ0_length_8abf5 l D z1 hz1 hh) (cwV 0 C.2.2.2.2 (gd_V w_662 w_663 w_664 w_126 w_665) rfl rfl rfl cdJ0_length_8abf5 ⟨Nat.le_of_ble_eq_true rfl, Nat.le_of_ble_eq_true rfl⟩) rfl hl.1 (Nat.le_of_ble_eq_true rfl) dX9_indexOfWord_10 ⟨Nat.zero_le _, Nat.zero_le _⟩ (fun r10 H locs hh hw => ?_) rfl
  refine lv_icmp_ge (tgt := 62) C.1 C.2.1 dX9_indexOfWord_13 (by decide) (fun c13 => ?_) (fun c13 => ?_)
  · replace hh := hh.1 c13
    refine lv_iconst (v := (-1 : Int32)) C.1 C.2.1 dX9_indexOfWord_62 (by decide) ?_
    exact hR _ _ _ () _ _ dX9_indexOfWord_63 rfl hh hw
  · replace hh := hh.2 c13
    refine lv_aload_n C.1 C.2.1 dX9_indexOfWord_16 rfl (lv_at hl 1 rfl) ?_
    refine lv_iload C.1 C.2.1 dX9_indexOfWord_17 (lv_at hl 4 rfl) ?_
    refine wz_Vi C hw hz1 (ctJ0_charAt_5068e l D z1 hz1 x4 hh) (cwV 1 C.2.2.2.2 (gd_V w_672 w_673 w_674 w_126 w_675) rfl rfl rfl cdJ0_charAt_5068e ⟨Nat.le_of_ble_eq_true rfl, Nat.le_of_ble_eq_true rfl⟩) rfl hl.1 (Nat.le_of_ble_eq_true rfl) dX9_indexOfWord_19 ⟨Nat.zero_le _, Nat.zero_le _⟩ (fun r19 H locs hh hw => ?_) rfl
    refine lv_istore (lv' := [(5, .int r19), (0, .int x0), (1, .ref (D.2 1000 z1)), (2, .int x2), (3, .int x3), (4, .int x4)]) C.1 C.2.1 dX9_indexOfWord_22 hl (by decide) rfl (fun ls hl => ?_)
    refine lv_iload C.1 C.2.1 dX9_indexOfWord_24 (lv_at hl 0 rfl) ?_
    refine lv_bipush (v := (32 : Int32)) C.1 C.2.1 dX9_indexOfWord_26 (by decide) ?_
    refine lv_icmp_eq (tgt := 44) C.1 C.2.1 dX9_indexOfWord_28 (by decide) (fun c28 => ?_) (fun c28 => ?_)
    · replace hh := hh.1 c28
      refine lv_iload_n C.1 C.2.1 dX9_indexOfWord_44 rfl (lv_at hl 4 rfl) ?_
      refine lv_iload_n C.1 C.2.1 dX9_indexOfWord_45 rfl (lv_at hl 1 rfl) ?_
      refine lv_icmp_ne (tgt := 51) C.1 C.2.1 dX9_indexOfWord_46 (by decide) (fun c46 => ?_) (fun c46 => ?_)
      · replace hh := hh.1 c46
        refine lv_iinc (v := x2 + (1 : Int32)) (lv' := [(2, .int (x2 + (1 : Int32))), (5, .int r19), (0, .int x0), (1, .ref (D.2 1000 z1)), (3, .int x3), (4, .int x4)]) C.1 C.2.1 dX9_indexOfWord_51 hl (k := 3) rfl rfl (by decide) rfl (fun ls hl => ?_)
        refine lv_iconst (v := (0 : Int32)) C.1 C.2.1 dX9_indexOfWord_54 (by decide) ?_
        refine lv_istore_n (lv' := [(3, .int (0 : Int32)), (2, .int (x2 + (1 : Int32))), (5, .int r19), (0, .int x0), (1, .ref (D.2 1000 z1)), (4, .int x4)]) C.1 C.2.1 dX9_indexOfWord_55 rfl hl (by decide) rfl (fun ls hl => ?_)
        exact tX9_indexOfWord_b56 C hR hz1 hB7 hh hw (lv_sub hl [3, 4, 1, 0, 5] rfl)
      · replace hh := hh.2 c46
        refine lv_iload_n C.1 C.2.1 dX9_indexOfWord_49 rfl (lv_at hl 3 rfl) ?_
        exact hR _ _ _ () _ _ dX9_indexOfWord_50 rfl hh hw
    · replace hh := hh.2 c28
      refine lv_iload_n C.1 C.2.1 dX9_indexOfWord_31 rfl (lv_at hl 4 rfl) ?_
      refine lv_iconst (v := (5 : Int32)) C.1 C.2.1 dX9_indexOfWord_32 (by decide) ?_
      refine g_ishl C dX9_indexOfWord_33 ?_
      refine lv_iload C.1 C.2.1 dX9_indexOfWord_34 (lv_at hl 0 rfl) ?_
      refine wd_Si C hw (ctX9_letterCode l D r19 hh) (va_cwS 1 C.2.2.2.2 (gd_S w_656 w_657 (ini_cls rfl w_115) w_658) rfl rfl rfl cdX9_letterCode ⟨Nat.le_of_ble_eq_true rfl, Nat.le_of_ble_eq_true rfl⟩) rfl hl.1 (Nat.le_of_ble_eq_true rfl) dX9_indexOfWord_36 ⟨Nat.zero_le _, Nat.zero_le _⟩ (fun r36 H locs hh hw => ?_) rfl
      refine lv_ior C.1 C.2.1 dX9_indexOfWord_39 ?_
      refine lv_istore_n (lv' := [(3, .int ((jshl x3 (5 : Int32)) ||| r36)), (5, .int r19), (0, .int x0), (1, .ref (D.2 1000 z1)), (2, .int x2), (4, .int x4)]) C.1 C.2.1 dX9_indexOfWord_40 rfl hl (by decide) rfl (fun ls hl => ?_)
      refine lv_goto (tgt := 56) C.1 C.2.1 dX9_indexOfWord_41 (by decide) ?_
      exact tX9_indexOfWord_b56 C hR hz1 hB7 hh hw (lv_sub hl [2, 3, 4, 0, 5] rfl)
theorem tX9_indexOfWord_b7 {z1 : Nat} {K : Int32 → Unit → Prop} (C : CallFix p m c cX9_indexOfWord 6 s args wsX9_indexOfWord RX9) (hR : Rti .int p l e rmX9_indexOfWord s m args below meth c cX9_indexOfWord D A [] (fun _ : Unit => []) K Q) (hz1 : z1 < 2) (n : Nat) : ∀ (x0 : Int32) (x2 : Int32) (x3 : Int32) (x4 : Int32) (H : Heap) (locs : List Loc) (ls : Array Slot), wpX9_indexOfWord_b7 z1 n x0 x2 x3 x4 K → Wd D A s [] [] H locs → lv_has ls 6 [(0, .int x0), (1, .ref (D.2 1000 z1)), (2, .int x2), (3, .int x3), (4, .int x4)] → W p l e rmX9_indexOfWord s m args below meth c H locs 0 0 Q (F0 m 7 ls []) := by
  induction n with
  | zero => intro x0 x2 x3 x4 H locs ls hh; exact hh.elim
  | succ n ih => intro x0 x2 x3 x4 H locs ls hh hw hl; exact tX9_indexOfWord_b7_body C hR hz1 ih hh hw hl
set_option maxHeartbeats 4000000 in
set_option maxRecDepth 100000 in
theorem tX9_indexOfWord_b0 {z1 : Nat} {K : Int32 → Unit → Prop} (C : CallFix p m c cX9_indexOfWord 6 s args wsX9_indexOfWord RX9) (hR : Rti .int p l e rmX9_indexOfWord s m args below meth c cX9_indexOfWord D A [] (fun _ : Unit => []) K Q) (hz1 : z1 < 2) {x0 : Int32} (hh : wpX9_indexOfWord_b0 z1 x0 K) {H : Heap} {locs : List Loc} {ls : Array Slot} (hw : Wd D A s [] [] H locs) (hl : lv_has ls 6 [(0, .int x0), (1, .ref (D.2 1000 z1))]) : W p l e rmX9_indexOfWord s m args below meth c H locs 0 0 Q (F0 m 0 ls []) := by
  unfold wpX9_indexOfWord_b0 at hh
  refine lv_iconst (v := (0 : Int32)) C.1 C.2.1 dX9_indexOfWord_0 (by decide) ?_
  refine lv_istore_n (lv' := [(2, .int (0 : Int32)), (0, .int x0), (1, .ref (D.2 1000 z1))]) C.1 C.2.1 dX9_indexOfWord_1 rfl hl (by decide) rfl (fun ls hl => ?_)
  refine lv_iconst (v := (0 : Int32)) C.1 C.2.1 dX9_indexOfWord_2 (by decide) ?_
  refine lv_istore_n (lv' := [(3, .int (0 : Int32)), (2, .int (0 : Int32)), (0, .int x0), (1, .ref (D.2 1000 z1))]) C.1 C.2.1 dX9_indexOfWord_3 rfl hl (by decide) rfl (fun ls hl => ?_)
  refine lv_iconst (v := (0 : Int32)) C.1 C.2.1 dX9_indexOfWord_4 (by decide) ?_
  refine lv_istore (lv' := [(4, .int (0 : Int32)), (3, .int (0 : Int32)), (2, .int (0 : Int32)), (0, .int x0), (1, .ref (D.2 1000 z1))]) C.1 C.2.1 dX9_indexOfWord_5 hl (by decide) rfl (fun ls hl => ?_)
  obtain ⟨n, hh⟩ := hh
  exact tX9_indexOfWord_b7 C hR hz1 n _ _ _ _ _ _ _ hh hw (lv_sub hl [3, 4, 2, 1, 0] rfl)
theorem ctX9_indexOfWord (l : Launch) (D : va_G) (z1 : Nat) (hz1 : z1 < 2) (x0 : Int32) {K : Int32 → Unit → Prop} (hh : wpX9_indexOfWord z1 x0 K) : Ci l yX9_indexOfWord wsX9_indexOfWord rmX9_indexOfWord [.int x0, .ref (D.2 1000 z1)] D [] (fun _ : Unit => []) () K := by
  refine Ci_of (cc := cX9_indexOfWord) (maxL := 6) (by decide) rfl (Nat.le_of_ble_eq_true rfl) ?_
  intro p e s m below meth c A Q C hw hR ls hl
  exact tX9_indexOfWord_b0 C hR hz1 hh hw hl
theorem cdX9_indexOfWord : yX9_indexOfWord.cls ≠ "java/lang/invoke/MethodHandle" ∧ yX9_indexOfWord.cls ≠ "java/lang/invoke/VarHandle" ∧ (parseMethodDescriptor yX9_indexOfWord.desc).map (fun d => d.parameters.length) = some 2 := by decide +kernel
abbrev rmX9_addToken : Room := { frames := 0, cells := 0, slots := 0, locals := 0 }
set_option maxHeartbeats 4000000 in
set_option maxRecDepth 100000 in
theorem tX9_addToken_b63 {K : cS → Prop} (C : CallFix p m c cX9_addToken 5 s args wsX9_addToken RX9) (hR : Rtv p l e rmX9_addToken s m args below meth c cX9_addToken D A (cT cI cL cF cM) (cWu h cI cL cF cM) K Q) {F : Nat → Nat → Int32} {L : Nat → Nat → Int64} {r : Nat → Nat → Nat} (hh : wpX9_addToken_b63 F L r K) {H : Heap} {locs : List Loc} {ls : Array Slot} (hw : Wd D A s (cT cI cL cF cM) (cW h cI cL cF cM F L r) H locs) (hl : lv_has ls 5 [(0, .ref (h 4))]) : W p l e rmX9_addToken s m args below meth c H locs 0 0 Q (F0 m 63 ls []) := by
  unfold wpX9_addToken_b63 at hh
  exact hR _ _ (F, L, r) _ _ dX9_addToken_63 hh hw
set_option maxHeartbeats 4000000 in
set_option maxRecDepth 100000 in
theorem tX9_addToken_b0 {K : cS → Prop} (C : CallFix p m c cX9_addToken 5 s args wsX9_addToken RX9) (hR : Rtv p l e rmX9_addToken s m args below meth c cX9_addToken D A (cT cI cL cF cM) (cWu h cI cL cF cM) K Q) {F : Nat → Nat → Int32} {L : Nat → Nat → Int64} {r : Nat → Nat → Nat} {x1 : Int32} {x2 : Int32} {x3 : Int32} {x4 : Int32} (hh : wpX9_addToken_b0 F L r x1 x2 x3 x4 K) {H : Heap} {locs : List Loc} {ls : Array Slot} (hw : Wd D A s (cT cI cL cF cM) (cW h cI cL cF cM F L r) H locs) (hl : lv_has ls 5 [(0, .ref (h 4)), (1, .int x1), (2, .int x2), (3, .int x3), (4, .int x4)]) : W p l e rmX9_addToken s m args below meth c H locs 0 0 Q (F0 m 0 ls []) := by
  unfold wpX9_addToken_b0 at hh
  refine lv_aload_n C.1 C.2.1 dX9_addToken_0 rfl (lv_at hl 0 rfl) ?_
  refine c_get C hw (inC inW9) (kd_lt kp4 (by decide)) (ce9 kp4) rfl 12 (by decide) (wc w_177) (v := .int (F 4 12)) rfl dX9_addToken_1 ?_
  refine lv_aload_n C.1 C.2.1 dX9_addToken_4 rfl (lv_at hl 0 rfl) ?_
  refine c_get C hw (inC inW9) (kd_lt kp4 (by decide)) (ce9 kp4) rfl 8 (by decide) (wc w_173) (v := .ref (h 6)) rfl dX9_addToken_5 ?_
  refine c_len C hw (kd_lt kp6 (by decide)) (ce14 kp6) (v := (501 : Int32)) (by decide) dX9_addToken_8 ?_
  refine lv_icmp_ge (tgt := 63) C.1 C.2.1 dX9_addToken_9 (by decide) (fun c9 => ?_) (fun c9 => ?_)
  · replace hh := hh.1 c9
    exact tX9_addToken_b63 C hR hh hw (lv_sub hl [0] rfl)
  · replace hh := hh.2 c9
    refine lv_aload_n C.1 C.2.1 dX9_addToken_12 rfl (lv_at hl 0 rfl) ?_
    refine c_get C hw (inC inW9) (kd_lt kp4 (by decide)) (ce9 kp4) rfl 8 (by decide) (wc w_173) (v := .ref (h 6)) rfl dX9_addToken_13 ?_
    refine lv_aload_n C.1 C.2.1 dX9_addToken_16 rfl (lv_at hl 0 rfl) ?_
    refine c_get C hw (inC inW9) (kd_lt kp4 (by decide)) (ce9 kp4) rfl 12 (by decide) (wc w_177) (v := .int (F 4 12)) rfl dX9_addToken_17 ?_
    refine lv_iload_n C.1 C.2.1 dX9_addToken_20 rfl (lv_at hl 1 rfl) ?_
    obtain ⟨hi21, hh⟩ := hh
    refine c_ias C hw (kd_lt kp6 (by decide)) (ce14 kp6) hi21 dX9_addToken_21 (fun H locs hw => ?_)
    refine lv_aload_n C.1 C.2.1 dX9_addToken_22 rfl (lv_at hl 0 rfl) ?_
    refine c_get C hw (inC inW9) (kd_lt kp4 (by decide)) (ce9 kp4) rfl 9 (by decide) (wc w_174) (v := .ref (h 7)) rfl dX9_addToken_23 ?_
    refine lv_aload_n C.1 C.2.1 dX9_addToken_26 rfl (lv_at hl 0 rfl) ?_
    refine c_get C hw (inC inW9) (kd_lt kp4 (by decide)) (ce9 kp4) rfl 12 (by decide) (wc w_177) (v := .int ((pt F 6 (ix (F 4 12)) x1) 4 12)) rfl dX9_addToken_27 ?_
    refine lv_iload_n C.1 C.2.1 dX9_addToken_30 rfl (lv_at hl 2 rfl) ?_
    obtain ⟨hi31, hh⟩ := hh
    refine c_ias C hw (kd_lt kp7 (by decide)) (ce14 kp7) hi31 dX9_addToken_31 (fun H locs hw => ?_)
    refine lv_aload_n C.1 C.2.1 dX9_addToken_32 rfl (lv_at hl 0 rfl) ?_
    refine c_get C hw (inC inW9) (kd_lt kp4 (by decide)) (ce9 kp4) rfl 10 (by decide) (wc w_175) (v := .ref (h 8)) rfl dX9_addToken_33 ?_
    refine lv_aload_n C.1 C.2.1 dX9_addToken_36 rfl (lv_at hl 0 rfl) ?_
    refine c_get C hw (inC inW9) (kd_lt kp4 (by decide)) (ce9 kp4) rfl 12 (by decide) (wc w_177) (v := .int ((pt (pt F 6 (ix (F 4 12)) x1) 7 (ix ((pt F 6 (ix (F 4 12)) x1) 4 12)) x2) 4 12)) rfl dX9_addToken_37 ?_
    refine lv_iload_n C.1 C.2.1 dX9_addToken_40 rfl (lv_at hl 3 rfl) ?_
    obtain ⟨hi41, hh⟩ := hh
    refine c_ias C hw (kd_lt kp8 (by decide)) (ce14 kp8) hi41 dX9_addToken_41 (fun H locs hw => ?_)
    refine lv_aload_n C.1 C.2.1 dX9_addToken_42 rfl (lv_at hl 0 rfl) ?_
    refine c_get C hw (inC inW9) (kd_lt kp4 (by decide)) (ce9 kp4) rfl 11 (by decide) (wc w_176) (v := .ref (h 9)) rfl dX9_addToken_43 ?_
    refine lv_aload_n C.1 C.2.1 dX9_addToken_46 rfl (lv_at hl 0 rfl) ?_
    refine c_get C hw (inC inW9) (kd_lt kp4 (by decide)) (ce9 kp4) rfl 12 (by decide) (wc w_177) (v := .int ((pt (pt (pt F 6 (ix (F 4 12)) x1) 7 (ix ((pt F 6 (ix (F 4 12)) x1) 4 12)) x2) 8 (ix ((pt (pt F 6 (ix (F 4 12)) x1) 7 (ix ((pt F 6 (ix (F 4 12)) x1) 4 12)) x2) 4 12)) x3) 4 12)) rfl dX9_addToken_47 ?_
    refine lv_iload C.1 C.2.1 dX9_addToken_50 (lv_at hl 4 rfl) ?_
    obtain ⟨hi52, hh⟩ := hh
    refine c_ias C hw (kd_lt kp9 (by decide)) (ce14 kp9) hi52 dX9_addToken_52 (fun H locs hw => ?_)
    refine lv_aload_n C.1 C.2.1 dX9_addToken_53 rfl (lv_at hl 0 rfl) ?_
    refine lv_dup C.1 C.2.1 dX9_addToken_54 rfl ?_
    refine c_get C hw (inC inW9) (kd_lt kp4 (by decide)) (ce9 kp4) rfl 12 (by decide) (wc w_177) (v := .int ((pt (pt (pt (pt F 6 (ix (F 4 12)) x1) 7 (ix ((pt F 6 (ix (F 4 12)) x1) 4 12)) x2) 8 (ix ((pt (pt F 6 (ix (F 4 12)) x1) 7 (ix ((pt F 6 (ix (F 4 12)) x1) 4 12)) x2) 4 12)) x3) 9 (ix ((pt (pt (pt F 6 (ix (F 4 12)) x1) 7 (ix ((pt F 6 (ix (F 4 12)) x1) 4 12)) x2) 8 (ix ((pt (pt F 6 (ix (F 4 12)) x1) 7 (ix ((pt F 6 (ix (F 4 12)) x1) 4 12)) x2) 4 12)) x3) 4 12)) x4) 4 12)) rfl dX9_addToken_55 ?_
    refine lv_iconst (v := (1 : Int32)) C.1 C.2.1 dX9_addToken_58 (by decide) ?_
    refine lv_iadd C.1 C.2.1 dX9_addToken_59 ?_
    refine c_puti C hw (inC inW9) tyX9 tyX9_ok nmX9 (kd_lt kp4 (by decide)) (ce9 kp4) rfl 12 (by decide) (wc w_177) rfl (ty := .int) (by decide +kernel) rfl rfl (Nat.le_of_ble_eq_true rfl) rfl dX9_addToken_60 (fun H locs hw => ?_)
    exact tX9_addToken_b63 C hR hh hw (lv_sub hl [0] rfl)
theorem ctX9_addToken (l : Launch) (D : va_G) (h : Nat → Nat) (cI cL cF cM : ClassId) (F : Nat → Nat → Int32) (L : Nat → Nat → Int64) (r : Nat → Nat → Nat) (x1 : Int32) (x2 : Int32) (x3 : Int32) (x4 : Int32) {K : cS → Prop} (hh : wpX9_addToken F L r x1 x2 x3 x4 K) : Cv l yX9_addToken wsX9_addToken rmX9_addToken [.ref (h 4), .int x1, .int x2, .int x3, .int x4] D (cT cI cL cF cM) (cWu h cI cL cF cM) (F, L, r) K := by
  refine Cv_of (cc := cX9_addToken) (maxL := 5) (by decide) rfl (Nat.le_of_ble_eq_true rfl) ?_
  intro p e s m below meth c A Q C hw hR ls hl
  exact tX9_addToken_b0 C hR hh hw hl
theorem cdX9_addToken : yX9_addToken.cls = RX9 ∧ yX9_addToken.cls ≠ "java/lang/invoke/MethodHandle" ∧ yX9_addToken.cls ≠ "java/lang/invoke/VarHandle" ∧ (parseMethodDescriptor yX9_addToken.desc).map (fun d => d.parameters.length) = some 4 := by decide +kernel
abbrev rmX9_isDigit : Room := { frames := 0, cells := 0, slots := 0, locals := 0 }
set_option maxHeartbeats 4000000 in
set_option maxRecDepth 100000 in
theorem tX9_isDigit_b17 {K : Int32 → Unit → Prop} (C : CallFix p m c cX9_isDigit 1 s args wsX9_isDigit RX9) (hR : Rti .boolean p l e rmX9_isDigit s m args below meth c cX9_isDigit D A [] (fun _ : Unit => []) K Q) {k0 : Int32} (hh : wpX9_isDigit_b17 k0 K) {H : Heap} {locs : List Loc} {ls : Array Slot} (hw : Wd D A s [] [] H locs) (hl : lv_has ls 1 []) : W p l e rmX9_isDigit s m args below meth c H locs 0 0 Q (F0 m 17 ls [.int k0]) := by
  unfold wpX9_isDigit_b17 at hh
  obtain ⟨hb17, hh⟩ := hh
  exact hR _ _ _ () _ _ dX9_isDigit_17 (isB_nar hb17) hh hw
set_option maxHeartbeats 4000000 in
set_option maxRecDepth 100000 in
theorem tX9_isDigit_b16 {K : Int32 → Unit → Prop} (C : CallFix p m c cX9_isDigit 1 s args wsX9_isDigit RX9) (hR : Rti .boolean p l e rmX9_isDigit s m args below meth c cX9_isDigit D A [] (fun _ : Unit => []) K Q) (hh : wpX9_isDigit_b16  K) {H : Heap} {locs : List Loc} {ls : Array Slot} (hw : Wd D A s [] [] H locs) (hl : lv_has ls 1 []) : W p l e rmX9_isDigit s m args below meth c H locs 0 0 Q (F0 m 16 ls []) := by
  unfold wpX9_isDigit_b16 at hh
  refine lv_iconst (v := (0 : Int32)) C.1 C.2.1 dX9_isDigit_16 (by decide) ?_
  exact tX9_isDigit_b17 C hR hh hw hl
set_option maxHeartbeats 4000000 in
set_option maxRecDepth 100000 in
theorem tX9_isDigit_b0 {K : Int32 → Unit → Prop} (C : CallFix p m c cX9_isDigit 1 s args wsX9_isDigit RX9) (hR : Rti .boolean p l e rmX9_isDigit s m args below meth c cX9_isDigit D A [] (fun _ : Unit => []) K Q) {x0 : Int32} (hh : wpX9_isDigit_b0 x0 K) {H : Heap} {locs : List Loc} {ls : Array Slot} (hw : Wd D A s [] [] H locs) (hl : lv_has ls 1 [(0, .int x0)]) : W p l e rmX9_isDigit s m args below meth c H locs 0 0 Q (F0 m 0 ls []) := by
  unfold wpX9_isDigit_b0 at hh
  refine lv_iload_n C.1 C.2.1 dX9_isDigit_0 rfl (lv_at hl 0 rfl) ?_
  refine lv_bipush (v := (48 : Int32)) C.1 C.2.1 dX9_isDigit_1 (by decide) ?_
  refine lv_icmp_lt (tgt := 16) C.1 C.2.1 dX9_isDigit_3 (by decide) (fun c3 => ?_) (fun c3 => ?_)
  · replace hh := hh.1 c3
    exact tX9_isDigit_b16 C hR hh hw (lv_sub hl [] rfl)
  · replace hh := hh.2 c3
    refine lv_iload_n C.1 C.2.1 dX9_isDigit_6 rfl (lv_at hl 0 rfl) ?_
    refine lv_bipush (v := (57 : Int32)) C.1 C.2.1 dX9_isDigit_7 (by decide) ?_
    refine lv_icmp_gt (tgt := 16) C.1 C.2.1 dX9_isDigit_9 (by decide) (fun c9 => ?_) (fun c9 => ?_)
    · replace hh := hh.1 c9
      exact tX9_isDigit_b16 C hR hh hw (lv_sub hl [] rfl)
    · replace hh := hh.2 c9
      refine lv_iconst (v := (1 : Int32)) C.1 C.2.1 dX9_isDigit_12 (by decide) ?_
      refine lv_goto (tgt := 17) C.1 C.2.1 dX9_isDigit_13 (by decide) ?_
      exact tX9_isDigit_b17 C hR hh hw (lv_sub hl [] rfl)
theorem ctX9_isDigit (l : Launch) (D : va_G) (x0 : Int32) {K : Int32 → Unit → Prop} (hh : wpX9_isDigit x0 K) : Ci l yX9_isDigit wsX9_isDigit rmX9_isDigit [.int x0] D [] (fun _ : Unit => []) () K := by
  refine Ci_of (cc := cX9_isDigit) (maxL := 1) (by decide) rfl (Nat.le_of_ble_eq_true rfl) ?_
  intro p e s m below meth c A Q C hw hR ls hl
  exact tX9_isDigit_b0 C hR hh hw hl
theorem cdX9_isDigit : yX9_isDigit.cls ≠ "java/lang/invoke/MethodHandle" ∧ yX9_isDigit.cls ≠ "java/lang/invoke/VarHandle" ∧ (parseMethodDescriptor yX9_isDigit.desc).map (fun d => d.parameters.length) = some 1 := by decide +kernel
abbrev rmX9_packNumber : Room := { frames := 1, cells := 0, slots := 0, locals := 40 }
set_option maxHeartbeats 4000000 in
set_option maxRecDepth 100000 in
theorem tX9_packNumber_b63 {K : Int32 → cS → Prop} (C : CallFix p m c cX9_packNumber 2 s args wsX9_packNumber RX9) (hR : Rti .int p l e rmX9_packNumber s m args below meth c cX9_packNumber D A (cT cI cL cF cM) (cWu h cI cL cF cM) K Q) {F : Nat → Nat → Int32} {L : Nat → Nat → Int64} {r : Nat → Nat → Nat} {x1 : Int32} (hh : wpX9_packNumber_b63 F L r x1 K) {H : Heap} {locs : List Loc} {ls : Array Slot} (hw : Wd D A s (cT cI cL cF cM) (cW h cI cL cF cM F L r) H locs) (hl : lv_has ls 2 [(0, .ref (h 4)), (1, .int x1)]) : W p l e rmX9_packNumber s m args below meth c H locs 0 0 Q (F0 m 63 ls []) := by
  unfold wpX9_packNumber_b63 at hh
  refine lv_iload_n C.1 C.2.1 dX9_packNumber_63 rfl (lv_at hl 1 rfl) ?_
  exact hR _ _ _ (F, L, r) _ _ dX9_packNumber_64 rfl hh hw
set_option maxHeartbeats 4000000 in
set_option maxRecDepth 100000 in
theorem tX9_packNumber_b2_body {B2 : (Nat → Nat → Int32) → (Nat → Nat → Int64) → (Nat → Nat → Nat) → Int32 → Prop} {K : Int32 → cS → Prop} (C : CallFix p m c cX9_packNumber 2 s args wsX9_packNumber RX9) (hR : Rti .int p l e rmX9_packNumber s m args below meth c cX9_packNumber D A (cT cI cL cF cM) (cWu h cI cL cF cM) K Q) (hB2 : ∀ (F : Nat → Nat → Int32) (L : Nat → Nat → Int64) (r : Nat → Nat → Nat) (x1 : Int32) (H : Heap) (locs : List Loc) (ls : Array Slot), B2 F L r x1 → Wd D A s (cT cI cL cF cM) (cW h cI cL cF cM F L r) H locs → lv_has ls 2 [(0, .ref (h 4)), (1, .int x1)] → W p l e rmX9_packNumber s m args below meth c H locs 0 0 Q (F0 m 2 ls [])) {F : Nat → Nat → Int32} {L : Nat → Nat → Int64} {r : Nat → Nat → Nat} {x1 : Int32} (hh : wpX9_packNumber_b2_body B2 F L r x1 K) {H : Heap} {locs : List Loc} {ls : Array Slot} (hw : Wd D A s (cT cI cL cF cM) (cW h cI cL cF cM F L r) H locs) (hl : lv_has ls 2 [(0, .ref (h 4)), (1, .int x1)]) : W p l e rmX9_packNumber s m args below meth c H locs 0 0 Q (F0 m 2 ls []) := by
  unfold wpX9_packNumber_b2_body at hh
  refine lv_aload_n C.1 C.2.1 dX9_packNumber_2 rfl (lv_at hl 0 rfl) ?_
  refine c_get C hw (inC inW9) (kd_lt kp4 (by decide)) (ce9 kp4) rfl 15 (by decide) (wc w_180) (v := .int (F 4 15)) rfl dX9_packNumber_3 ?_
  refine lv_aload_n C.1 C.2.1 dX9_packNumber_6 rfl (lv_at hl 0 rfl) ?_
  refine c_get C hw (inC inW9) (kd_lt kp4 (by decide)) (ce9 kp4) rfl 14 (by decide) (wc w_179) (v := .int (F 4 14)) rfl dX9_packNumber_7 ?_
  refine lv_icmp_ge (tgt := 63) C.1 C.2.1 dX9_packNumber_10 (by decide) (fun c10 => ?_) (fun c10 => ?_)
  · replace hh := hh.1 c10
    exact tX9_packNumber_b63 C hR hh hw hl
  · replace hh := hh.2 c10
    refine lv_aload_n C.1 C.2.1 dX9_packNumber_13 rfl (lv_at hl 0 rfl) ?_
    refine lv_aload_n C.1 C.2.1 dX9_packNumber_14 rfl (lv_at hl 0 rfl) ?_
    refine c_get C hw (inC inW9) (kd_lt kp4 (by decide)) (ce9 kp4) rfl 15 (by decide) (wc w_180) (v := .int (F 4 15)) rfl dX9_packNumber_15 ?_
    refine c_Vi C hw (ctX9_byteAt l D h cI cL cF cM F L r (F 4 15) hh) (cwV 1 C.2.2.2.2 (gd_V w_645 w_647 w_2 w_115 w_648) rfl rfl rfl cdX9_byteAt ⟨Nat.le_of_ble_eq_true rfl, Nat.le_of_ble_eq_true rfl⟩) rfl (kd_lt kp4 (by decide)) (ce9 kp4) rfl hl.1 (Nat.le_of_ble_eq_true rfl) dX9_packNumber_18 ⟨Nat.zero_le _, Nat.zero_le _⟩ (fun r18 u18 H locs hh hw => ?_) rfl
    refine wd_Si C hw (ctX9_isDigit l D r18 hh) (va_cwS 1 C.2.2.2.2 (gd_S w_714 w_715 (ini_cls rfl w_115) w_716) rfl rfl rfl cdX9_isDigit ⟨Nat.le_of_ble_eq_true rfl, Nat.le_of_ble_eq_true rfl⟩) rfl hl.1 (Nat.le_of_ble_eq_true rfl) dX9_packNumber_21 ⟨Nat.zero_le _, Nat.zero_le _⟩ (fun r21 H locs hh hw => ?_) rfl
    refine lv_if_eq (tgt := 63) C.1 C.2.1 dX9_packNumber_24 (by decide) (fun c24 => ?_) (fun c24 => ?_)
    · replace hh := hh.1 c24
      exact tX9_packNumber_b63 C hR hh hw hl
    · replace hh := hh.2 c24
      refine lv_sipush (v := (1000 : Int32)) C.1 C.2.1 dX9_packNumber_27 (by decide) ?_
      refine lv_iload_n C.1 C.2.1 dX9_packNumber_30 rfl (lv_at hl 1 rfl) ?_
      refine lv_bipush (v := (10 : Int32)) C.1 C.2.1 dX9_packNumber_31 (by decide) ?_
      refine lv_imul C.1 C.2.1 dX9_packNumber_33 ?_
      refine lv_aload_n C.1 C.2.1 dX9_packNumber_34 rfl (lv_at hl 0 rfl) ?_
      refine lv_aload_n C.1 C.2.1 dX9_packNumber_35 rfl (lv_at hl 0 rfl) ?_
      refine c_get C hw (inC inW9) (kd_lt kp4 (by decide)) (ce9 kp4) rfl 15 (by decide) (wc w_180) (v := .int (u18.1 4 15)) rfl dX9_packNumber_36 ?_
      refine c_Vi C hw (ctX9_byteAt l D h cI cL cF cM u18.1 u18.2.1 u18.2.2 (u18.1 4 15) hh) (cwV 1 C.2.2.2.2 (gd_V w_645 w_647 w_2 w_115 w_648) rfl rfl rfl cdX9_byteAt ⟨Nat.le_of_ble_eq_true rfl, Nat.le_of_ble_eq_true rfl⟩) rfl (kd_lt kp4 (by decide)) (ce9 kp4) rfl hl.1 (Nat.le_of_ble_eq_true rfl) dX9_packNumber_39 ⟨Nat.zero_le _, Nat.zero_le _⟩ (fun r39 u39 H locs hh hw => ?_) rfl
      refine lv_iadd C.1 C.2.1 dX9_packNumber_42 ?_
      refine lv_bipush (v := (48 : Int32)) C.1 C.2.1 dX9_packNumber_43 (by decide) ?_
      refine lv_isub C.1 C.2.1 dX9_packNumber_45 ?_
      refine c_min C (wc w_721) (wc w_722) (wc w_130) (wc w_723) hl.1 (Nat.le_of_ble_eq_true rfl) (Nat.le_of_ble_eq_true rfl) ⟨Nat.zero_le _, Nat.zero_le _⟩ dX9_packNumber_46 ?_
      refine lv_topi (fun y49 ey49 => ?_)
      replace hh := hh y49 ey49
      refine lv_istore_n (lv' := [(1, .int y49), (0, .ref (h 4))]) C.1 C.2.1 dX9_packNumber_49 rfl hl (by decide) rfl (fun ls hl => ?_)
      refine lv_aload_n C.1 C.2.1 dX9_packNumber_50 rfl (lv_at hl 1 rfl) ?_
      refine lv_dup C.1 C.2.1 dX9_packNumber_51 rfl ?_
      refine c_get C hw (inC inW9) (kd_lt kp4 (by decide)) (ce9 kp4) rfl 15 (by decide) (wc w_180) (v := .int (u39.1 4 15)) rfl dX9_packNumber_52 ?_
      refine lv_iconst (v := (1 : Int32)) C.1 C.2.1 dX9_packNumber_55 (by decide) ?_
      refine lv_iadd C.1 C.2.1 dX9_packNumber_56 ?_
      refine c_puti C hw (inC inW9) tyX9 tyX9_ok nmX9 (kd_lt kp4 (by decide)) (ce9 kp4) rfl 15 (by decide) (wc w_180) rfl (ty := .int) (by decide +kernel) rfl rfl (Nat.le_of_ble_eq_true rfl) rfl dX9_packNumber_57 (fun H locs hw => ?_)
      refine lv_goto (tgt := 2) C.1 C.2.1 dX9_packNumber_60 (by decide) ?_
      exact hB2 _ _ _ _ _ _ _ hh hw (lv_sub hl [1, 0] rfl)
theorem tX9_packNumber_b2 {K : Int32 → cS → Prop} (C : CallFix p m c cX9_packNumber 2 s args wsX9_packNumber RX9) (hR : Rti .int p l e rmX9_packNumber s m args below meth c cX9_packNumber D A (cT cI cL cF cM) (cWu h cI cL cF cM) K Q) (n : Nat) : ∀ (F : Nat → Nat → Int32) (L : Nat → Nat → Int64) (r : Nat → Nat → Nat) (x1 : Int32) (H : Heap) (locs : List Loc) (ls : Array Slot), wpX9_packNumber_b2 n F L r x1 K → Wd D A s (cT cI cL cF cM) (cW h cI cL cF cM F L r) H locs → lv_has ls 2 [(0, .ref (h 4)), (1, .int x1)] → W p l e rmX9_packNumber s m args below meth c H locs 0 0 Q (F0 m 2 ls []) := by
  induction n with
  | zero => intro F L r x1 H locs ls hh; exact hh.elim
  | succ n ih => intro F L r x1 H locs ls hh hw hl; exact tX9_packNumber_b2_body C hR ih hh hw hl
set_option maxHeartbeats 4000000 in
set_option maxRecDepth 100000 in
theorem tX9_packNumber_b0 {K : Int32 → cS → Prop} (C : CallFix p m c cX9_packNumber 2 s args wsX9_packNumber RX9) (hR : Rti .int p l e rmX9_packNumber s m args below meth c cX9_packNumber D A (cT cI cL cF cM) (cWu h cI cL cF cM) K Q) {F : Nat → Nat → Int32} {L : Nat → Nat → Int64} {r : Nat → Nat → Nat} (hh : wpX9_packNumber_b0 F L r K) {H : Heap} {locs : List Loc} {ls : Array Slot} (hw : Wd D A s (cT cI cL cF cM) (cW h cI cL cF cM F L r) H locs) (hl : lv_has ls 2 [(0, .ref (h 4))]) : W p l e rmX9_packNumber s m args below meth c H locs 0 0 Q (F0 m 0 ls []) := by
  unfold wpX9_packNumber_b0 at hh
  refine lv_iconst (v := (0 : Int32)) C.1 C.2.1 dX9_packNumber_0 (by decide) ?_
  refine lv_istore_n (lv' := [(1, .int (0 : Int32)), (0, .ref (h 4))]) C.1 C.2.1 dX9_packNumber_1 rfl hl (by decide) rfl (fun ls hl => ?_)
  obtain ⟨n, hh⟩ := hh
  exact tX9_packNumber_b2 C hR n _ _ _ _ _ _ _ hh hw (lv_sub hl [1, 0] rfl)
theorem ctX9_packNumber (l : Launch) (D : va_G) (h : Nat → Nat) (cI cL cF cM : ClassId) (F : Nat → Nat → Int32) (L : Nat → Nat → Int64) (r : Nat → Nat → Nat) {K : Int32 → cS → Prop} (hh : wpX9_packNumber F L r K) : Ci l yX9_packNumber wsX9_packNumber rmX9_packNumber [.ref (h 4)] D (cT cI cL cF cM) (cWu h cI cL cF cM) (F, L, r) K := by
  refine Ci_of (cc := cX9_packNumber) (maxL := 2) (by decide) rfl (Nat.le_of_ble_eq_true rfl) ?_
  intro p e s m below meth c A Q C hw hR ls hl
  exact tX9_packNumber_b0 C hR hh hw hl
theorem cdX9_packNumber : yX9_packNumber.cls = RX9 ∧ yX9_packNumber.cls ≠ "java/lang/invoke/MethodHandle" ∧ yX9_packNumber.cls ≠ "java/lang/invoke/VarHandle" ∧ (parseMethodDescriptor yX9_packNumber.desc).map (fun d => d.parameters.length) = some 0 := by decide +kernel
abbrev rmX9_isBlank : Room := { frames := 0, cells := 0, slots := 0, locals := 0 }
set_option maxHeartbeats 4000000 in
set_option maxRecDepth 100000 in
theorem tX9_isBlank_b17 {K : Int32 → Unit → Prop} (C : CallFix p m c cX9_isBlank 1 s args wsX9_isBlank RX9) (hR : Rti .boolean p l e rmX9_isBlank s m args below meth c cX9_isBlank D A [] (fun _ : Unit => []) K Q) {k0 : Int32} (hh : wpX9_isBlank_b17 k0 K) {H : Heap} {locs : List Loc} {ls : Array Slot} (hw : Wd D A s [] [] H locs) (hl : lv_has ls 1 []) : W p l e rmX9_isBlank s m args below meth c H locs 0 0 Q (F0 m 17 ls [.int k0]) := by
  unfold wpX9_isBlank_b17 at hh
  obtain ⟨hb17, hh⟩ := hh
  exact hR _ _ _ () _ _ dX9_isBlank_17 (isB_nar hb17) hh hw
set_option maxHeartbeats 4000000 in
set_option maxRecDepth 100000 in
theorem tX9_isBlank_b12 {K : Int32 → Unit → Prop} (C : CallFix p m c cX9_isBlank 1 s args wsX9_isBlank RX9) (hR : Rti .boolean p l e rmX9_isBlank s m args below meth c cX9_isBlank D A [] (fun _ : Unit => []) K Q) (hh : wpX9_isBlank_b12  K) {H : Heap} {locs : List Loc} {ls : Array Slot} (hw : Wd D A s [] [] H locs) (hl : lv_has ls 1 []) : W p l e rmX9_isBlank s m args below meth c H locs 0 0 Q (F0 m 12 ls []) := by
  unfold wpX9_isBlank_b12 at hh
  refine lv_iconst (v := (1 : Int32)) C.1 C.2.1 dX9_isBlank_12 (by decide) ?_
  refine lv_goto (tgt := 17) C.1 C.2.1 dX9_isBlank_13 (by decide) ?_
  exact tX9_isBlank_b17 C hR hh hw hl
set_option maxHeartbeats 4000000 in
set_option maxRecDepth 100000 in
theorem tX9_isBlank_b0 {K : Int32 → Unit → Prop} (C : CallFix p m c cX9_isBlank 1 s args wsX9_isBlank RX9) (hR : Rti .boolean p l e rmX9_isBlank s m args below meth c cX9_isBlank D A [] (fun _ : Unit => []) K Q) {x0 : Int32} (hh : wpX9_isBlank_b0 x0 K) {H : Heap} {locs : List Loc} {ls : Array Slot} (hw : Wd D A s [] [] H locs) (hl : lv_has ls 1 [(0, .int x0)]) : W p l e rmX9_isBlank s m args below meth c H locs 0 0 Q (F0 m 0 ls []) := by
  unfold wpX9_isBlank_b0 at hh
  refine lv_iload_n C.1 C.2.1 dX9_isBlank_0 rfl (lv_at hl 0 rfl) ?_
  refine lv_bipush (v := (10 : Int32)) C.1 C.2.1 dX9_isBlank_1 (by decide) ?_
  refine lv_icmp_eq (tgt := 12) C.1 C.2.1 dX9_isBlank_3 (by decide) (fun c3 => ?_) (fun c3 => ?_)
  · replace hh := hh.1 c3
    exact tX9_isBlank_b12 C hR hh hw (lv_sub hl [] rfl)
  · replace hh := hh.2 c3
    refine lv_iload_n C.1 C.2.1 dX9_isBlank_6 rfl (lv_at hl 0 rfl) ?_
    refine lv_bipush (v := (32 : Int32)) C.1 C.2.1 dX9_isBlank_7 (by decide) ?_
    refine lv_icmp_ne (tgt := 16) C.1 C.2.1 dX9_isBlank_9 (by decide) (fun c9 => ?_) (fun c9 => ?_)
    · replace hh := hh.1 c9
      refine lv_iconst (v := (0 : Int32)) C.1 C.2.1 dX9_isBlank_16 (by decide) ?_
      exact tX9_isBlank_b17 C hR hh hw (lv_sub hl [] rfl)
    · replace hh := hh.2 c9
      exact tX9_isBlank_b12 C hR hh hw (lv_sub hl [] rfl)
theorem ctX9_isBlank (l : Launch) (D : va_G) (x0 : Int32) {K : Int32 → Unit → Prop} (hh : wpX9_isBlank x0 K) : Ci l yX9_isBlank wsX9_isBlank rmX9_isBlank [.int x0] D [] (fun _ : Unit => []) () K := by
  refine Ci_of (cc := cX9_isBlank) (maxL := 1) (by decide) rfl (Nat.le_of_ble_eq_true rfl) ?_
  intro p e s m below meth c A Q C hw hR ls hl
  exact tX9_isBlank_b0 C hR hh hw hl
theorem cdX9_isBlank : yX9_isBlank.cls ≠ "java/lang/invoke/MethodHandle" ∧ yX9_isBlank.cls ≠ "java/lang/invoke/VarHandle" ∧ (parseMethodDescriptor yX9_isBlank.desc).map (fun d => d.parameters.length) = some 1 := by decide +kernel
abbrev rmX9_findToken : Room := { frames := 5, cells := 0, slots := 0, locals := 110 }
set_option maxHeartbeats 4000000 in
set_option maxRecDepth 100000 in
theorem tX9_findToken_b90 {z1 : Nat} {K : cS → Prop} (C : CallFix p m c cX9_findToken 5 s args wsX9_findToken RX9) (hR : Rtv p l e rmX9_findToken s m args below meth c cX9_findToken D A (cT cI cL cF cM) (cWu h cI cL cF cM) K Q) (hz1 : z1 < 2) {F : Nat → Nat → Int32} {L : Nat → Nat → Int64} {r : Nat → Nat → Nat} (hh : wpX9_findToken_b90 z1 F L r K) {H : Heap} {locs : List Loc} {ls : Array Slot} (hw : Wd D A s (cT cI cL cF cM) (cW h cI cL cF cM F L r) H locs) (hl : lv_has ls 5 [(0, .ref (h 4))]) : W p l e rmX9_findToken s m args below meth c H locs 0 0 Q (F0 m 90 ls []) := by
  unfold wpX9_findToken_b90 at hh
  exact hR _ _ (F, L, r) _ _ dX9_findToken_90 hh hw
set_option maxHeartbeats 4000000 in
set_option maxRecDepth 100000 in
theorem tX9_findToken_b0 {z1 : Nat} {K : cS → Prop} (C : CallFix p m c cX9_findToken 5 s args wsX9_findToken RX9) (hR : Rtv p l e rmX9_findToken s m args below meth c cX9_findToken D A (cT cI cL cF cM) (cWu h cI cL cF cM) K Q) (hz1 : z1 < 2) {F : Nat → Nat → Int32} {L : Nat → Nat → Int64} {r : Nat → Nat → Nat} (hh : wpX9_findToken_b0 z1 F L r K) {H : Heap} {locs : List Loc} {ls : Array Slot} (hw : Wd D A s (cT cI cL cF cM) (cW h cI cL cF cM F L r) H locs) (hl : lv_has ls 5 [(0, .ref (h 4)), (1, .ref (D.2 1000 z1))]) : W p l e rmX9_findToken s m args below meth c H locs 0 0 Q (F0 m 0 ls []) := by
  unfold wpX9_findToken_b0 at hh
  refine lv_aload_n C.1 C.2.1 dX9_findToken_0 rfl (lv_at hl 0 rfl) ?_
  refine lv_aload_n C.1 C.2.1 dX9_findToken_1 rfl (lv_at hl 0 rfl) ?_
  refine c_get C hw (inC inW9) (kd_lt kp4 (by decide)) (ce9 kp4) rfl 15 (by decide) (wc w_180) (v := .int (F 4 15)) rfl dX9_findToken_2 ?_
  refine c_Vi C hw (ctX9_byteAt l D h cI cL cF cM F L r (F 4 15) hh) (cwV 1 C.2.2.2.2 (gd_V w_645 w_647 w_2 w_115 w_648) rfl rfl rfl cdX9_byteAt ⟨Nat.le_of_ble_eq_true rfl, Nat.le_of_ble_eq_true rfl⟩) rfl (kd_lt kp4 (by decide)) (ce9 kp4) rfl hl.1 (Nat.le_of_ble_eq_true rfl) dX9_findToken_5 ⟨Nat.zero_le _, Nat.zero_le _⟩ (fun r5 u5 H locs hh hw => ?_) rfl
  refine lv_istore_n (lv' := [(2, .int r5), (0, .ref (h 4)), (1, .ref (D.2 1000 z1))]) C.1 C.2.1 dX9_findToken_8 rfl hl (by decide) rfl (fun ls hl => ?_)
  refine lv_aload_n C.1 C.2.1 dX9_findToken_9 rfl (lv_at hl 1 rfl) ?_
  refine c_get C hw (inC inW9) (kd_lt kp4 (by decide)) (ce9 kp4) rfl 15 (by decide) (wc w_180) (v := .int (u5.1 4 15)) rfl dX9_findToken_10 ?_
  refine lv_istore_n (lv' := [(3, .int (u5.1 4 15)), (2, .int r5), (0, .ref (h 4)), (1, .ref (D.2 1000 z1))]) C.1 C.2.1 dX9_findToken_13 rfl hl (by decide) rfl (fun ls hl => ?_)
  refine lv_iload_n C.1 C.2.1 dX9_findToken_14 rfl (lv_at hl 1 rfl) ?_
  refine wd_Si C hw (ctX9_isLetter l D r5 hh) (va_cwS 1 C.2.2.2.2 (gd_S w_649 w_650 (ini_cls rfl w_115) w_651) rfl rfl rfl cdX9_isLetter ⟨Nat.le_of_ble_eq_true rfl, Nat.le_of_ble_eq_true rfl⟩) rfl hl.1 (Nat.le_of_ble_eq_true rfl) dX9_findToken_15 ⟨Nat.zero_le _, Nat.zero_le _⟩ (fun r15 H locs hh hw => ?_) rfl
  refine lv_if_eq (tgt := 44) C.1 C.2.1 dX9_findToken_18 (by decide) (fun c18 => ?_) (fun c18 => ?_)
  · replace hh := hh.1 c18
    refine lv_iload_n C.1 C.2.1 dX9_findToken_44 rfl (lv_at hl 1 rfl) ?_
    refine wd_Si C hw (ctX9_isDigit l D r5 hh) (va_cwS 1 C.2.2.2.2 (gd_S w_714 w_715 (ini_cls rfl w_115) w_716) rfl rfl rfl cdX9_isDigit ⟨Nat.le_of_ble_eq_true rfl, Nat.le_of_ble_eq_true rfl⟩) rfl hl.1 (Nat.le_of_ble_eq_true rfl) dX9_findToken_45 ⟨Nat.zero_le _, Nat.zero_le _⟩ (fun r45 H locs hh hw => ?_) rfl
    refine lv_if_eq (tgt := 65) C.1 C.2.1 dX9_findToken_48 (by decide) (fun c48 => ?_) (fun c48 => ?_)
    · replace hh := hh.1 c48
      refine lv_aload_n C.1 C.2.1 dX9_findToken_65 rfl (lv_at hl 2 rfl) ?_
      refine lv_dup C.1 C.2.1 dX9_findToken_66 rfl ?_
      refine c_get C hw (inC inW9) (kd_lt kp4 (by decide)) (ce9 kp4) rfl 15 (by decide) (wc w_180) (v := .int (u5.1 4 15)) rfl dX9_findToken_67 ?_
      refine lv_iconst (v := (1 : Int32)) C.1 C.2.1 dX9_findToken_70 (by decide) ?_
      refine lv_iadd C.1 C.2.1 dX9_findToken_71 ?_
      refine c_puti C hw (inC inW9) tyX9 tyX9_ok nmX9 (kd_lt kp4 (by decide)) (ce9 kp4) rfl 15 (by decide) (wc w_180) rfl (ty := .int) (by decide +kernel) rfl rfl (Nat.le_of_ble_eq_true rfl) rfl dX9_findToken_72 (fun H locs hw => ?_)
      refine lv_iload_n C.1 C.2.1 dX9_findToken_75 rfl (lv_at hl 1 rfl) ?_
      refine wd_Si C hw (ctX9_isBlank l D r5 hh) (va_cwS 1 C.2.2.2.2 (gd_S w_724 w_725 (ini_cls rfl w_115) w_726) rfl rfl rfl cdX9_isBlank ⟨Nat.le_of_ble_eq_true rfl, Nat.le_of_ble_eq_true rfl⟩) rfl hl.1 (Nat.le_of_ble_eq_true rfl) dX9_findToken_76 ⟨Nat.zero_le _, Nat.zero_le _⟩ (fun r76 H locs hh hw => ?_) rfl
      refine lv_if_ne (tgt := 90) C.1 C.2.1 dX9_findToken_79 (by decide) (fun c79 => ?_) (fun c79 => ?_)
      · replace hh := hh.1 c79
        exact tX9_findToken_b90 C hR hz1 hh hw (lv_sub hl [2] rfl)
      · replace hh := hh.2 c79
        refine lv_aload_n C.1 C.2.1 dX9_findToken_82 rfl (lv_at hl 2 rfl) ?_
        refine lv_iconst (v := (3 : Int32)) C.1 C.2.1 dX9_findToken_83 (by decide) ?_
        refine lv_iload_n C.1 C.2.1 dX9_findToken_84 rfl (lv_at hl 0 rfl) ?_
        refine lv_iload_n C.1 C.2.1 dX9_findToken_85 rfl (lv_at hl 1 rfl) ?_
        refine lv_iconst (v := (-1 : Int32)) C.1 C.2.1 dX9_findToken_86 (by decide) ?_
        refine c_Vv C hw (ctX9_addToken l D h cI cL cF cM (pt u5.1 4 15 ((u5.1 4 15) + (1 : Int32))) u5.2.1 u5.2.2 (3 : Int32) (u5.1 4 15) r5 (-1 : Int32) hh) (cwV 4 C.2.2.2.2 (gd_V w_710 w_712 w_4 w_115 w_713) rfl rfl rfl cdX9_addToken ⟨Nat.le_of_ble_eq_true rfl, Nat.le_of_ble_eq_true rfl⟩) rfl (kd_lt kp4 (by decide)) (ce9 kp4) rfl hl.1 (Nat.le_of_ble_eq_true rfl) dX9_findToken_87 ⟨Nat.zero_le _, Nat.zero_le _⟩ (fun u87 H locs hh hw => ?_) rfl
        exact tX9_findToken_b90 C hR hz1 hh hw (lv_sub hl [2] rfl)
    · replace hh := hh.2 c48
      refine lv_aload_n C.1 C.2.1 dX9_findToken_51 rfl (lv_at hl 2 rfl) ?_
      refine lv_iconst (v := (2 : Int32)) C.1 C.2.1 dX9_findToken_52 (by decide) ?_
      refine lv_iload_n C.1 C.2.1 dX9_findToken_53 rfl (lv_at hl 0 rfl) ?_
      refine lv_aload_n C.1 C.2.1 dX9_findToken_54 rfl (lv_at hl 2 rfl) ?_
      refine c_Vi C hw (ctX9_packNumber l D h cI cL cF cM u5.1 u5.2.1 u5.2.2 hh) (cwV 0 C.2.2.2.2 (gd_V w_717 w_719 w_5 w_115 w_720) rfl rfl rfl cdX9_packNumber ⟨Nat.le_of_ble_eq_true rfl, Nat.le_of_ble_eq_true rfl⟩) rfl (kd_lt kp4 (by decide)) (ce9 kp4) rfl hl.1 (Nat.le_of_ble_eq_true rfl) dX9_findToken_55 ⟨Nat.zero_le _, Nat.zero_le _⟩ (fun r55 u55 H locs hh hw => ?_) rfl
      refine lv_iconst (v := (-1 : Int32)) C.1 C.2.1 dX9_findToken_58 (by decide) ?_
      refine c_Vv C hw (ctX9_addToken l D h cI cL cF cM u55.1 u55.2.1 u55.2.2 (2 : Int32) (u5.1 4 15) r55 (-1 : Int32) hh) (cwV 4 C.2.2.2.2 (gd_V w_710 w_712 w_4 w_115 w_713) rfl rfl rfl cdX9_addToken ⟨Nat.le_of_ble_eq_true rfl, Nat.le_of_ble_eq_true rfl⟩) rfl (kd_lt kp4 (by decide)) (ce9 kp4) rfl hl.1 (Nat.le_of_ble_eq_true rfl) dX9_findToken_59 ⟨Nat.zero_le _, Nat.zero_le _⟩ (fun u59 H locs hh hw => ?_) rfl
      refine lv_goto (tgt := 90) C.1 C.2.1 dX9_findToken_62 (by decide) ?_
      exact tX9_findToken_b90 C hR hz1 hh hw (lv_sub hl [2] rfl)
  · replace hh := hh.2 c18
    refine lv_aload_n C.1 C.2.1 dX9_findToken_21 rfl (lv_at hl 2 rfl) ?_
    refine c_Vi C hw (ctX9_packWord l D h cI cL cF cM u5.1 u5.2.1 u5.2.2 hh) (cwV 0 C.2.2.2.2 (gd_V w_652 w_654 w_3 w_115 w_655) rfl rfl rfl cdX9_packWord ⟨Nat.le_of_ble_eq_true rfl, Nat.le_of_ble_eq_true rfl⟩) rfl (kd_lt kp4 (by decide)) (ce9 kp4) rfl hl.1 (Nat.le_of_ble_eq_true rfl) dX9_findToken_22 ⟨Nat.zero_le _, Nat.zero_le _⟩ (fun r22 u22 H locs hh hw => ?_) rfl
    refine lv_istore (lv' := [(4, .int r22), (3, .int (u5.1 4 15)), (2, .int r5), (0, .ref (h 4)), (1, .ref (D.2 1000 z1))]) C.1 C.2.1 dX9_findToken_25 hl (by decide) rfl (fun ls hl => ?_)
    refine lv_aload_n C.1 C.2.1 dX9_findToken_27 rfl (lv_at hl 3 rfl) ?_
    refine lv_iconst (v := (1 : Int32)) C.1 C.2.1 dX9_findToken_28 (by decide) ?_
    refine lv_iload_n C.1 C.2.1 dX9_findToken_29 rfl (lv_at hl 1 rfl) ?_
    refine lv_iload C.1 C.2.1 dX9_findToken_30 (lv_at hl 0 rfl) ?_
    refine lv_iload C.1 C.2.1 dX9_findToken_32 (lv_at hl 0 rfl) ?_
    refine lv_aload_n C.1 C.2.1 dX9_findToken_34 rfl (lv_at hl 4 rfl) ?_
    refine wd_Si C hw (ctX9_indexOfWord l D z1 hz1 r22 hh) (va_cwS 2 C.2.2.2.2 (gd_S w_659 w_660 (ini_cls rfl w_115) w_661) rfl rfl rfl cdX9_indexOfWord ⟨Nat.le_of_ble_eq_true rfl, Nat.le_of_ble_eq_true rfl⟩) rfl hl.1 (Nat.le_of_ble_eq_true rfl) dX9_findToken_35 ⟨Nat.zero_le _, Nat.zero_le _⟩ (fun r35 H locs hh hw => ?_) rfl
    refine c_Vv C hw (ctX9_addToken l D h cI cL cF cM u22.1 u22.2.1 u22.2.2 (1 : Int32) (u5.1 4 15) r22 r35 hh) (cwV 4 C.2.2.2.2 (gd_V w_710 w_712 w_4 w_115 w_713) rfl rfl rfl cdX9_addToken ⟨Nat.le_of_ble_eq_true rfl, Nat.le_of_ble_eq_true rfl⟩) rfl (kd_lt kp4 (by decide)) (ce9 kp4) rfl hl.1 (Nat.le_of_ble_eq_true rfl) dX9_findToken_38 ⟨Nat.zero_le _, Nat.zero_le _⟩ (fun u38 H locs hh hw => ?_) rfl
    refine lv_goto (tgt := 90) C.1 C.2.1 dX9_findToken_41 (by decide) ?_
    exact tX9_findToken_b90 C hR hz1 hh hw (lv_sub hl [3] rfl)
theorem ctX9_findToken (l : Launch) (D : va_G) (h : Nat → Nat) (cI cL cF cM : ClassId) (z1 : Nat) (hz1 : z1 < 2) (F : Nat → Nat → Int32) (L : Nat → Nat → Int64) (r : Nat → Nat → Nat) {K : cS → Prop} (hh : wpX9_findToken z1 F L r K) : Cv l yX9_findToken wsX9_findToken rmX9_findToken [.ref (h 4), .ref (D.2 1000 z1)] D (cT cI cL cF cM) (cWu h cI cL cF cM) (F, L, r) K := by
  refine Cv_of (cc := cX9_findToken) (maxL := 5) (by decide) rfl (Nat.le_of_ble_eq_true rfl) ?_
  intro p e s m below meth c A Q C hw hR ls hl
  exact tX9_findToken_b0 C hR hz1 hh hw hl
theorem cdX9_findToken : yX9_findToken.cls = RX9 ∧ yX9_findToken.cls ≠ "java/lang/invoke/MethodHandle" ∧ yX9_findToken.cls ≠ "java/lang/invoke/VarHandle" ∧ (parseMethodDescriptor yX9_findToken.desc).map (fun d => d.parameters.length) = some 1 := by decide +kernel
abbrev rmX9_advance : Room := { frames := 0, cells := 0, slots := 0, locals := 0 }
set_option maxHeartbeats 4000000 in
set_option maxRecDepth 100000 in
theorem tX9_advance_b106 {K : cS → Prop} (C : CallFix p m c cX9_advance 1 s args wsX9_advance RX9) (hR : Rtv p l e rmX9_advance s m args below meth c cX9_advance D A (cT cI cL cF cM) (cWu h cI cL cF cM) K Q) {F : Nat → Nat → Int32} {L : Nat → Nat → Int64} {r : Nat → Nat → Nat} (hh : wpX9_advance_b106 F L r K) {H : Heap} {locs : List Loc} {ls : Array Slot} (hw : Wd D A s (cT cI cL cF cM) (cW h cI cL cF cM F L r) H locs) (hl : lv_has ls 1 [(0, .ref (h 4))]) : W p l e rmX9_advance s m args below meth c H locs 0 0 Q (F0 m 106 ls []) := by
  unfold wpX9_advance_b106 at hh
  exact hR _ _ (F, L, r) _ _ dX9_advance_106 hh hw
set_option maxHeartbeats 4000000 in
set_option maxRecDepth 100000 in
theorem tX9_advance_b83 {K : cS → Prop} (C : CallFix p m c cX9_advance 1 s args wsX9_advance RX9) (hR : Rtv p l e rmX9_advance s m args below meth c cX9_advance D A (cT cI cL cF cM) (cWu h cI cL cF cM) K Q) {F : Nat → Nat → Int32} {L : Nat → Nat → Int64} {r : Nat → Nat → Nat} (hh : wpX9_advance_b83 F L r K) {H : Heap} {locs : List Loc} {ls : Array Slot} (hw : Wd D A s (cT cI cL cF cM) (cW h cI cL cF cM F L r) H locs) (hl : lv_has ls 1 [(0, .ref (h 4))]) : W p l e rmX9_advance s m args below meth c H locs 0 0 Q (F0 m 83 ls []) := by
  unfold wpX9_advance_b83 at hh
  refine lv_aload_n C.1 C.2.1 dX9_advance_83 rfl (lv_at hl 0 rfl) ?_
  refine lv_iconst (v := (0 : Int32)) C.1 C.2.1 dX9_advance_84 (by decide) ?_
  refine c_puti C hw (inC inW9) tyX9 tyX9_ok nmX9 (kd_lt kp4 (by decide)) (ce9 kp4) rfl 3 (by decide) (wc w_162) rfl (ty := .int) (by decide +kernel) rfl rfl (Nat.le_of_ble_eq_true rfl) rfl dX9_advance_85 (fun H locs hw => ?_)
  refine lv_aload_n C.1 C.2.1 dX9_advance_88 rfl (lv_at hl 0 rfl) ?_
  refine lv_aload_n C.1 C.2.1 dX9_advance_89 rfl (lv_at hl 0 rfl) ?_
  refine c_get C hw (inC inW9) (kd_lt kp4 (by decide)) (ce9 kp4) rfl 14 (by decide) (wc w_179) (v := .int ((pt F 4 3 (0 : Int32)) 4 14)) rfl dX9_advance_90 ?_
  refine c_puti C hw (inC inW9) tyX9 tyX9_ok nmX9 (kd_lt kp4 (by decide)) (ce9 kp4) rfl 4 (by decide) (wc w_165) rfl (ty := .int) (by decide +kernel) rfl rfl (Nat.le_of_ble_eq_true rfl) rfl dX9_advance_93 (fun H locs hw => ?_)
  refine lv_aload_n C.1 C.2.1 dX9_advance_96 rfl (lv_at hl 0 rfl) ?_
  refine lv_iconst (v := (0 : Int32)) C.1 C.2.1 dX9_advance_97 (by decide) ?_
  refine c_puti C hw (inC inW9) tyX9 tyX9_ok nmX9 (kd_lt kp4 (by decide)) (ce9 kp4) rfl 5 (by decide) (wc w_166) rfl (ty := .int) (by decide +kernel) rfl rfl (Nat.le_of_ble_eq_true rfl) rfl dX9_advance_98 (fun H locs hw => ?_)
  refine lv_aload_n C.1 C.2.1 dX9_advance_101 rfl (lv_at hl 0 rfl) ?_
  refine lv_iconst (v := (-1 : Int32)) C.1 C.2.1 dX9_advance_102 (by decide) ?_
  refine c_puti C hw (inC inW9) tyX9 tyX9_ok nmX9 (kd_lt kp4 (by decide)) (ce9 kp4) rfl 6 (by decide) (wc w_169) rfl (ty := .int) (by decide +kernel) rfl rfl (Nat.le_of_ble_eq_true rfl) rfl dX9_advance_103 (fun H locs hw => ?_)
  exact tX9_advance_b106 C hR hh hw hl
set_option maxHeartbeats 4000000 in
set_option maxRecDepth 100000 in
theorem tX9_advance_b0 {K : cS → Prop} (C : CallFix p m c cX9_advance 1 s args wsX9_advance RX9) (hR : Rtv p l e rmX9_advance s m args below meth c cX9_advance D A (cT cI cL cF cM) (cWu h cI cL cF cM) K Q) {F : Nat → Nat → Int32} {L : Nat → Nat → Int64} {r : Nat → Nat → Nat} (hh : wpX9_advance_b0 F L r K) {H : Heap} {locs : List Loc} {ls : Array Slot} (hw : Wd D A s (cT cI cL cF cM) (cW h cI cL cF cM F L r) H locs) (hl : lv_has ls 1 [(0, .ref (h 4))]) : W p l e rmX9_advance s m args below meth c H locs 0 0 Q (F0 m 0 ls []) := by
  unfold wpX9_advance_b0 at hh
  refine lv_aload_n C.1 C.2.1 dX9_advance_0 rfl (lv_at hl 0 rfl) ?_
  refine c_get C hw (inC inW9) (kd_lt kp4 (by decide)) (ce9 kp4) rfl 13 (by decide) (wc w_178) (v := .int (F 4 13)) rfl dX9_advance_1 ?_
  refine lv_if_lt (tgt := 83) C.1 C.2.1 dX9_advance_4 (by decide) (fun c4 => ?_) (fun c4 => ?_)
  · replace hh := hh.1 c4
    exact tX9_advance_b83 C hR hh hw hl
  · replace hh := hh.2 c4
    refine lv_aload_n C.1 C.2.1 dX9_advance_7 rfl (lv_at hl 0 rfl) ?_
    refine c_get C hw (inC inW9) (kd_lt kp4 (by decide)) (ce9 kp4) rfl 13 (by decide) (wc w_178) (v := .int (F 4 13)) rfl dX9_advance_8 ?_
    refine lv_aload_n C.1 C.2.1 dX9_advance_11 rfl (lv_at hl 0 rfl) ?_
    refine c_get C hw (inC inW9) (kd_lt kp4 (by decide)) (ce9 kp4) rfl 12 (by decide) (wc w_177) (v := .int (F 4 12)) rfl dX9_advance_12 ?_
    refine lv_icmp_ge (tgt := 83) C.1 C.2.1 dX9_advance_15 (by decide) (fun c15 => ?_) (fun c15 => ?_)
    · replace hh := hh.1 c15
      exact tX9_advance_b83 C hR hh hw hl
    · replace hh := hh.2 c15
      refine lv_aload_n C.1 C.2.1 dX9_advance_18 rfl (lv_at hl 0 rfl) ?_
      refine lv_aload_n C.1 C.2.1 dX9_advance_19 rfl (lv_at hl 0 rfl) ?_
      refine c_get C hw (inC inW9) (kd_lt kp4 (by decide)) (ce9 kp4) rfl 8 (by decide) (wc w_173) (v := .ref (h 6)) rfl dX9_advance_20 ?_
      refine lv_aload_n C.1 C.2.1 dX9_advance_23 rfl (lv_at hl 0 rfl) ?_
      refine c_get C hw (inC inW9) (kd_lt kp4 (by decide)) (ce9 kp4) rfl 13 (by decide) (wc w_178) (v := .int (F 4 13)) rfl dX9_advance_24 ?_
      obtain ⟨hi27, hh⟩ := hh
      refine c_ial C hw (kd_lt kp6 (by decide)) (ce14 kp6) hi27 dX9_advance_27 ?_
      refine c_puti C hw (inC inW9) tyX9 tyX9_ok nmX9 (kd_lt kp4 (by decide)) (ce9 kp4) rfl 3 (by decide) (wc w_162) rfl (ty := .int) (by decide +kernel) rfl rfl (Nat.le_of_ble_eq_true rfl) rfl dX9_advance_28 (fun H locs hw => ?_)
      refine lv_aload_n C.1 C.2.1 dX9_advance_31 rfl (lv_at hl 0 rfl) ?_
      refine lv_aload_n C.1 C.2.1 dX9_advance_32 rfl (lv_at hl 0 rfl) ?_
      refine c_get C hw (inC inW9) (kd_lt kp4 (by decide)) (ce9 kp4) rfl 9 (by decide) (wc w_174) (v := .ref (h 7)) rfl dX9_advance_33 ?_
      refine lv_aload_n C.1 C.2.1 dX9_advance_36 rfl (lv_at hl 0 rfl) ?_
      refine c_get C hw (inC inW9) (kd_lt kp4 (by decide)) (ce9 kp4) rfl 13 (by decide) (wc w_178) (v := .int ((pt F 4 3 (F 6 (ix (F 4 13)))) 4 13)) rfl dX9_advance_37 ?_
      obtain ⟨hi40, hh⟩ := hh
      refine c_ial C hw (kd_lt kp7 (by decide)) (ce14 kp7) hi40 dX9_advance_40 ?_
      refine c_puti C hw (inC inW9) tyX9 tyX9_ok nmX9 (kd_lt kp4 (by decide)) (ce9 kp4) rfl 4 (by decide) (wc w_165) rfl (ty := .int) (by decide +kernel) rfl rfl (Nat.le_of_ble_eq_true rfl) rfl dX9_advance_41 (fun H locs hw => ?_)
      refine lv_aload_n C.1 C.2.1 dX9_advance_44 rfl (lv_at hl 0 rfl) ?_
      refine lv_aload_n C.1 C.2.1 dX9_advance_45 rfl (lv_at hl 0 rfl) ?_
      refine c_get C hw (inC inW9) (kd_lt kp4 (by decide)) (ce9 kp4) rfl 10 (by decide) (wc w_175) (v := .ref (h 8)) rfl dX9_advance_46 ?_
      refine lv_aload_n C.1 C.2.1 dX9_advance_49 rfl (lv_at hl 0 rfl) ?_
      refine c_get C hw (inC inW9) (kd_lt kp4 (by decide)) (ce9 kp4) rfl 13 (by decide) (wc w_178) (v := .int ((pt (pt F 4 3 (F 6 (ix (F 4 13)))) 4 4 ((pt F 4 3 (F 6 (ix (F 4 13)))) 7 (ix ((pt F 4 3 (F 6 (ix (F 4 13)))) 4 13)))) 4 13)) rfl dX9_advance_50 ?_
      obtain ⟨hi53, hh⟩ := hh
      refine c_ial C hw (kd_lt kp8 (by decide)) (ce14 kp8) hi53 dX9_advance_53 ?_
      refine c_puti C hw (inC inW9) tyX9 tyX9_ok nmX9 (kd_lt kp4 (by decide)) (ce9 kp4) rfl 5 (by decide) (wc w_166) rfl (ty := .int) (by decide +kernel) rfl rfl (Nat.le_of_ble_eq_true rfl) rfl dX9_advance_54 (fun H locs hw => ?_)
      refine lv_aload_n C.1 C.2.1 dX9_advance_57 rfl (lv_at hl 0 rfl) ?_
      refine lv_aload_n C.1 C.2.1 dX9_advance_58 rfl (lv_at hl 0 rfl) ?_
      refine c_get C hw (inC inW9) (kd_lt kp4 (by decide)) (ce9 kp4) rfl 11 (by decide) (wc w_176) (v := .ref (h 9)) rfl dX9_advance_59 ?_
      refine lv_aload_n C.1 C.2.1 dX9_advance_62 rfl (lv_at hl 0 rfl) ?_
      refine c_get C hw (inC inW9) (kd_lt kp4 (by decide)) (ce9 kp4) rfl 13 (by decide) (wc w_178) (v := .int ((pt (pt (pt F 4 3 (F 6 (ix (F 4 13)))) 4 4 ((pt F 4 3 (F 6 (ix (F 4 13)))) 7 (ix ((pt F 4 3 (F 6 (ix (F 4 13)))) 4 13)))) 4 5 ((pt (pt F 4 3 (F 6 (ix (F 4 13)))) 4 4 ((pt F 4 3 (F 6 (ix (F 4 13)))) 7 (ix ((pt F 4 3 (F 6 (ix (F 4 13)))) 4 13)))) 8 (ix ((pt (pt F 4 3 (F 6 (ix (F 4 13)))) 4 4 ((pt F 4 3 (F 6 (ix (F 4 13)))) 7 (ix ((pt F 4 3 (F 6 (ix (F 4 13)))) 4 13)))) 4 13)))) 4 13)) rfl dX9_advance_63 ?_
      obtain ⟨hi66, hh⟩ := hh
      refine c_ial C hw (kd_lt kp9 (by decide)) (ce14 kp9) hi66 dX9_advance_66 ?_
      refine c_puti C hw (inC inW9) tyX9 tyX9_ok nmX9 (kd_lt kp4 (by decide)) (ce9 kp4) rfl 6 (by decide) (wc w_169) rfl (ty := .int) (by decide +kernel) rfl rfl (Nat.le_of_ble_eq_true rfl) rfl dX9_advance_67 (fun H locs hw => ?_)
      refine lv_aload_n C.1 C.2.1 dX9_advance_70 rfl (lv_at hl 0 rfl) ?_
      refine lv_dup C.1 C.2.1 dX9_advance_71 rfl ?_
      refine c_get C hw (inC inW9) (kd_lt kp4 (by decide)) (ce9 kp4) rfl 13 (by decide) (wc w_178) (v := .int ((pt (pt (pt (pt F 4 3 (F 6 (ix (F 4 13)))) 4 4 ((pt F 4 3 (F 6 (ix (F 4 13)))) 7 (ix ((pt F 4 3 (F 6 (ix (F 4 13)))) 4 13)))) 4 5 ((pt (pt F 4 3 (F 6 (ix (F 4 13)))) 4 4 ((pt F 4 3 (F 6 (ix (F 4 13)))) 7 (ix ((pt F 4 3 (F 6 (ix (F 4 13)))) 4 13)))) 8 (ix ((pt (pt F 4 3 (F 6 (ix (F 4 13)))) 4 4 ((pt F 4 3 (F 6 (ix (F 4 13)))) 7 (ix ((pt F 4 3 (F 6 (ix (F 4 13)))) 4 13)))) 4 13)))) 4 6 ((pt (pt (pt F 4 3 (F 6 (ix (F 4 13)))) 4 4 ((pt F 4 3 (F 6 (ix (F 4 13)))) 7 (ix ((pt F 4 3 (F 6 (ix (F 4 13)))) 4 13)))) 4 5 ((pt (pt F 4 3 (F 6 (ix (F 4 13)))) 4 4 ((pt F 4 3 (F 6 (ix (F 4 13)))) 7 (ix ((pt F 4 3 (F 6 (ix (F 4 13)))) 4 13)))) 8 (ix ((pt (pt F 4 3 (F 6 (ix (F 4 13)))) 4 4 ((pt F 4 3 (F 6 (ix (F 4 13)))) 7 (ix ((pt F 4 3 (F 6 (ix (F 4 13)))) 4 13)))) 4 13)))) 9 (ix ((pt (pt (pt F 4 3 (F 6 (ix (F 4 13)))) 4 4 ((pt F 4 3 (F 6 (ix (F 4 13)))) 7 (ix ((pt F 4 3 (F 6 (ix (F 4 13)))) 4 13)))) 4 5 ((pt (pt F 4 3 (F 6 (ix (F 4 13)))) 4 4 ((pt F 4 3 (F 6 (ix (F 4 13)))) 7 (ix ((pt F 4 3 (F 6 (ix (F 4 13)))) 4 13)))) 8 (ix ((pt (pt F 4 3 (F 6 (ix (F 4 13)))) 4 4 ((pt F 4 3 (F 6 (ix (F 4 13)))) 7 (ix ((pt F 4 3 (F 6 (ix (F 4 13)))) 4 13)))) 4 13)))) 4 13)))) 4 13)) rfl dX9_advance_72 ?_
      refine lv_iconst (v := (1 : Int32)) C.1 C.2.1 dX9_advance_75 (by decide) ?_
      refine lv_iadd C.1 C.2.1 dX9_advance_76 ?_
      refine c_puti C hw (inC inW9) tyX9 tyX9_ok nmX9 (kd_lt kp4 (by decide)) (ce9 kp4) rfl 13 (by decide) (wc w_178) rfl (ty := .int) (by decide +kernel) rfl rfl (Nat.le_of_ble_eq_true rfl) rfl dX9_advance_77 (fun H locs hw => ?_)
      refine lv_goto (tgt := 106) C.1 C.2.1 dX9_advance_80 (by decide) ?_
      exact tX9_advance_b106 C hR hh hw hl
theorem ctX9_advance (l : Launch) (D : va_G) (h : Nat → Nat) (cI cL cF cM : ClassId) (F : Nat → Nat → Int32) (L : Nat → Nat → Int64) (r : Nat → Nat → Nat) {K : cS → Prop} (hh : wpX9_advance F L r K) : Cv l yX9_advance wsX9_advance rmX9_advance [.ref (h 4)] D (cT cI cL cF cM) (cWu h cI cL cF cM) (F, L, r) K := by
  refine Cv_of (cc := cX9_advance) (maxL := 1) (by decide) rfl (Nat.le_of_ble_eq_true rfl) ?_
  intro p e s m below meth c A Q C hw hR ls hl
  exact tX9_advance_b0 C hR hh hw hl
theorem cdX9_advance : yX9_advance.cls = RX9 ∧ yX9_advance.cls ≠ "java/lang/invoke/MethodHandle" ∧ yX9_advance.cls ≠ "java/lang/invoke/VarHandle" ∧ (parseMethodDescriptor yX9_advance.desc).map (fun d => d.parameters.length) = some 0 := by decide +kernel
abbrev rmX9_open : Room := { frames := 6, cells := 0, slots := 0, locals := 134 }
set_option maxHeartbeats 4000000 in
set_option maxRecDepth 100000 in
theorem tX9_open_b66 {z2 : Nat} {K : cS → Prop} (C : CallFix p m c cX9_open 4 s args wsX9_open RX9) (hR : Rtv p l e rmX9_open s m args below meth c cX9_open D A (cT cI cL cF cM) (cWu h cI cL cF cM) K Q) (hz2 : z2 < 2) {F : Nat → Nat → Int32} {L : Nat → Nat → Int64} {r : Nat → Nat → Nat} (hh : wpX9_open_b66 z2 F L r K) {H : Heap} {locs : List Loc} {ls : Array Slot} (hw : Wd D A s (cT cI cL cF cM) (cW h cI cL cF cM F L r) H locs) (hl : lv_has ls 4 [(0, .ref (h 4))]) : W p l e rmX9_open s m args below meth c H locs 0 0 Q (F0 m 66 ls []) := by
  unfold wpX9_open_b66 at hh
  refine lv_aload_n C.1 C.2.1 dX9_open_66 rfl (lv_at hl 0 rfl) ?_
  refine c_Vv C hw (ctX9_advance l D h cI cL cF cM F L r hh) (cwV 0 C.2.2.2.2 (gd_V w_727 w_728 w_729 w_115 w_730) rfl rfl rfl cdX9_advance ⟨Nat.le_of_ble_eq_true rfl, Nat.le_of_ble_eq_true rfl⟩) rfl (kd_lt kp4 (by decide)) (ce9 kp4) rfl hl.1 (Nat.le_of_ble_eq_true rfl) dX9_open_67 ⟨Nat.zero_le _, Nat.zero_le _⟩ (fun u67 H locs hh hw => ?_) rfl
  exact hR _ _ (u67.1, u67.2.1, u67.2.2) _ _ dX9_open_70 hh hw
set_option maxHeartbeats 4000000 in
set_option maxRecDepth 100000 in
theorem tX9_open_b37_body {z2 : Nat} {B37 : (Nat → Nat → Int32) → (Nat → Nat → Int64) → (Nat → Nat → Nat) → Int32 → Prop} {K : cS → Prop} (C : CallFix p m c cX9_open 4 s args wsX9_open RX9) (hR : Rtv p l e rmX9_open s m args below meth c cX9_open D A (cT cI cL cF cM) (cWu h cI cL cF cM) K Q) (hz2 : z2 < 2) (hB37 : ∀ (F : Nat → Nat → Int32) (L : Nat → Nat → Int64) (r : Nat → Nat → Nat) (x3 : Int32) (H : Heap) (locs : List Loc) (ls : Array Slot), B37 F L r x3 → Wd D A s (cT cI cL cF cM) (cW h cI cL cF cM F L r) H locs → lv_has ls 4 [(0, .ref (h 4)), (2, .ref (D.2 1000 z2)), (3, .int x3)] → W p l e rmX9_open s m args below meth c H locs 0 0 Q (F0 m 37 ls [])) {F : Nat → Nat → Int32} {L : Nat → Nat → Int64} {r : Nat → Nat → Nat} {x3 : Int32} (hh : wpX9_open_b37_body B37 z2 F L r x3 K) {H : Heap} {locs : List Loc} {ls : Array Slot} (hw : Wd D A s (cT cI cL cF cM) (cW h cI cL cF cM F L r) H locs) (hl : lv_has ls 4 [(0, .ref (h 4)), (2, .ref (D.2 1000 z2)), (3, .int x3)]) : W p l e rmX9_open s m args below meth c H locs 0 0 Q (F0 m 37 ls []) := by
  unfold wpX9_open_b37_body at hh
  refine lv_iload_n C.1 C.2.1 dX9_open_37 rfl (lv_at hl 2 rfl) ?_
  refine lv_sipush (v := (500 : Int32)) C.1 C.2.1 dX9_open_38 (by decide) ?_
  refine lv_icmp_ge (tgt := 66) C.1 C.2.1 dX9_open_41 (by decide) (fun c41 => ?_) (fun c41 => ?_)
  · replace hh := hh.1 c41
    exact tX9_open_b66 C hR hz2 hh hw (lv_sub hl [0] rfl)
  · replace hh := hh.2 c41
    refine lv_aload_n C.1 C.2.1 dX9_open_44 rfl (lv_at hl 0 rfl) ?_
    refine c_get C hw (inC inW9) (kd_lt kp4 (by decide)) (ce9 kp4) rfl 15 (by decide) (wc w_180) (v := .int (F 4 15)) rfl dX9_open_45 ?_
    refine lv_aload_n C.1 C.2.1 dX9_open_48 rfl (lv_at hl 0 rfl) ?_
    refine c_get C hw (inC inW9) (kd_lt kp4 (by decide)) (ce9 kp4) rfl 14 (by decide) (wc w_179) (v := .int (F 4 14)) rfl dX9_open_49 ?_
    refine lv_icmp_ge (tgt := 66) C.1 C.2.1 dX9_open_52 (by decide) (fun c52 => ?_) (fun c52 => ?_)
    · replace hh := hh.1 c52
      exact tX9_open_b66 C hR hz2 hh hw (lv_sub hl [0] rfl)
    · replace hh := hh.2 c52
      refine lv_aload_n C.1 C.2.1 dX9_open_55 rfl (lv_at hl 0 rfl) ?_
      refine lv_aload_n C.1 C.2.1 dX9_open_56 rfl (lv_at hl 1 rfl) ?_
      refine c_Vv C hw (ctX9_findToken l D h cI cL cF cM z2 hz2 F L r hh) (cwV 1 C.2.2.2.2 (gd_V w_641 w_643 w_1 w_115 w_644) rfl rfl rfl cdX9_findToken ⟨Nat.le_of_ble_eq_true rfl, Nat.le_of_ble_eq_true rfl⟩) rfl (kd_lt kp4 (by decide)) (ce9 kp4) rfl hl.1 (Nat.le_of_ble_eq_true rfl) dX9_open_57 ⟨Nat.zero_le _, Nat.zero_le _⟩ (fun u57 H locs hh hw => ?_) rfl
      refine lv_iinc (v := x3 + (1 : Int32)) (lv' := [(3, .int (x3 + (1 : Int32))), (0, .ref (h 4)), (2, .ref (D.2 1000 z2))]) C.1 C.2.1 dX9_open_60 hl (k := 2) rfl rfl (by decide) rfl (fun ls hl => ?_)
      refine lv_goto (tgt := 37) C.1 C.2.1 dX9_open_63 (by decide) ?_
      exact hB37 _ _ _ _ _ _ _ hh hw (lv_sub hl [1, 2, 0] rfl)
theorem tX9_open_b37 {z2 : Nat} {K : cS → Prop} (C : CallFix p m c cX9_open 4 s args wsX9_open RX9) (hR : Rtv p l e rmX9_open s m args below meth c cX9_open D A (cT cI cL cF cM) (cWu h cI cL cF cM) K Q) (hz2 : z2 < 2) (n : Nat) : ∀ (F : Nat → Nat → Int32) (L : Nat → Nat → Int64) (r : Nat → Nat → Nat) (x3 : Int32) (H : Heap) (locs : List Loc) (ls : Array Slot), wpX9_open_b37 z2 n F L r x3 K → Wd D A s (cT cI cL cF cM) (cW h cI cL cF cM F L r) H locs → lv_has ls 4 [(0, .ref (h 4)), (2, .ref (D.2 1000 z2)), (3, .int x3)] → W p l e rmX9_open s m args below meth c H locs 0 0 Q (F0 m 37 ls []) := by
  induction n with
  | zero => intro F L r x3 H locs ls hh; exact hh.elim
  | succ n ih => intro F L r x3 H locs ls hh hw hl; exact tX9_open_b37_body C hR hz2 ih hh hw hl
set_option maxHeartbeats 4000000 in
set_option maxRecDepth 100000 in
theorem tX9_open_b0 {z2 : Nat} {K : cS → Prop} (C : CallFix p m c cX9_open 4 s args wsX9_open RX9) (hR : Rtv p l e rmX9_open s m args below meth c cX9_open D A (cT cI cL cF cM) (cWu h cI cL cF cM) K Q) (hz2 : z2 < 2) {F : Nat → Nat → Int32} {L : Nat → Nat → Int64} {r : Nat → Nat → Nat} {x1 : Int32} (hh : wpX9_open_b0 z2 F L r x1 K) {H : Heap} {locs : List Loc} {ls : Array Slot} (hw : Wd D A s (cT cI cL cF cM) (cW h cI cL cF cM F L r) H locs) (hl : lv_has ls 4 [(0, .ref (h 4)), (1, .int x1), (2, .ref (D.2 1000 z2))]) : W p l e rmX9_open s m args below meth c H locs 0 0 Q (F0 m 0 ls []) := by
  unfold wpX9_open_b0 at hh
  refine lv_aload_n C.1 C.2.1 dX9_open_0 rfl (lv_at hl 0 rfl) ?_
  refine lv_iload_n C.1 C.2.1 dX9_open_1 rfl (lv_at hl 1 rfl) ?_
  refine c_puti C hw (inC inW9) tyX9 tyX9_ok nmX9 (kd_lt kp4 (by decide)) (ce9 kp4) rfl 14 (by decide) (wc w_179) rfl (ty := .int) (by decide +kernel) rfl rfl (Nat.le_of_ble_eq_true rfl) rfl dX9_open_2 (fun H locs hw => ?_)
  refine lv_aload_n C.1 C.2.1 dX9_open_5 rfl (lv_at hl 0 rfl) ?_
  refine lv_iconst (v := (0 : Int32)) C.1 C.2.1 dX9_open_6 (by decide) ?_
  refine c_puti C hw (inC inW9) tyX9 tyX9_ok nmX9 (kd_lt kp4 (by decide)) (ce9 kp4) rfl 15 (by decide) (wc w_180) rfl (ty := .int) (by decide +kernel) rfl rfl (Nat.le_of_ble_eq_true rfl) rfl dX9_open_7 (fun H locs hw => ?_)
  refine lv_aload_n C.1 C.2.1 dX9_open_10 rfl (lv_at hl 0 rfl) ?_
  refine lv_iconst (v := (0 : Int32)) C.1 C.2.1 dX9_open_11 (by decide) ?_
  refine c_puti C hw (inC inW9) tyX9 tyX9_ok nmX9 (kd_lt kp4 (by decide)) (ce9 kp4) rfl 12 (by decide) (wc w_177) rfl (ty := .int) (by decide +kernel) rfl rfl (Nat.le_of_ble_eq_true rfl) rfl dX9_open_12 (fun H locs hw => ?_)
  refine lv_aload_n C.1 C.2.1 dX9_open_15 rfl (lv_at hl 0 rfl) ?_
  refine lv_iconst (v := (0 : Int32)) C.1 C.2.1 dX9_open_16 (by decide) ?_
  refine c_puti C hw (inC inW9) tyX9 tyX9_ok nmX9 (kd_lt kp4 (by decide)) (ce9 kp4) rfl 13 (by decide) (wc w_178) rfl (ty := .int) (by decide +kernel) rfl rfl (Nat.le_of_ble_eq_true rfl) rfl dX9_open_17 (fun H locs hw => ?_)
  refine lv_aload_n C.1 C.2.1 dX9_open_20 rfl (lv_at hl 0 rfl) ?_
  refine lv_iconst (v := (0 : Int32)) C.1 C.2.1 dX9_open_21 (by decide) ?_
  refine c_puti C hw (inC inW9) tyX9 tyX9_ok nmX9 (kd_lt kp4 (by decide)) (ce9 kp4) rfl 0 (by decide) (wc w_152) rfl (ty := .int) (by decide +kernel) rfl rfl (Nat.le_of_ble_eq_true rfl) rfl dX9_open_22 (fun H locs hw => ?_)
  refine lv_aload_n C.1 C.2.1 dX9_open_25 rfl (lv_at hl 0 rfl) ?_
  refine lv_iconst (v := (0 : Int32)) C.1 C.2.1 dX9_open_26 (by decide) ?_
  refine c_puti C hw (inC inW9) tyX9 tyX9_ok nmX9 (kd_lt kp4 (by decide)) (ce9 kp4) rfl 1 (by decide) (wc w_156) rfl (ty := .int) (by decide +kernel) rfl rfl (Nat.le_of_ble_eq_true rfl) rfl dX9_open_27 (fun H locs hw => ?_)
  refine lv_aload_n C.1 C.2.1 dX9_open_30 rfl (lv_at hl 0 rfl) ?_
  refine lv_iconst (v := (-1 : Int32)) C.1 C.2.1 dX9_open_31 (by decide) ?_
  refine c_puti C hw (inC inW9) tyX9 tyX9_ok nmX9 (kd_lt kp4 (by decide)) (ce9 kp4) rfl 2 (by decide) (wc w_158) rfl (ty := .int) (by decide +kernel) rfl rfl (Nat.le_of_ble_eq_true rfl) rfl dX9_open_32 (fun H locs hw => ?_)
  refine lv_iconst (v := (0 : Int32)) C.1 C.2.1 dX9_open_35 (by decide) ?_
  refine lv_istore_n (lv' := [(3, .int (0 : Int32)), (0, .ref (h 4)), (1, .int x1), (2, .ref (D.2 1000 z2))]) C.1 C.2.1 dX9_open_36 rfl hl (by decide) rfl (fun ls hl => ?_)
  obtain ⟨n, hh⟩ := hh
  exact tX9_open_b37 C hR hz2 n _ _ _ _ _ _ _ hh hw (lv_sub hl [1, 3, 0] rfl)
theorem ctX9_open (l : Launch) (D : va_G) (h : Nat → Nat) (cI cL cF cM : ClassId) (z2 : Nat) (hz2 : z2 < 2) (F : Nat → Nat → Int32) (L : Nat → Nat → Int64) (r : Nat → Nat → Nat) (x1 : Int32) {K : cS → Prop} (hh : wpX9_open z2 F L r x1 K) : Cv l yX9_open wsX9_open rmX9_open [.ref (h 4), .int x1, .ref (D.2 1000 z2)] D (cT cI cL cF cM) (cWu h cI cL cF cM) (F, L, r) K := by
  refine Cv_of (cc := cX9_open) (maxL := 4) (by decide) rfl (Nat.le_of_ble_eq_true rfl) ?_
  intro p e s m below meth c A Q C hw hR ls hl
  exact tX9_open_b0 C hR hz2 hh hw hl
theorem cdX9_open : yX9_open.cls = RX9 ∧ yX9_open.cls ≠ "java/lang/invoke/MethodHandle" ∧ yX9_open.cls ≠ "java/lang/invoke/VarHandle" ∧ (parseMethodDescriptor yX9_open.desc).map (fun d => d.parameters.length) = some 2 := by decide +kernel
abbrev rmX9_refuse : Room := { frames := 0, cells := 0, slots := 0, locals := 0 }
set_option maxHeartbeats 4000000 in
set_option maxRecDepth 100000 in
theorem tX9_refuse_b17 {K : cS → Prop} (C : CallFix p m c cX9_refuse 3 s args wsX9_refuse RX9) (hR : Rtv p l e rmX9_refuse s m args below meth c cX9_refuse D A (cT cI cL cF cM) (cWu h cI cL cF cM) K Q) {F : Nat → Nat → Int32} {L : Nat → Nat → Int64} {r : Nat → Nat → Nat} (hh : wpX9_refuse_b17 F L r K) {H : Heap} {locs : List Loc} {ls : Array Slot} (hw : Wd D A s (cT cI cL cF cM) (cW h cI cL cF cM F L r) H locs) (hl : lv_has ls 3 [(0, .ref (h 4))]) : W p l e rmX9_refuse s m args below meth c H locs 0 0 Q (F0 m 17 ls []) := by
  unfold wpX9_refuse_b17 at hh
  exact hR _ _ (F, L, r) _ _ dX9_refuse_17 hh hw
set_option maxHeartbeats 4000000 in
set_option maxRecDepth 100000 in
theorem tX9_refuse_b0 {K : cS → Prop} (C : CallFix p m c cX9_refuse 3 s args wsX9_refuse RX9) (hR : Rtv p l e rmX9_refuse s m args below meth c cX9_refuse D A (cT cI cL cF cM) (cWu h cI cL cF cM) K Q) {F : Nat → Nat → Int32} {L : Nat → Nat → Int64} {r : Nat → Nat → Nat} {x1 : Int32} {x2 : Int32} (hh : wpX9_refuse_b0 F L r x1 x2 K) {H : Heap} {locs : List Loc} {ls : Array Slot} (hw : Wd D A s (cT cI cL cF cM) (cW h cI cL cF cM F L r) H locs) (hl : lv_has ls 3 [(0, .ref (h 4)), (1, .int x1), (2, .int x2)]) : W p l e rmX9_refuse s m args below meth c H locs 0 0 Q (F0 m 0 ls []) := by
  unfold wpX9_refuse_b0 at hh
  refine lv_aload_n C.1 C.2.1 dX9_refuse_0 rfl (lv_at hl 0 rfl) ?_
  refine c_get C hw (inC inW9) (kd_lt kp4 (by decide)) (ce9 kp4) rfl 1 (by decide) (wc w_156) (v := .int (F 4 1)) rfl dX9_refuse_1 ?_
  refine lv_if_ne (tgt := 17) C.1 C.2.1 dX9_refuse_4 (by decide) (fun c4 => ?_) (fun c4 => ?_)
  · replace hh := hh.1 c4
    exact tX9_refuse_b17 C hR hh hw (lv_sub hl [0] rfl)
  · replace hh := hh.2 c4
    refine lv_aload_n C.1 C.2.1 dX9_refuse_7 rfl (lv_at hl 0 rfl) ?_
    refine lv_iload_n C.1 C.2.1 dX9_refuse_8 rfl (lv_at hl 1 rfl) ?_
    refine c_puti C hw (inC inW9) tyX9 tyX9_ok nmX9 (kd_lt kp4 (by decide)) (ce9 kp4) rfl 1 (by decide) (wc w_156) rfl (ty := .int) (by decide +kernel) rfl rfl (Nat.le_of_ble_eq_true rfl) rfl dX9_refuse_9 (fun H locs hw => ?_)
    refine lv_aload_n C.1 C.2.1 dX9_refuse_12 rfl (lv_at hl 0 rfl) ?_
    refine lv_iload_n C.1 C.2.1 dX9_refuse_13 rfl (lv_at hl 2 rfl) ?_
    refine c_puti C hw (inC inW9) tyX9 tyX9_ok nmX9 (kd_lt kp4 (by decide)) (ce9 kp4) rfl 2 (by decide) (wc w_158) rfl (ty := .int) (by decide +kernel) rfl rfl (Nat.le_of_ble_eq_true rfl) rfl dX9_refuse_14 (fun H locs hw => ?_)
    exact tX9_refuse_b17 C hR hh hw (lv_sub hl [0] rfl)
theorem ctX9_refuse (l : Launch) (D : va_G) (h : Nat → Nat) (cI cL cF cM : ClassId) (F : Nat → Nat → Int32) (L : Nat → Nat → Int64) (r : Nat → Nat → Nat) (x1 : Int32) (x2 : Int32) {K : cS → Prop} (hh : wpX9_refuse F L r x1 x2 K) : Cv l yX9_refuse wsX9_refuse rmX9_refuse [.ref (h 4), .int x1, .int x2] D (cT cI cL cF cM) (cWu h cI cL cF cM) (F, L, r) K := by
  refine Cv_of (cc := cX9_refuse) (maxL := 3) (by decide) rfl (Nat.le_of_ble_eq_true rfl) ?_
  intro p e s m below meth c A Q C hw hR ls hl
  exact tX9_refuse_b0 C hR hh hw hl
theorem cdX9_refuse : yX9_refuse.cls = RX9 ∧ yX9_refuse.cls ≠ "java/lang/invoke/MethodHandle" ∧ yX9_refuse.cls ≠ "java/lang/invoke/VarHandle" ∧ (parseMethodDescriptor yX9_refuse.desc).map (fun d => d.parameters.length) = some 2 := by decide +kernel
abbrev rmX6_openLine : Room := { frames := 0, cells := 0, slots := 0, locals := 0 }
set_option maxHeartbeats 4000000 in
set_option maxRecDepth 100000 in
theorem tX6_openLine_b0 {a0 : Nat} {K : cS → Prop} (C : CallFix p m c cX6_openLine 1 s args wsX6_openLine RX6) (hR : Rtv p l e rmX6_openLine s m args below meth c cX6_openLine D A (cT cI cL cF cM) (cWu h cI cL cF cM) K Q) (ha0 : kd a0 = 6) {F : Nat → Nat → Int32} {L : Nat → Nat → Int64} {r : Nat → Nat → Nat} (hh : wpX6_openLine_b0 a0 F L r K) {H : Heap} {locs : List Loc} {ls : Array Slot} (hw : Wd D A s (cT cI cL cF cM) (cW h cI cL cF cM F L r) H locs) (hl : lv_has ls 1 [(0, .ref (h a0))]) : W p l e rmX6_openLine s m args below meth c H locs 0 0 Q (F0 m 0 ls []) := by
  unfold wpX6_openLine_b0 at hh
  refine lv_aload_n C.1 C.2.1 dX6_openLine_0 rfl (lv_at hl 0 rfl) ?_
  refine c_get C hw (inC inW6) (kd_lt ha0 (by decide)) (ce6 ha0) rfl 0 (by decide) (wc w_227) (v := .int (F a0 0)) rfl dX6_openLine_1 ?_
  refine lv_bipush (v := (30 : Int32)) C.1 C.2.1 dX6_openLine_4 (by decide) ?_
  refine lv_icmp_lt (tgt := 10) C.1 C.2.1 dX6_openLine_6 (by decide) (fun c6 => ?_) (fun c6 => ?_)
  · replace hh := hh.1 c6
    refine lv_aload_n C.1 C.2.1 dX6_openLine_10 rfl (lv_at hl 0 rfl) ?_
    refine c_get C hw (inC inW6) (kd_lt ha0 (by decide)) (ce6 ha0) rfl 3 (by decide) (wc w_234) (v := .ref (h (a0 + 3))) rfl dX6_openLine_11 ?_
    refine lv_aload_n C.1 C.2.1 dX6_openLine_14 rfl (lv_at hl 0 rfl) ?_
    refine c_get C hw (inC inW6) (kd_lt ha0 (by decide)) (ce6 ha0) rfl 0 (by decide) (wc w_227) (v := .int (F a0 0)) rfl dX6_openLine_15 ?_
    refine lv_iconst (v := (0 : Int32)) C.1 C.2.1 dX6_openLine_18 (by decide) ?_
    obtain ⟨hi19, hh⟩ := hh
    refine c_ias C hw (kd_lt (kd6_3 ha0) (by decide)) (ce20 (kd6_3 ha0)) hi19 dX6_openLine_19 (fun H locs hw => ?_)
    refine lv_aload_n C.1 C.2.1 dX6_openLine_20 rfl (lv_at hl 0 rfl) ?_
    refine c_get C hw (inC inW6) (kd_lt ha0 (by decide)) (ce6 ha0) rfl 4 (by decide) (wc w_235) (v := .ref (h (a0 + 4))) rfl dX6_openLine_21 ?_
    refine lv_aload_n C.1 C.2.1 dX6_openLine_24 rfl (lv_at hl 0 rfl) ?_
    refine c_get C hw (inC inW6) (kd_lt ha0 (by decide)) (ce6 ha0) rfl 0 (by decide) (wc w_227) (v := .int ((pt F (a0 + 3) (ix (F a0 0)) (0 : Int32)) a0 0)) rfl dX6_openLine_25 ?_
    refine lv_iconst (v := (0 : Int32)) C.1 C.2.1 dX6_openLine_28 (by decide) ?_
    obtain ⟨hi29, hh⟩ := hh
    refine c_ias C hw (kd_lt (kd6_4 ha0) (by decide)) (ce20 (kd6_4 ha0)) hi29 dX6_openLine_29 (fun H locs hw => ?_)
    refine lv_aload_n C.1 C.2.1 dX6_openLine_30 rfl (lv_at hl 0 rfl) ?_
    refine c_get C hw (inC inW6) (kd_lt ha0 (by decide)) (ce6 ha0) rfl 5 (by decide) (wc w_236) (v := .ref (h (a0 + 5))) rfl dX6_openLine_31 ?_
    refine lv_aload_n C.1 C.2.1 dX6_openLine_34 rfl (lv_at hl 0 rfl) ?_
    refine c_get C hw (inC inW6) (kd_lt ha0 (by decide)) (ce6 ha0) rfl 0 (by decide) (wc w_227) (v := .int ((pt (pt F (a0 + 3) (ix (F a0 0)) (0 : Int32)) (a0 + 4) (ix ((pt F (a0 + 3) (ix (F a0 0)) (0 : Int32)) a0 0)) (0 : Int32)) a0 0)) rfl dX6_openLine_35 ?_
    refine lv_iconst (v := (0 : Int32)) C.1 C.2.1 dX6_openLine_38 (by decide) ?_
    obtain ⟨hi39, hh⟩ := hh
    refine c_ias C hw (kd_lt (kd6_5 ha0) (by decide)) (ce20 (kd6_5 ha0)) hi39 dX6_openLine_39 (fun H locs hw => ?_)
    refine lv_aload_n C.1 C.2.1 dX6_openLine_40 rfl (lv_at hl 0 rfl) ?_
    refine c_get C hw (inC inW6) (kd_lt ha0 (by decide)) (ce6 ha0) rfl 6 (by decide) (wc w_237) (v := .ref (h (a0 + 6))) rfl dX6_openLine_41 ?_
    refine lv_aload_n C.1 C.2.1 dX6_openLine_44 rfl (lv_at hl 0 rfl) ?_
    refine c_get C hw (inC inW6) (kd_lt ha0 (by decide)) (ce6 ha0) rfl 0 (by decide) (wc w_227) (v := .int ((pt (pt (pt F (a0 + 3) (ix (F a0 0)) (0 : Int32)) (a0 + 4) (ix ((pt F (a0 + 3) (ix (F a0 0)) (0 : Int32)) a0 0)) (0 : Int32)) (a0 + 5) (ix ((pt (pt F (a0 + 3) (ix (F a0 0)) (0 : Int32)) (a0 + 4) (ix ((pt F (a0 + 3) (ix (F a0 0)) (0 : Int32)) a0 0)) (0 : Int32)) a0 0)) (0 : Int32)) a0 0)) rfl dX6_openLine_45 ?_
    refine lv_bipush (v := (100 : Int32)) C.1 C.2.1 dX6_openLine_48 (by decide) ?_
    obtain ⟨hi50, hh⟩ := hh
    refine c_ias C hw (kd_lt (kd6_6 ha0) (by decide)) (ce20 (kd6_6 ha0)) hi50 dX6_openLine_50 (fun H locs hw => ?_)
    refine lv_aload_n C.1 C.2.1 dX6_openLine_51 rfl (lv_at hl 0 rfl) ?_
    refine c_get C hw (inC inW6) (kd_lt ha0 (by decide)) (ce6 ha0) rfl 2 (by decide) (wc w_232) (v := .ref (h (a0 + 2))) rfl dX6_openLine_52 ?_
    refine lv_aload_n C.1 C.2.1 dX6_openLine_55 rfl (lv_at hl 0 rfl) ?_
    refine c_get C hw (inC inW6) (kd_lt ha0 (by decide)) (ce6 ha0) rfl 0 (by decide) (wc w_227) (v := .int ((pt (pt (pt (pt F (a0 + 3) (ix (F a0 0)) (0 : Int32)) (a0 + 4) (ix ((pt F (a0 + 3) (ix (F a0 0)) (0 : Int32)) a0 0)) (0 : Int32)) (a0 + 5) (ix ((pt (pt F (a0 + 3) (ix (F a0 0)) (0 : Int32)) (a0 + 4) (ix ((pt F (a0 + 3) (ix (F a0 0)) (0 : Int32)) a0 0)) (0 : Int32)) a0 0)) (0 : Int32)) (a0 + 6) (ix ((pt (pt (pt F (a0 + 3) (ix (F a0 0)) (0 : Int32)) (a0 + 4) (ix ((pt F (a0 + 3) (ix (F a0 0)) (0 : Int32)) a0 0)) (0 : Int32)) (a0 + 5) (ix ((pt (pt F (a0 + 3) (ix (F a0 0)) (0 : Int32)) (a0 + 4) (ix ((pt F (a0 + 3) (ix (F a0 0)) (0 : Int32)) a0 0)) (0 : Int32)) a0 0)) (0 : Int32)) a0 0)) (100 : Int32)) a0 0)) rfl dX6_openLine_56 ?_
    refine lv_aload_n C.1 C.2.1 dX6_openLine_59 rfl (lv_at hl 0 rfl) ?_
    refine c_get C hw (inC inW6) (kd_lt ha0 (by decide)) (ce6 ha0) rfl 0 (by decide) (wc w_227) (v := .int ((pt (pt (pt (pt F (a0 + 3) (ix (F a0 0)) (0 : Int32)) (a0 + 4) (ix ((pt F (a0 + 3) (ix (F a0 0)) (0 : Int32)) a0 0)) (0 : Int32)) (a0 + 5) (ix ((pt (pt F (a0 + 3) (ix (F a0 0)) (0 : Int32)) (a0 + 4) (ix ((pt F (a0 + 3) (ix (F a0 0)) (0 : Int32)) a0 0)) (0 : Int32)) a0 0)) (0 : Int32)) (a0 + 6) (ix ((pt (pt (pt F (a0 + 3) (ix (F a0 0)) (0 : Int32)) (a0 + 4) (ix ((pt F (a0 + 3) (ix (F a0 0)) (0 : Int32)) a0 0)) (0 : Int32)) (a0 + 5) (ix ((pt (pt F (a0 + 3) (ix (F a0 0)) (0 : Int32)) (a0 + 4) (ix ((pt F (a0 + 3) (ix (F a0 0)) (0 : Int32)) a0 0)) (0 : Int32)) a0 0)) (0 : Int32)) a0 0)) (100 : Int32)) a0 0)) rfl dX6_openLine_60 ?_
    refine lv_bipush (v := (12 : Int32)) C.1 C.2.1 dX6_openLine_63 (by decide) ?_
    refine lv_imul C.1 C.2.1 dX6_openLine_65 ?_
    obtain ⟨hi66, hh⟩ := hh
    refine c_ias C hw (kd_lt (kd6_2 ha0) (by decide)) (ce20 (kd6_2 ha0)) hi66 dX6_openLine_66 (fun H locs hw => ?_)
    refine lv_aload_n C.1 C.2.1 dX6_openLine_67 rfl (lv_at hl 0 rfl) ?_
    refine lv_dup C.1 C.2.1 dX6_openLine_68 rfl ?_
    refine c_get C hw (inC inW6) (kd_lt ha0 (by decide)) (ce6 ha0) rfl 0 (by decide) (wc w_227) (v := .int ((pt (pt (pt (pt (pt F (a0 + 3) (ix (F a0 0)) (0 : Int32)) (a0 + 4) (ix ((pt F (a0 + 3) (ix (F a0 0)) (0 : Int32)) a0 0)) (0 : Int32)) (a0 + 5) (ix ((pt (pt F (a0 + 3) (ix (F a0 0)) (0 : Int32)) (a0 + 4) (ix ((pt F (a0 + 3) (ix (F a0 0)) (0 : Int32)) a0 0)) (0 : Int32)) a0 0)) (0 : Int32)) (a0 + 6) (ix ((pt (pt (pt F (a0 + 3) (ix (F a0 0)) (0 : Int32)) (a0 + 4) (ix ((pt F (a0 + 3) (ix (F a0 0)) (0 : Int32)) a0 0)) (0 : Int32)) (a0 + 5) (ix ((pt (pt F (a0 + 3) (ix (F a0 0)) (0 : Int32)) (a0 + 4) (ix ((pt F (a0 + 3) (ix (F a0 0)) (0 : Int32)) a0 0)) (0 : Int32)) a0 0)) (0 : Int32)) a0 0)) (100 : Int32)) (a0 + 2) (ix ((pt (pt (pt (pt F (a0 + 3) (ix (F a0 0)) (0 : Int32)) (a0 + 4) (ix ((pt F (a0 + 3) (ix (F a0 0)) (0 : Int32)) a0 0)) (0 : Int32)) (a0 + 5) (ix ((pt (pt F (a0 + 3) (ix (F a0 0)) (0 : Int32)) (a0 + 4) (ix ((pt F (a0 + 3) (ix (F a0 0)) (0 : Int32)) a0 0)) (0 : Int32)) a0 0)) (0 : Int32)) (a0 + 6) (ix ((pt (pt (pt F (a0 + 3) (ix (F a0 0)) (0 : Int32)) (a0 + 4) (ix ((pt F (a0 + 3) (ix (F a0 0)) (0 : Int32)) a0 0)) (0 : Int32)) (a0 + 5) (ix ((pt (pt F (a0 + 3) (ix (F a0 0)) (0 : Int32)) (a0 + 4) (ix ((pt F (a0 + 3) (ix (F a0 0)) (0 : Int32)) a0 0)) (0 : Int32)) a0 0)) (0 : Int32)) a0 0)) (100 : Int32)) a0 0)) (((pt (pt (pt (pt F (a0 + 3) (ix (F a0 0)) (0 : Int32)) (a0 + 4) (ix ((pt F (a0 + 3) (ix (F a0 0)) (0 : Int32)) a0 0)) (0 : Int32)) (a0 + 5) (ix ((pt (pt F (a0 + 3) (ix (F a0 0)) (0 : Int32)) (a0 + 4) (ix ((pt F (a0 + 3) (ix (F a0 0)) (0 : Int32)) a0 0)) (0 : Int32)) a0 0)) (0 : Int32)) (a0 + 6) (ix ((pt (pt (pt F (a0 + 3) (ix (F a0 0)) (0 : Int32)) (a0 + 4) (ix ((pt F (a0 + 3) (ix (F a0 0)) (0 : Int32)) a0 0)) (0 : Int32)) (a0 + 5) (ix ((pt (pt F (a0 + 3) (ix (F a0 0)) (0 : Int32)) (a0 + 4) (ix ((pt F (a0 + 3) (ix (F a0 0)) (0 : Int32)) a0 0)) (0 : Int32)) a0 0)) (0 : Int32)) a0 0)) (100 : Int32)) a0 0) * (12 : Int32))) a0 0)) rfl dX6_openLine_69 ?_
    refine lv_iconst (v := (1 : Int32)) C.1 C.2.1 dX6_openLine_72 (by decide) ?_
    refine lv_iadd C.1 C.2.1 dX6_openLine_73 ?_
    refine c_puti C hw (inC inW6) tyX6 tyX6_ok nmX6 (kd_lt ha0 (by decide)) (ce6 ha0) rfl 0 (by decide) (wc w_227) rfl (ty := .int) (by decide +kernel) rfl rfl (Nat.le_of_ble_eq_true rfl) rfl dX6_openLine_74 (fun H locs hw => ?_)
    exact hR _ _ (pt (pt (pt (pt (pt (pt F (a0 + 3) (ix (F a0 0)) (0 : Int32)) (a0 + 4) (ix ((pt F (a0 + 3) (ix (F a0 0)) (0 : Int32)) a0 0)) (0 : Int32)) (a0 + 5) (ix ((pt (pt F (a0 + 3) (ix (F a0 0)) (0 : Int32)) (a0 + 4) (ix ((pt F (a0 + 3) (ix (F a0 0)) (0 : Int32)) a0 0)) (0 : Int32)) a0 0)) (0 : Int32)) (a0 + 6) (ix ((pt (pt (pt F (a0 + 3) (ix (F a0 0)) (0 : Int32)) (a0 + 4) (ix ((pt F (a0 + 3) (ix (F a0 0)) (0 : Int32)) a0 0)) (0 : Int32)) (a0 + 5) (ix ((pt (pt F (a0 + 3) (ix (F a0 0)) (0 : Int32)) (a0 + 4) (ix ((pt F (a0 + 3) (ix (F a0 0)) (0 : Int32)) a0 0)) (0 : Int32)) a0 0)) (0 : Int32)) a0 0)) (100 : Int32)) (a0 + 2) (ix ((pt (pt (pt (pt F (a0 + 3) (ix (F a0 0)) (0 : Int32)) (a0 + 4) (ix ((pt F (a0 + 3) (ix (F a0 0)) (0 : Int32)) a0 0)) (0 : Int32)) (a0 + 5) (ix ((pt (pt F (a0 + 3) (ix (F a0 0)) (0 : Int32)) (a0 + 4) (ix ((pt F (a0 + 3) (ix (F a0 0)) (0 : Int32)) a0 0)) (0 : Int32)) a0 0)) (0 : Int32)) (a0 + 6) (ix ((pt (pt (pt F (a0 + 3) (ix (F a0 0)) (0 : Int32)) (a0 + 4) (ix ((pt F (a0 + 3) (ix (F a0 0)) (0 : Int32)) a0 0)) (0 : Int32)) (a0 + 5) (ix ((pt (pt F (a0 + 3) (ix (F a0 0)) (0 : Int32)) (a0 + 4) (ix ((pt F (a0 + 3) (ix (F a0 0)) (0 : Int32)) a0 0)) (0 : Int32)) a0 0)) (0 : Int32)) a0 0)) (100 : Int32)) a0 0)) (((pt (pt (pt (pt F (a0 + 3) (ix (F a0 0)) (0 : Int32)) (a0 + 4) (ix ((pt F (a0 + 3) (ix (F a0 0)) (0 : Int32)) a0 0)) (0 : Int32)) (a0 + 5) (ix ((pt (pt F (a0 + 3) (ix (F a0 0)) (0 : Int32)) (a0 + 4) (ix ((pt F (a0 + 3) (ix (F a0 0)) (0 : Int32)) a0 0)) (0 : Int32)) a0 0)) (0 : Int32)) (a0 + 6) (ix ((pt (pt (pt F (a0 + 3) (ix (F a0 0)) (0 : Int32)) (a0 + 4) (ix ((pt F (a0 + 3) (ix (F a0 0)) (0 : Int32)) a0 0)) (0 : Int32)) (a0 + 5) (ix ((pt (pt F (a0 + 3) (ix (F a0 0)) (0 : Int32)) (a0 + 4) (ix ((pt F (a0 + 3) (ix (F a0 0)) (0 : Int32)) a0 0)) (0 : Int32)) a0 0)) (0 : Int32)) a0 0)) (100 : Int32)) a0 0) * (12 : Int32))) a0 0 (((pt (pt (pt (pt (pt F (a0 + 3) (ix (F a0 0)) (0 : Int32)) (a0 + 4) (ix ((pt F (a0 + 3) (ix (F a0 0)) (0 : Int32)) a0 0)) (0 : Int32)) (a0 + 5) (ix ((pt (pt F (a0 + 3) (ix (F a0 0)) (0 : Int32)) (a0 + 4) (ix ((pt F (a0 + 3) (ix (F a0 0)) (0 : Int32)) a0 0)) (0 : Int32)) a0 0)) (0 : Int32)) (a0 + 6) (ix ((pt (pt (pt F (a0 + 3) (ix (F a0 0)) (0 : Int32)) (a0 + 4) (ix ((pt F (a0 + 3) (ix (F a0 0)) (0 : Int32)) a0 0)) (0 : Int32)) (a0 + 5) (ix ((pt (pt F (a0 + 3) (ix (F a0 0)) (0 : Int32)) (a0 + 4) (ix ((pt F (a0 + 3) (ix (F a0 0)) (0 : Int32)) a0 0)) (0 : Int32)) a0 0)) (0 : Int32)) a0 0)) (100 : Int32)) (a0 + 2) (ix ((pt (pt (pt (pt F (a0 + 3) (ix (F a0 0)) (0 : Int32)) (a0 + 4) (ix ((pt F (a0 + 3) (ix (F a0 0)) (0 : Int32)) a0 0)) (0 : Int32)) (a0 + 5) (ix ((pt (pt F (a0 + 3) (ix (F a0 0)) (0 : Int32)) (a0 + 4) (ix ((pt F (a0 + 3) (ix (F a0 0)) (0 : Int32)) a0 0)) (0 : Int32)) a0 0)) (0 : Int32)) (a0 + 6) (ix ((pt (pt (pt F (a0 + 3) (ix (F a0 0)) (0 : Int32)) (a0 + 4) (ix ((pt F (a0 + 3) (ix (F a0 0)) (0 : Int32)) a0 0)) (0 : Int32)) (a0 + 5) (ix ((pt (pt F (a0 + 3) (ix (F a0 0)) (0 : Int32)) (a0 + 4) (ix ((pt F (a0 + 3) (ix (F a0 0)) (0 : Int32)) a0 0)) (0 : Int32)) a0 0)) (0 : Int32)) a0 0)) (100 : Int32)) a0 0)) (((pt (pt (pt (pt F (a0 + 3) (ix (F a0 0)) (0 : Int32)) (a0 + 4) (ix ((pt F (a0 + 3) (ix (F a0 0)) (0 : Int32)) a0 0)) (0 : Int32)) (a0 + 5) (ix ((pt (pt F (a0 + 3) (ix (F a0 0)) (0 : Int32)) (a0 + 4) (ix ((pt F (a0 + 3) (ix (F a0 0)) (0 : Int32)) a0 0)) (0 : Int32)) a0 0)) (0 : Int32)) (a0 + 6) (ix ((pt (pt (pt F (a0 + 3) (ix (F a0 0)) (0 : Int32)) (a0 + 4) (ix ((pt F (a0 + 3) (ix (F a0 0)) (0 : Int32)) a0 0)) (0 : Int32)) (a0 + 5) (ix ((pt (pt F (a0 + 3) (ix (F a0 0)) (0 : Int32)) (a0 + 4) (ix ((pt F (a0 + 3) (ix (F a0 0)) (0 : Int32)) a0 0)) (0 : Int32)) a0 0)) (0 : Int32)) a0 0)) (100 : Int32)) a0 0) * (12 : Int32))) a0 0) + (1 : Int32)), L, r) _ _ dX6_openLine_77 hh hw
  · replace hh := hh.2 c6
    exact hR _ _ (F, L, r) _ _ dX6_openLine_9 hh hw
theorem ctX6_openLine (l : Launch) (D : va_G) (h : Nat → Nat) (cI cL cF cM : ClassId) (a0 : Nat) (ha0 : kd a0 = 6) (F : Nat → Nat → Int32) (L : Nat → Nat → Int64) (r : Nat → Nat → Nat) {K : cS → Prop} (hh : wpX6_openLine a0 F L r K) : Cv l yX6_openLine wsX6_openLine rmX6_openLine [.ref (h a0)] D (cT cI cL cF cM) (cWu h cI cL cF cM) (F, L, r) K := by
  refine Cv_of (cc := cX6_openLine) (maxL := 1) (by decide) rfl (Nat.le_of_ble_eq_true rfl) ?_
  intro p e s m below meth c A Q C hw hR ls hl
  exact tX6_openLine_b0 C hR ha0 hh hw hl
theorem cdX6_openLine : yX6_openLine.cls = RX6 ∧ yX6_openLine.cls ≠ "java/lang/invoke/MethodHandle" ∧ yX6_openLine.cls ≠ "java/lang/invoke/VarHandle" ∧ (parseMethodDescriptor yX6_openLine.desc).map (fun d => d.parameters.length) = some 0 := by decide +kernel
abbrev rmX7_isTest : Room := { frames := 0, cells := 0, slots := 0, locals := 0 }
set_option maxHeartbeats 4000000 in
set_option maxRecDepth 100000 in
theorem tX7_isTest_b16 {K : Int32 → Unit → Prop} (C : CallFix p m c cX7_isTest 1 s args wsX7_isTest RX7) (hR : Rti .boolean p l e rmX7_isTest s m args below meth c cX7_isTest D A [] (fun _ : Unit => []) K Q) {k0 : Int32} (hh : wpX7_isTest_b16 k0 K) {H : Heap} {locs : List Loc} {ls : Array Slot} (hw : Wd D A s [] [] H locs) (hl : lv_has ls 1 []) : W p l e rmX7_isTest s m args below meth c H locs 0 0 Q (F0 m 16 ls [.int k0]) := by
  unfold wpX7_isTest_b16 at hh
  obtain ⟨hb16, hh⟩ := hh
  exact hR _ _ _ () _ _ dX7_isTest_16 (isB_nar hb16) hh hw
set_option maxHeartbeats 4000000 in
set_option maxRecDepth 100000 in
theorem tX7_isTest_b15 {K : Int32 → Unit → Prop} (C : CallFix p m c cX7_isTest 1 s args wsX7_isTest RX7) (hR : Rti .boolean p l e rmX7_isTest s m args below meth c cX7_isTest D A [] (fun _ : Unit => []) K Q) (hh : wpX7_isTest_b15  K) {H : Heap} {locs : List Loc} {ls : Array Slot} (hw : Wd D A s [] [] H locs) (hl : lv_has ls 1 []) : W p l e rmX7_isTest s m args below meth c H locs 0 0 Q (F0 m 15 ls []) := by
  unfold wpX7_isTest_b15 at hh
  refine lv_iconst (v := (0 : Int32)) C.1 C.2.1 dX7_isTest_15 (by decide) ?_
  exact tX7_isTest_b16 C hR hh hw hl
set_option maxHeartbeats 4000000 in
set_option maxRecDepth 100000 in
theorem tX7_isTest_b0 {K : Int32 → Unit → Prop} (C : CallFix p m c cX7_isTest 1 s args wsX7_isTest RX7) (hR : Rti .boolean p l e rmX7_isTest s m args below meth c cX7_isTest D A [] (fun _ : Unit => []) K Q) {x0 : Int32} (hh : wpX7_isTest_b0 x0 K) {H : Heap} {locs : List Loc} {ls : Array Slot} (hw : Wd D A s [] [] H locs) (hl : lv_has ls 1 [(0, .int x0)]) : W p l e rmX7_isTest s m args below meth c H locs 0 0 Q (F0 m 0 ls []) := by
  unfold wpX7_isTest_b0 at hh
  refine lv_iload_n C.1 C.2.1 dX7_isTest_0 rfl (lv_at hl 0 rfl) ?_
  refine lv_iconst (v := (3 : Int32)) C.1 C.2.1 dX7_isTest_1 (by decide) ?_
  refine lv_icmp_lt (tgt := 15) C.1 C.2.1 dX7_isTest_2 (by decide) (fun c2 => ?_) (fun c2 => ?_)
  · replace hh := hh.1 c2
    exact tX7_isTest_b15 C hR hh hw (lv_sub hl [] rfl)
  · replace hh := hh.2 c2
    refine lv_iload_n C.1 C.2.1 dX7_isTest_5 rfl (lv_at hl 0 rfl) ?_
    refine lv_bipush (v := (8 : Int32)) C.1 C.2.1 dX7_isTest_6 (by decide) ?_
    refine lv_icmp_gt (tgt := 15) C.1 C.2.1 dX7_isTest_8 (by decide) (fun c8 => ?_) (fun c8 => ?_)
    · replace hh := hh.1 c8
      exact tX7_isTest_b15 C hR hh hw (lv_sub hl [] rfl)
    · replace hh := hh.2 c8
      refine lv_iconst (v := (1 : Int32)) C.1 C.2.1 dX7_isTest_11 (by decide) ?_
      refine lv_goto (tgt := 16) C.1 C.2.1 dX7_isTest_12 (by decide) ?_
      exact tX7_isTest_b16 C hR hh hw (lv_sub hl [] rfl)
theorem ctX7_isTest (l : Launch) (D : va_G) (x0 : Int32) {K : Int32 → Unit → Prop} (hh : wpX7_isTest x0 K) : Ci l yX7_isTest wsX7_isTest rmX7_isTest [.int x0] D [] (fun _ : Unit => []) () K := by
  refine Ci_of (cc := cX7_isTest) (maxL := 1) (by decide) rfl (Nat.le_of_ble_eq_true rfl) ?_
  intro p e s m below meth c A Q C hw hR ls hl
  exact tX7_isTest_b0 C hR hh hw hl
theorem cdX7_isTest : yX7_isTest.cls ≠ "java/lang/invoke/MethodHandle" ∧ yX7_isTest.cls ≠ "java/lang/invoke/VarHandle" ∧ (parseMethodDescriptor yX7_isTest.desc).map (fun d => d.parameters.length) = some 1 := by decide +kernel
abbrev rmX7_mostOf : Room := { frames := 0, cells := 0, slots := 0, locals := 0 }
set_option maxHeartbeats 4000000 in
set_option maxRecDepth 100000 in
theorem tX7_mostOf_b0 {K : Int32 → Unit → Prop} (C : CallFix p m c cX7_mostOf 1 s args wsX7_mostOf RX7) (hR : Rti .int p l e rmX7_mostOf s m args below meth c cX7_mostOf D A [] (fun _ : Unit => []) K Q) {x0 : Int32} (hh : wpX7_mostOf_b0 x0 K) {H : Heap} {locs : List Loc} {ls : Array Slot} (hw : Wd D A s [] [] H locs) (hl : lv_has ls 1 [(0, .int x0)]) : W p l e rmX7_mostOf s m args below meth c H locs 0 0 Q (F0 m 0 ls []) := by
  unfold wpX7_mostOf_b0 at hh
  refine lv_iload_n C.1 C.2.1 dX7_mostOf_0 rfl (lv_at hl 0 rfl) ?_
  refine sw_in (x := x0) (lo := 6) (hi := 10) (fun hlo hhi => ?_) (fun ho => ?_)
  · have hv : (x0).toInt = 6 ∨ (x0).toInt = 7 ∨ (x0).toInt = 8 ∨ (x0).toInt = 9 ∨ (x0).toInt = 10 := by omega
    rcases hv with hv | hv | hv | hv | hv
    · replace hh := hh.1 (sw_eq hv (by decide))
      refine lv_tableIn (off := 41) (tgt := 42) C.1 C.2.1 dX7_mostOf_1 hlo hhi (by rw [hv]; rfl) (by decide) ?_
      refine lv_iconst (v := (2 : Int32)) C.1 C.2.1 dX7_mostOf_42 (by decide) ?_
      exact hR _ _ _ () _ _ dX7_mostOf_43 rfl hh hw
    · replace hh := hh.2.1 (sw_eq hv (by decide))
      refine lv_tableIn (off := 38) (tgt := 39) C.1 C.2.1 dX7_mostOf_1 hlo hhi (by rw [hv]; rfl) (by decide) ?_
      refine lv_bipush (v := (99 : Int32)) C.1 C.2.1 dX7_mostOf_39 (by decide) ?_
      exact hR _ _ _ () _ _ dX7_mostOf_41 rfl hh hw
    · replace hh := hh.2.2.1 (sw_eq hv (by decide))
      refine lv_tableIn (off := 35) (tgt := 36) C.1 C.2.1 dX7_mostOf_1 hlo hhi (by rw [hv]; rfl) (by decide) ?_
      refine lv_bipush (v := (9 : Int32)) C.1 C.2.1 dX7_mostOf_36 (by decide) ?_
      exact hR _ _ _ () _ _ dX7_mostOf_38 rfl hh hw
    · replace hh := hh.2.2.2.1 (sw_eq hv (by decide))
      refine lv_tableIn (off := 41) (tgt := 42) C.1 C.2.1 dX7_mostOf_1 hlo hhi (by rw [hv]; rfl) (by decide) ?_
      refine lv_iconst (v := (2 : Int32)) C.1 C.2.1 dX7_mostOf_42 (by decide) ?_
      exact hR _ _ _ () _ _ dX7_mostOf_43 rfl hh hw
    · replace hh := hh.2.2.2.2.1 (sw_eq hv (by decide))
      refine lv_tableIn (off := 41) (tgt := 42) C.1 C.2.1 dX7_mostOf_1 hlo hhi (by rw [hv]; rfl) (by decide) ?_
      refine lv_iconst (v := (2 : Int32)) C.1 C.2.1 dX7_mostOf_42 (by decide) ?_
      exact hR _ _ _ () _ _ dX7_mostOf_43 rfl hh hw
  · replace hh := hh.2.2.2.2.2 ho
    refine lv_tableOut (tgt := 44) C.1 C.2.1 dX7_mostOf_1 ho (by decide) ?_
    refine lv_iconst (v := (-1 : Int32)) C.1 C.2.1 dX7_mostOf_44 (by decide) ?_
    exact hR _ _ _ () _ _ dX7_mostOf_45 rfl hh hw
theorem ctX7_mostOf (l : Launch) (D : va_G) (x0 : Int32) {K : Int32 → Unit → Prop} (hh : wpX7_mostOf x0 K) : Ci l yX7_mostOf wsX7_mostOf rmX7_mostOf [.int x0] D [] (fun _ : Unit => []) () K := by
  refine Ci_of (cc := cX7_mostOf) (maxL := 1) (by decide) rfl (Nat.le_of_ble_eq_true rfl) ?_
  intro p e s m below meth c A Q C hw hR ls hl
  exact tX7_mostOf_b0 C hR hh hw hl
theorem cdX7_mostOf : yX7_mostOf.cls ≠ "java/lang/invoke/MethodHandle" ∧ yX7_mostOf.cls ≠ "java/lang/invoke/VarHandle" ∧ (parseMethodDescriptor yX7_mostOf.desc).map (fun d => d.parameters.length) = some 1 := by decide +kernel
end
