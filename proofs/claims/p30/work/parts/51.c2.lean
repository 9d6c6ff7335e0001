section
variable {p : Program} {l : Launch} {e : Env} {s : State} {m : MethodId} {args : Array Value} {below : List Frame} {meth : Method} {c : Code} {D : va_G} {A : Nat → Prop} {h : Nat → Nat} {cI cL cF cM : ClassId} {Q : State → Prop}
abbrev rmX5_relayOf : Room := { frames := 0, cells := 0, slots := 0, locals := 0 }
set_option maxHeartbeats 4000000 in
set_option maxRecDepth 100000 in
theorem tX5_relayOf_b2_body {B2 : (Nat → Nat → Int32) → (Nat → Nat → Int64) → (Nat → Nat → Nat) → Int32 → Int32 → Prop} {K : Int32 → cS → Prop} (C : CallFix p m c cX5_relayOf 3 s args wsX5_relayOf RX5) (hR : Rti .int p l e rmX5_relayOf s m args below meth c cX5_relayOf D A (cT cI cL cF cM) (cWu h cI cL cF cM) K Q) (hB2 : ∀ (F : Nat → Nat → Int32) (L : Nat → Nat → Int64) (r : Nat → Nat → Nat) (x1 : Int32) (x2 : Int32) (H : Heap) (locs : List Loc) (ls : Array Slot), B2 F L r x1 x2 → Wd D A s (cT cI cL cF cM) (cW h cI cL cF cM F L r) H locs → lv_has ls 3 [(0, .ref (h 12)), (1, .int x1), (2, .int x2)] → W p l e rmX5_relayOf s m args below meth c H locs 0 0 Q (F0 m 2 ls [])) {F : Nat → Nat → Int32} {L : Nat → Nat → Int64} {r : Nat → Nat → Nat} {x1 : Int32} {x2 : Int32} (hh : wpX5_relayOf_b2_body B2 F L r x1 x2 K) {H : Heap} {locs : List Loc} {ls : Array Slot} (hw : Wd D A s (cT cI cL cF cM) (cW h cI cL cF cM F L r) H locs) (hl : lv_has ls 3 [(0, .ref (h 12)), (1, .int x1), (2, .int x2)]) : W p l e rmX5_relayOf s m args below meth c H locs 0 0 Q (F0 m 2 ls []) := by
  unfold wpX5_relayOf_b2_body at hh
  refine lv_iload_n C.1 C.2.1 dX5_relayOf_2 rfl (lv_at hl 2 rfl) ?_
  refine lv_aload_n C.1 C.2.1 dX5_relayOf_3 rfl (lv_at hl 0 rfl) ?_
  refine c_get C hw (inC inW5) (kd_lt kp12 (by decide)) (ce5 kp12) rfl 5 (by decide) (wc w_312) (v := .ref (h (r 12 5))) rfl dX5_relayOf_4 ?_
  obtain ⟨hk0, hh⟩ := hh
  refine c_get C hw (inC inW4) (kd_lt hk0 (by decide)) (ce4 hk0) rfl 0 (by decide) (wc w_281) (v := .int (F (r 12 5) 0)) rfl dX5_relayOf_7 ?_
  refine lv_icmp_ge (tgt := 31) C.1 C.2.1 dX5_relayOf_10 (by decide) (fun c10 => ?_) (fun c10 => ?_)
  · replace hh := hh.1 c10
    refine lv_iconst (v := (-1 : Int32)) C.1 C.2.1 dX5_relayOf_31 (by decide) ?_
    exact hR _ _ _ (F, L, r) _ _ dX5_relayOf_32 rfl hh hw
  · replace hh := hh.2 c10
    refine lv_aload_n C.1 C.2.1 dX5_relayOf_13 rfl (lv_at hl 0 rfl) ?_
    refine c_get C hw (inC inW5) (kd_lt kp12 (by decide)) (ce5 kp12) rfl 1 (by decide) (wc w_308) (v := .ref (h 13)) rfl dX5_relayOf_14 ?_
    refine lv_iload_n C.1 C.2.1 dX5_relayOf_17 rfl (lv_at hl 2 rfl) ?_
    obtain ⟨hi18, hh⟩ := hh
    refine c_ial C hw (kd_lt kp13 (by decide)) (ce16 kp13) hi18 dX5_relayOf_18 ?_
    refine lv_iload_n C.1 C.2.1 dX5_relayOf_19 rfl (lv_at hl 1 rfl) ?_
    refine lv_icmp_ne (tgt := 25) C.1 C.2.1 dX5_relayOf_20 (by decide) (fun c20 => ?_) (fun c20 => ?_)
    · replace hh := hh.1 c20
      refine lv_iinc (v := x2 + (1 : Int32)) (lv' := [(2, .int (x2 + (1 : Int32))), (0, .ref (h 12)), (1, .int x1)]) C.1 C.2.1 dX5_relayOf_25 hl (k := 2) rfl rfl (by decide) rfl (fun ls hl => ?_)
      refine lv_goto (tgt := 2) C.1 C.2.1 dX5_relayOf_28 (by decide) ?_
      exact hB2 _ _ _ _ _ _ _ _ hh hw (lv_sub hl [1, 2, 0] rfl)
    · replace hh := hh.2 c20
      refine lv_iload_n C.1 C.2.1 dX5_relayOf_23 rfl (lv_at hl 2 rfl) ?_
      exact hR _ _ _ (F, L, r) _ _ dX5_relayOf_24 rfl hh hw
theorem tX5_relayOf_b2 {K : Int32 → cS → Prop} (C : CallFix p m c cX5_relayOf 3 s args wsX5_relayOf RX5) (hR : Rti .int p l e rmX5_relayOf s m args below meth c cX5_relayOf D A (cT cI cL cF cM) (cWu h cI cL cF cM) K Q) (n : Nat) : ∀ (F : Nat → Nat → Int32) (L : Nat → Nat → Int64) (r : Nat → Nat → Nat) (x1 : Int32) (x2 : Int32) (H : Heap) (locs : List Loc) (ls : Array Slot), wpX5_relayOf_b2 n F L r x1 x2 K → Wd D A s (cT cI cL cF cM) (cW h cI cL cF cM F L r) H locs → lv_has ls 3 [(0, .ref (h 12)), (1, .int x1), (2, .int x2)] → W p l e rmX5_relayOf s m args below meth c H locs 0 0 Q (F0 m 2 ls []) := by
  induction n with
  | zero => intro F L r x1 x2 H locs ls hh; exact hh.elim
  | succ n ih => intro F L r x1 x2 H locs ls hh hw hl; exact tX5_relayOf_b2_body C hR ih hh hw hl
set_option maxHeartbeats 4000000 in
set_option maxRecDepth 100000 in
theorem tX5_relayOf_b0 {K : Int32 → cS → Prop} (C : CallFix p m c cX5_relayOf 3 s args wsX5_relayOf RX5) (hR : Rti .int p l e rmX5_relayOf s m args below meth c cX5_relayOf D A (cT cI cL cF cM) (cWu h cI cL cF cM) K Q) {F : Nat → Nat → Int32} {L : Nat → Nat → Int64} {r : Nat → Nat → Nat} {x1 : Int32} (hh : wpX5_relayOf_b0 F L r x1 K) {H : Heap} {locs : List Loc} {ls : Array Slot} (hw : Wd D A s (cT cI cL cF cM) (cW h cI cL cF cM F L r) H locs) (hl : lv_has ls 3 [(0, .ref (h 12)), (1, .int x1)]) : W p l e rmX5_relayOf s m args below meth c H locs 0 0 Q (F0 m 0 ls []) := by
  unfold wpX5_relayOf_b0 at hh
  refine lv_iconst (v := (0 : Int32)) C.1 C.2.1 dX5_relayOf_0 (by decide) ?_
  refine lv_istore_n (lv' := [(2, .int (0 : Int32)), (0, .ref (h 12)), (1, .int x1)]) C.1 C.2.1 dX5_relayOf_1 rfl hl (by decide) rfl (fun ls hl => ?_)
  obtain ⟨n, hh⟩ := hh
  exact tX5_relayOf_b2 C hR n _ _ _ _ _ _ _ _ hh hw (lv_sub hl [1, 2, 0] rfl)
theorem ctX5_relayOf (l : Launch) (D : va_G) (h : Nat → Nat) (cI cL cF cM : ClassId) (F : Nat → Nat → Int32) (L : Nat → Nat → Int64) (r : Nat → Nat → Nat) (x1 : Int32) {K : Int32 → cS → Prop} (hh : wpX5_relayOf F L r x1 K) : Ci l yX5_relayOf wsX5_relayOf rmX5_relayOf [.ref (h 12), .int x1] D (cT cI cL cF cM) (cWu h cI cL cF cM) (F, L, r) K := by
  refine Ci_of (cc := cX5_relayOf) (maxL := 3) (by decide) rfl (Nat.le_of_ble_eq_true rfl) ?_
  intro p e s m below meth c A Q C hw hR ls hl
  exact tX5_relayOf_b0 C hR hh hw hl
theorem cdX5_relayOf : yX5_relayOf.cls = RX5 ∧ yX5_relayOf.cls ≠ "java/lang/invoke/MethodHandle" ∧ yX5_relayOf.cls ≠ "java/lang/invoke/VarHandle" ∧ (parseMethodDescriptor yX5_relayOf.desc).map (fun d => d.parameters.length) = some 1 := by decide +kernel
abbrev rmX5_readRelay : Room := { frames := 1, cells := 0, slots := 0, locals := 22 }
set_option maxHeartbeats 4000000 in
set_option maxRecDepth 100000 in
theorem tX5_readRelay_b0 {K : Int32 → cS → Prop} (C : CallFix p m c cX5_readRelay 1 s args wsX5_readRelay RX5) (hR : Rti .int p l e rmX5_readRelay s m args below meth c cX5_readRelay D A (cT cI cL cF cM) (cWu h cI cL cF cM) K Q) {F : Nat → Nat → Int32} {L : Nat → Nat → Int64} {r : Nat → Nat → Nat} (hh : wpX5_readRelay_b0 F L r K) {H : Heap} {locs : List Loc} {ls : Array Slot} (hw : Wd D A s (cT cI cL cF cM) (cW h cI cL cF cM F L r) H locs) (hl : lv_has ls 1 [(0, .ref (h 12))]) : W p l e rmX5_readRelay s m args below meth c H locs 0 0 Q (F0 m 0 ls []) := by
  unfold wpX5_readRelay_b0 at hh
  refine lv_aload_n C.1 C.2.1 dX5_readRelay_0 rfl (lv_at hl 0 rfl) ?_
  refine c_get C hw (inC inW5) (kd_lt kp12 (by decide)) (ce5 kp12) rfl 5 (by decide) (wc w_312) (v := .ref (h (r 12 5))) rfl dX5_readRelay_1 ?_
  obtain ⟨hk0, hh⟩ := hh
  refine c_get C hw (inC inW4) (kd_lt hk0 (by decide)) (ce4 hk0) rfl 0 (by decide) (wc w_281) (v := .int (F (r 12 5) 0)) rfl dX5_readRelay_4 ?_
  refine lv_bipush (v := (20 : Int32)) C.1 C.2.1 dX5_readRelay_7 (by decide) ?_
  refine lv_icmp_lt (tgt := 29) C.1 C.2.1 dX5_readRelay_9 (by decide) (fun c9 => ?_) (fun c9 => ?_)
  · replace hh := hh.1 c9
    refine lv_aload_n C.1 C.2.1 dX5_readRelay_29 rfl (lv_at hl 0 rfl) ?_
    refine c_get C hw (inC inW5) (kd_lt kp12 (by decide)) (ce5 kp12) rfl 0 (by decide) (wc w_307) (v := .ref (h 4)) rfl dX5_readRelay_30 ?_
    refine c_Vv C hw (ctX9_advance l D h cI cL cF cM F L r hh) (cwV 0 C.2.2.2.2 (gd_V w_839 w_728 w_729 w_115 w_730) rfl rfl rfl cdX9_advance ⟨Nat.le_of_ble_eq_true rfl, Nat.le_of_ble_eq_true rfl⟩) rfl (kd_lt kp4 (by decide)) (ce9 kp4) rfl hl.1 (Nat.le_of_ble_eq_true rfl) dX5_readRelay_33 ⟨Nat.zero_le _, Nat.zero_le _⟩ (fun u33 H locs hh hw => ?_) rfl
    refine lv_aload_n C.1 C.2.1 dX5_readRelay_36 rfl (lv_at hl 0 rfl) ?_
    refine c_Vi C hw (ctX5_isName l D h cI cL cF cM u33.1 u33.2.1 u33.2.2 hh) (cwV 0 C.2.2.2.2 (gd_V w_840 w_842 w_17 w_118 w_843) rfl rfl rfl cdX5_isName ⟨Nat.le_of_ble_eq_true rfl, Nat.le_of_ble_eq_true rfl⟩) rfl (kd_lt kp12 (by decide)) (ce5 kp12) rfl hl.1 (Nat.le_of_ble_eq_true rfl) dX5_readRelay_37 ⟨Nat.zero_le _, Nat.zero_le _⟩ (fun r37 u37 H locs hh hw => ?_) rfl
    refine lv_if_ne (tgt := 60) C.1 C.2.1 dX5_readRelay_40 (by decide) (fun c40 => ?_) (fun c40 => ?_)
    · replace hh := hh.1 c40
      refine lv_aload_n C.1 C.2.1 dX5_readRelay_60 rfl (lv_at hl 0 rfl) ?_
      refine lv_aload_n C.1 C.2.1 dX5_readRelay_61 rfl (lv_at hl 0 rfl) ?_
      refine c_get C hw (inC inW5) (kd_lt kp12 (by decide)) (ce5 kp12) rfl 0 (by decide) (wc w_307) (v := .ref (h 4)) rfl dX5_readRelay_62 ?_
      refine c_get C hw (inC inW9) (kd_lt kp4 (by decide)) (ce9 kp4) rfl 5 (by decide) (wc w_167) (v := .int (u37.1 4 5)) rfl dX5_readRelay_65 ?_
      refine c_Vi C hw (ctX5_relayOf l D h cI cL cF cM u37.1 u37.2.1 u37.2.2 (u37.1 4 5) hh) (cwV 1 C.2.2.2.2 (gd_V w_844 w_846 w_18 w_118 w_847) rfl rfl rfl cdX5_relayOf ⟨Nat.le_of_ble_eq_true rfl, Nat.le_of_ble_eq_true rfl⟩) rfl (kd_lt kp12 (by decide)) (ce5 kp12) rfl hl.1 (Nat.le_of_ble_eq_true rfl) dX5_readRelay_68 ⟨Nat.zero_le _, Nat.zero_le _⟩ (fun r68 u68 H locs hh hw => ?_) rfl
      refine lv_iconst (v := (-1 : Int32)) C.1 C.2.1 dX5_readRelay_71 (by decide) ?_
      refine lv_icmp_eq (tgt := 92) C.1 C.2.1 dX5_readRelay_72 (by decide) (fun c72 => ?_) (fun c72 => ?_)
      · replace hh := hh.1 c72
        refine lv_aload_n C.1 C.2.1 dX5_readRelay_92 rfl (lv_at hl 0 rfl) ?_
        refine c_get C hw (inC inW5) (kd_lt kp12 (by decide)) (ce5 kp12) rfl 1 (by decide) (wc w_308) (v := .ref (h 13)) rfl dX5_readRelay_93 ?_
        refine lv_aload_n C.1 C.2.1 dX5_readRelay_96 rfl (lv_at hl 0 rfl) ?_
        refine c_get C hw (inC inW5) (kd_lt kp12 (by decide)) (ce5 kp12) rfl 5 (by decide) (wc w_312) (v := .ref (h (u68.2.2 12 5))) rfl dX5_readRelay_97 ?_
        obtain ⟨hk1, hh⟩ := hh
        refine c_get C hw (inC inW4) (kd_lt hk1 (by decide)) (ce4 hk1) rfl 0 (by decide) (wc w_281) (v := .int (u68.1 (u68.2.2 12 5) 0)) rfl dX5_readRelay_100 ?_
        refine lv_aload_n C.1 C.2.1 dX5_readRelay_103 rfl (lv_at hl 0 rfl) ?_
        refine c_get C hw (inC inW5) (kd_lt kp12 (by decide)) (ce5 kp12) rfl 0 (by decide) (wc w_307) (v := .ref (h 4)) rfl dX5_readRelay_104 ?_
        refine c_get C hw (inC inW9) (kd_lt kp4 (by decide)) (ce9 kp4) rfl 5 (by decide) (wc w_167) (v := .int (u68.1 4 5)) rfl dX5_readRelay_107 ?_
        obtain ⟨hi110, hh⟩ := hh
        refine c_ias C hw (kd_lt kp13 (by decide)) (ce16 kp13) hi110 dX5_readRelay_110 (fun H locs hw => ?_)
        refine lv_aload_n C.1 C.2.1 dX5_readRelay_111 rfl (lv_at hl 0 rfl) ?_
        refine c_get C hw (inC inW5) (kd_lt kp12 (by decide)) (ce5 kp12) rfl 5 (by decide) (wc w_312) (v := .ref (h (u68.2.2 12 5))) rfl dX5_readRelay_112 ?_
        refine lv_dup C.1 C.2.1 dX5_readRelay_115 rfl ?_
        obtain ⟨hk2, hh⟩ := hh
        refine c_get C hw (inC inW4) (kd_lt hk2 (by decide)) (ce4 hk2) rfl 0 (by decide) (wc w_281) (v := .int ((pt u68.1 13 (ix (u68.1 (u68.2.2 12 5) 0)) (u68.1 4 5)) (u68.2.2 12 5) 0)) rfl dX5_readRelay_116 ?_
        refine lv_iconst (v := (1 : Int32)) C.1 C.2.1 dX5_readRelay_119 (by decide) ?_
        refine lv_iadd C.1 C.2.1 dX5_readRelay_120 ?_
        refine c_puti C hw (inC inW4) tyX4 tyX4_ok nmX4 (kd_lt hk2 (by decide)) (ce4 hk2) rfl 0 (by decide) (wc w_281) rfl (ty := .int) (by decide +kernel) rfl rfl (Nat.le_of_ble_eq_true rfl) rfl dX5_readRelay_121 (fun H locs hw => ?_)
        refine lv_aload_n C.1 C.2.1 dX5_readRelay_124 rfl (lv_at hl 0 rfl) ?_
        refine c_get C hw (inC inW5) (kd_lt kp12 (by decide)) (ce5 kp12) rfl 5 (by decide) (wc w_312) (v := .ref (h (u68.2.2 12 5))) rfl dX5_readRelay_125 ?_
        obtain ⟨hk3, hh⟩ := hh
        refine c_get C hw (inC inW4) (kd_lt hk3 (by decide)) (ce4 hk3) rfl 0 (by decide) (wc w_281) (v := .int ((pt (pt u68.1 13 (ix (u68.1 (u68.2.2 12 5) 0)) (u68.1 4 5)) (u68.2.2 12 5) 0 (((pt u68.1 13 (ix (u68.1 (u68.2.2 12 5) 0)) (u68.1 4 5)) (u68.2.2 12 5) 0) + (1 : Int32))) (u68.2.2 12 5) 0)) rfl dX5_readRelay_128 ?_
        refine lv_iconst (v := (1 : Int32)) C.1 C.2.1 dX5_readRelay_131 (by decide) ?_
        refine lv_isub C.1 C.2.1 dX5_readRelay_132 ?_
        exact hR _ _ _ (pt (pt u68.1 13 (ix (u68.1 (u68.2.2 12 5) 0)) (u68.1 4 5)) (u68.2.2 12 5) 0 (((pt u68.1 13 (ix (u68.1 (u68.2.2 12 5) 0)) (u68.1 4 5)) (u68.2.2 12 5) 0) + (1 : Int32)), u68.2.1, u68.2.2) _ _ dX5_readRelay_133 rfl hh hw
      · replace hh := hh.2 c72
        refine lv_aload_n C.1 C.2.1 dX5_readRelay_75 rfl (lv_at hl 0 rfl) ?_
        refine c_get C hw (inC inW5) (kd_lt kp12 (by decide)) (ce5 kp12) rfl 0 (by decide) (wc w_307) (v := .ref (h 4)) rfl dX5_readRelay_76 ?_
        refine lv_iconst (v := (3 : Int32)) C.1 C.2.1 dX5_readRelay_79 (by decide) ?_
        refine lv_aload_n C.1 C.2.1 dX5_readRelay_80 rfl (lv_at hl 0 rfl) ?_
        refine c_get C hw (inC inW5) (kd_lt kp12 (by decide)) (ce5 kp12) rfl 0 (by decide) (wc w_307) (v := .ref (h 4)) rfl dX5_readRelay_81 ?_
        refine c_get C hw (inC inW9) (kd_lt kp4 (by decide)) (ce9 kp4) rfl 4 (by decide) (wc w_164) (v := .int (u68.1 4 4)) rfl dX5_readRelay_84 ?_
        refine c_Vv C hw (ctX9_refuse l D h cI cL cF cM u68.1 u68.2.1 u68.2.2 (3 : Int32) (u68.1 4 4) hh) (cwV 2 C.2.2.2.2 (gd_V w_838 w_736 w_737 w_115 w_738) rfl rfl rfl cdX9_refuse ⟨Nat.le_of_ble_eq_true rfl, Nat.le_of_ble_eq_true rfl⟩) rfl (kd_lt kp4 (by decide)) (ce9 kp4) rfl hl.1 (Nat.le_of_ble_eq_true rfl) dX5_readRelay_87 ⟨Nat.zero_le _, Nat.zero_le _⟩ (fun u87 H locs hh hw => ?_) rfl
        refine lv_iconst (v := (-1 : Int32)) C.1 C.2.1 dX5_readRelay_90 (by decide) ?_
        exact hR _ _ _ (u87.1, u87.2.1, u87.2.2) _ _ dX5_readRelay_91 rfl hh hw
    · replace hh := hh.2 c40
      refine lv_aload_n C.1 C.2.1 dX5_readRelay_43 rfl (lv_at hl 0 rfl) ?_
      refine c_get C hw (inC inW5) (kd_lt kp12 (by decide)) (ce5 kp12) rfl 0 (by decide) (wc w_307) (v := .ref (h 4)) rfl dX5_readRelay_44 ?_
      refine lv_iconst (v := (1 : Int32)) C.1 C.2.1 dX5_readRelay_47 (by decide) ?_
      refine lv_aload_n C.1 C.2.1 dX5_readRelay_48 rfl (lv_at hl 0 rfl) ?_
      refine c_get C hw (inC inW5) (kd_lt kp12 (by decide)) (ce5 kp12) rfl 0 (by decide) (wc w_307) (v := .ref (h 4)) rfl dX5_readRelay_49 ?_
      refine c_get C hw (inC inW9) (kd_lt kp4 (by decide)) (ce9 kp4) rfl 4 (by decide) (wc w_164) (v := .int (u37.1 4 4)) rfl dX5_readRelay_52 ?_
      refine c_Vv C hw (ctX9_refuse l D h cI cL cF cM u37.1 u37.2.1 u37.2.2 (1 : Int32) (u37.1 4 4) hh) (cwV 2 C.2.2.2.2 (gd_V w_838 w_736 w_737 w_115 w_738) rfl rfl rfl cdX9_refuse ⟨Nat.le_of_ble_eq_true rfl, Nat.le_of_ble_eq_true rfl⟩) rfl (kd_lt kp4 (by decide)) (ce9 kp4) rfl hl.1 (Nat.le_of_ble_eq_true rfl) dX5_readRelay_55 ⟨Nat.zero_le _, Nat.zero_le _⟩ (fun u55 H locs hh hw => ?_) rfl
      refine lv_iconst (v := (-1 : Int32)) C.1 C.2.1 dX5_readRelay_58 (by decide) ?_
      exact hR _ _ _ (u55.1, u55.2.1, u55.2.2) _ _ dX5_readRelay_59 rfl hh hw
  · replace hh := hh.2 c9
    refine lv_aload_n C.1 C.2.1 dX5_readRelay_12 rfl (lv_at hl 0 rfl) ?_
    refine c_get C hw (inC inW5) (kd_lt kp12 (by decide)) (ce5 kp12) rfl 0 (by decide) (wc w_307) (v := .ref (h 4)) rfl dX5_readRelay_13 ?_
    refine lv_iconst (v := (2 : Int32)) C.1 C.2.1 dX5_readRelay_16 (by decide) ?_
    refine lv_aload_n C.1 C.2.1 dX5_readRelay_17 rfl (lv_at hl 0 rfl) ?_
    refine c_get C hw (inC inW5) (kd_lt kp12 (by decide)) (ce5 kp12) rfl 0 (by decide) (wc w_307) (v := .ref (h 4)) rfl dX5_readRelay_18 ?_
    refine c_get C hw (inC inW9) (kd_lt kp4 (by decide)) (ce9 kp4) rfl 4 (by decide) (wc w_164) (v := .int (F 4 4)) rfl dX5_readRelay_21 ?_
    refine c_Vv C hw (ctX9_refuse l D h cI cL cF cM F L r (2 : Int32) (F 4 4) hh) (cwV 2 C.2.2.2.2 (gd_V w_838 w_736 w_737 w_115 w_738) rfl rfl rfl cdX9_refuse ⟨Nat.le_of_ble_eq_true rfl, Nat.le_of_ble_eq_true rfl⟩) rfl (kd_lt kp4 (by decide)) (ce9 kp4) rfl hl.1 (Nat.le_of_ble_eq_true rfl) dX5_readRelay_24 ⟨Nat.zero_le _, Nat.zero_le _⟩ (fun u24 H locs hh hw => ?_) rfl
    refine lv_iconst (v := (-1 : Int32)) C.1 C.2.1 dX5_readRelay_27 (by decide) ?_
    exact hR _ _ _ (u24.1, u24.2.1, u24.2.2) _ _ dX5_readRelay_28 rfl hh hw
theorem ctX5_readRelay (l : Launch) (D : va_G) (h : Nat → Nat) (cI cL cF cM : ClassId) (F : Nat → Nat → Int32) (L : Nat → Nat → Int64) (r : Nat → Nat → Nat) {K : Int32 → cS → Prop} (hh : wpX5_readRelay F L r K) : Ci l yX5_readRelay wsX5_readRelay rmX5_readRelay [.ref (h 12)] D (cT cI cL cF cM) (cWu h cI cL cF cM) (F, L, r) K := by
  refine Ci_of (cc := cX5_readRelay) (maxL := 1) (by decide) rfl (Nat.le_of_ble_eq_true rfl) ?_
  intro p e s m below meth c A Q C hw hR ls hl
  exact tX5_readRelay_b0 C hR hh hw hl
theorem cdX5_readRelay : yX5_readRelay.cls = RX5 ∧ yX5_readRelay.cls ≠ "java/lang/invoke/MethodHandle" ∧ yX5_readRelay.cls ≠ "java/lang/invoke/VarHandle" ∧ (parseMethodDescriptor yX5_readRelay.desc).map (fun d => d.parameters.length) = some 0 := by decide +kernel
abbrev rmX4_placeOfOutput : Room := { frames := 0, cells := 0, slots := 0, locals := 0 }
set_option maxHeartbeats 4000000 in
set_option maxRecDepth 100000 in
theorem tX4_placeOfOutput_b0 {K : Int32 → Unit → Prop} (C : CallFix p m c cX4_placeOfOutput 1 s args wsX4_placeOfOutput RX4) (hR : Rti .int p l e rmX4_placeOfOutput s m args below meth c cX4_placeOfOutput D A [] (fun _ : Unit => []) K Q) {x0 : Int32} (hh : wpX4_placeOfOutput_b0 x0 K) {H : Heap} {locs : List Loc} {ls : Array Slot} (hw : Wd D A s [] [] H locs) (hl : lv_has ls 1 [(0, .int x0)]) : W p l e rmX4_placeOfOutput s m args below meth c H locs 0 0 Q (F0 m 0 ls []) := by
  unfold wpX4_placeOfOutput_b0 at hh
  refine lv_bipush (v := (20 : Int32)) C.1 C.2.1 dX4_placeOfOutput_0 (by decide) ?_
  refine lv_iload_n C.1 C.2.1 dX4_placeOfOutput_2 rfl (lv_at hl 0 rfl) ?_
  refine lv_iadd C.1 C.2.1 dX4_placeOfOutput_3 ?_
  refine lv_iconst (v := (1 : Int32)) C.1 C.2.1 dX4_placeOfOutput_4 (by decide) ?_
  refine lv_isub C.1 C.2.1 dX4_placeOfOutput_5 ?_
  exact hR _ _ _ () _ _ dX4_placeOfOutput_6 rfl hh hw
theorem ctX4_placeOfOutput (l : Launch) (D : va_G) (x0 : Int32) {K : Int32 → Unit → Prop} (hh : wpX4_placeOfOutput x0 K) : Ci l yX4_placeOfOutput wsX4_placeOfOutput rmX4_placeOfOutput [.int x0] D [] (fun _ : Unit => []) () K := by
  refine Ci_of (cc := cX4_placeOfOutput) (maxL := 1) (by decide) rfl (Nat.le_of_ble_eq_true rfl) ?_
  intro p e s m below meth c A Q C hw hR ls hl
  exact tX4_placeOfOutput_b0 C hR hh hw hl
theorem cdX4_placeOfOutput : yX4_placeOfOutput.cls ≠ "java/lang/invoke/MethodHandle" ∧ yX4_placeOfOutput.cls ≠ "java/lang/invoke/VarHandle" ∧ (parseMethodDescriptor yX4_placeOfOutput.desc).map (fun d => d.parameters.length) = some 1 := by decide +kernel
abbrev rmX5_readTarget : Room := { frames := 2, cells := 0, slots := 0, locals := 42 }
set_option maxHeartbeats 4000000 in
set_option maxRecDepth 100000 in
theorem tX5_readTarget_b27 {K : Int32 → cS → Prop} (C : CallFix p m c cX5_readTarget 2 s args wsX5_readTarget RX5) (hR : Rti .int p l e rmX5_readTarget s m args below meth c cX5_readTarget D A (cT cI cL cF cM) (cWu h cI cL cF cM) K Q) {F : Nat → Nat → Int32} {L : Nat → Nat → Int64} {r : Nat → Nat → Nat} (hh : wpX5_readTarget_b27 F L r K) {H : Heap} {locs : List Loc} {ls : Array Slot} (hw : Wd D A s (cT cI cL cF cM) (cW h cI cL cF cM F L r) H locs) (hl : lv_has ls 2 [(0, .ref (h 12))]) : W p l e rmX5_readTarget s m args below meth c H locs 0 0 Q (F0 m 27 ls []) := by
  unfold wpX5_readTarget_b27 at hh
  refine lv_aload_n C.1 C.2.1 dX5_readTarget_27 rfl (lv_at hl 0 rfl) ?_
  refine c_get C hw (inC inW5) (kd_lt kp12 (by decide)) (ce5 kp12) rfl 0 (by decide) (wc w_307) (v := .ref (h 4)) rfl dX5_readTarget_28 ?_
  refine lv_iconst (v := (1 : Int32)) C.1 C.2.1 dX5_readTarget_31 (by decide) ?_
  refine lv_aload_n C.1 C.2.1 dX5_readTarget_32 rfl (lv_at hl 0 rfl) ?_
  refine c_get C hw (inC inW5) (kd_lt kp12 (by decide)) (ce5 kp12) rfl 0 (by decide) (wc w_307) (v := .ref (h 4)) rfl dX5_readTarget_33 ?_
  refine c_get C hw (inC inW9) (kd_lt kp4 (by decide)) (ce9 kp4) rfl 4 (by decide) (wc w_164) (v := .int (F 4 4)) rfl dX5_readTarget_36 ?_
  refine c_Vv C hw (ctX9_refuse l D h cI cL cF cM F L r (1 : Int32) (F 4 4) hh) (cwV 2 C.2.2.2.2 (gd_V w_838 w_736 w_737 w_115 w_738) rfl rfl rfl cdX9_refuse ⟨Nat.le_of_ble_eq_true rfl, Nat.le_of_ble_eq_true rfl⟩) rfl (kd_lt kp4 (by decide)) (ce9 kp4) rfl hl.1 (Nat.le_of_ble_eq_true rfl) dX5_readTarget_39 ⟨Nat.zero_le _, Nat.zero_le _⟩ (fun u39 H locs hh hw => ?_) rfl
  refine lv_iconst (v := (-1 : Int32)) C.1 C.2.1 dX5_readTarget_42 (by decide) ?_
  exact hR _ _ _ (u39.1, u39.2.1, u39.2.2) _ _ dX5_readTarget_43 rfl hh hw
set_option maxHeartbeats 4000000 in
set_option maxRecDepth 100000 in
theorem tX5_readTarget_b0 {K : Int32 → cS → Prop} (C : CallFix p m c cX5_readTarget 2 s args wsX5_readTarget RX5) (hR : Rti .int p l e rmX5_readTarget s m args below meth c cX5_readTarget D A (cT cI cL cF cM) (cWu h cI cL cF cM) K Q) {F : Nat → Nat → Int32} {L : Nat → Nat → Int64} {r : Nat → Nat → Nat} (hh : wpX5_readTarget_b0 F L r K) {H : Heap} {locs : List Loc} {ls : Array Slot} (hw : Wd D A s (cT cI cL cF cM) (cW h cI cL cF cM F L r) H locs) (hl : lv_has ls 2 [(0, .ref (h 12))]) : W p l e rmX5_readTarget s m args below meth c H locs 0 0 Q (F0 m 0 ls []) := by
  unfold wpX5_readTarget_b0 at hh
  refine lv_aload_n C.1 C.2.1 dX5_readTarget_0 rfl (lv_at hl 0 rfl) ?_
  refine c_get C hw (inC inW5) (kd_lt kp12 (by decide)) (ce5 kp12) rfl 0 (by decide) (wc w_307) (v := .ref (h 4)) rfl dX5_readTarget_1 ?_
  refine c_get C hw (inC inW9) (kd_lt kp4 (by decide)) (ce9 kp4) rfl 6 (by decide) (wc w_171) (v := .int (F 4 6)) rfl dX5_readTarget_4 ?_
  refine lv_istore_n (lv' := [(1, .int (F 4 6)), (0, .ref (h 12))]) C.1 C.2.1 dX5_readTarget_7 rfl hl (by decide) rfl (fun ls hl => ?_)
  refine lv_iload_n C.1 C.2.1 dX5_readTarget_8 rfl (lv_at hl 0 rfl) ?_
  refine lv_if_ne (tgt := 17) C.1 C.2.1 dX5_readTarget_9 (by decide) (fun c9 => ?_) (fun c9 => ?_)
  · replace hh := hh.1 c9
    refine lv_iload_n C.1 C.2.1 dX5_readTarget_17 rfl (lv_at hl 0 rfl) ?_
    refine lv_iconst (v := (1 : Int32)) C.1 C.2.1 dX5_readTarget_18 (by decide) ?_
    refine lv_icmp_lt (tgt := 27) C.1 C.2.1 dX5_readTarget_19 (by decide) (fun c19 => ?_) (fun c19 => ?_)
    · replace hh := hh.1 c19
      exact tX5_readTarget_b27 C hR hh hw (lv_sub hl [1] rfl)
    · replace hh := hh.2 c19
      refine lv_iload_n C.1 C.2.1 dX5_readTarget_22 rfl (lv_at hl 0 rfl) ?_
      refine lv_iconst (v := (4 : Int32)) C.1 C.2.1 dX5_readTarget_23 (by decide) ?_
      refine lv_icmp_le (tgt := 44) C.1 C.2.1 dX5_readTarget_24 (by decide) (fun c24 => ?_) (fun c24 => ?_)
      · replace hh := hh.1 c24
        refine lv_aload_n C.1 C.2.1 dX5_readTarget_44 rfl (lv_at hl 1 rfl) ?_
        refine c_get C hw (inC inW5) (kd_lt kp12 (by decide)) (ce5 kp12) rfl 6 (by decide) (wc w_313) (v := .int (F 12 6)) rfl dX5_readTarget_45 ?_
        refine lv_iload_n C.1 C.2.1 dX5_readTarget_48 rfl (lv_at hl 0 rfl) ?_
        refine g_ishr C dX5_readTarget_49 ?_
        refine lv_iconst (v := (1 : Int32)) C.1 C.2.1 dX5_readTarget_50 (by decide) ?_
        refine lv_iand C.1 C.2.1 dX5_readTarget_51 ?_
        refine lv_if_eq (tgt := 72) C.1 C.2.1 dX5_readTarget_52 (by decide) (fun c52 => ?_) (fun c52 => ?_)
        · replace hh := hh.1 c52
          refine lv_aload_n C.1 C.2.1 dX5_readTarget_72 rfl (lv_at hl 1 rfl) ?_
          refine lv_dup C.1 C.2.1 dX5_readTarget_73 rfl ?_
          refine c_get C hw (inC inW5) (kd_lt kp12 (by decide)) (ce5 kp12) rfl 6 (by decide) (wc w_313) (v := .int (F 12 6)) rfl dX5_readTarget_74 ?_
          refine lv_iconst (v := (1 : Int32)) C.1 C.2.1 dX5_readTarget_77 (by decide) ?_
          refine lv_iload_n C.1 C.2.1 dX5_readTarget_78 rfl (lv_at hl 0 rfl) ?_
          refine g_ishl C dX5_readTarget_79 ?_
          refine lv_ior C.1 C.2.1 dX5_readTarget_80 ?_
          refine c_puti C hw (inC inW5) tyX5 tyX5_ok nmX5 (kd_lt kp12 (by decide)) (ce5 kp12) rfl 6 (by decide) (wc w_313) rfl (ty := .int) (by decide +kernel) rfl rfl (Nat.le_of_ble_eq_true rfl) rfl dX5_readTarget_81 (fun H locs hw => ?_)
          refine lv_iload_n C.1 C.2.1 dX5_readTarget_84 rfl (lv_at hl 0 rfl) ?_
          refine wd_Si C hw (ctX4_placeOfOutput l D (F 4 6) hh) (va_cwS 1 C.2.2.2.2 (gd_S w_848 w_849 (ini_cls rfl w_119) w_850) rfl rfl rfl cdX4_placeOfOutput ⟨Nat.le_of_ble_eq_true rfl, Nat.le_of_ble_eq_true rfl⟩) rfl hl.1 (Nat.le_of_ble_eq_true rfl) dX5_readTarget_85 ⟨Nat.zero_le _, Nat.zero_le _⟩ (fun r85 H locs hh hw => ?_) rfl
          exact hR _ _ _ (pt F 12 6 ((F 12 6) ||| (jshl (1 : Int32) (F 4 6))), L, r) _ _ dX5_readTarget_88 rfl hh hw
        · replace hh := hh.2 c52
          refine lv_aload_n C.1 C.2.1 dX5_readTarget_55 rfl (lv_at hl 1 rfl) ?_
          refine c_get C hw (inC inW5) (kd_lt kp12 (by decide)) (ce5 kp12) rfl 0 (by decide) (wc w_307) (v := .ref (h 4)) rfl dX5_readTarget_56 ?_
          refine lv_iconst (v := (3 : Int32)) C.1 C.2.1 dX5_readTarget_59 (by decide) ?_
          refine lv_aload_n C.1 C.2.1 dX5_readTarget_60 rfl (lv_at hl 1 rfl) ?_
          refine c_get C hw (inC inW5) (kd_lt kp12 (by decide)) (ce5 kp12) rfl 0 (by decide) (wc w_307) (v := .ref (h 4)) rfl dX5_readTarget_61 ?_
          refine c_get C hw (inC inW9) (kd_lt kp4 (by decide)) (ce9 kp4) rfl 4 (by decide) (wc w_164) (v := .int (F 4 4)) rfl dX5_readTarget_64 ?_
          refine c_Vv C hw (ctX9_refuse l D h cI cL cF cM F L r (3 : Int32) (F 4 4) hh) (cwV 2 C.2.2.2.2 (gd_V w_838 w_736 w_737 w_115 w_738) rfl rfl rfl cdX9_refuse ⟨Nat.le_of_ble_eq_true rfl, Nat.le_of_ble_eq_true rfl⟩) rfl (kd_lt kp4 (by decide)) (ce9 kp4) rfl hl.1 (Nat.le_of_ble_eq_true rfl) dX5_readTarget_67 ⟨Nat.zero_le _, Nat.zero_le _⟩ (fun u67 H locs hh hw => ?_) rfl
          refine lv_iconst (v := (-1 : Int32)) C.1 C.2.1 dX5_readTarget_70 (by decide) ?_
          exact hR _ _ _ (u67.1, u67.2.1, u67.2.2) _ _ dX5_readTarget_71 rfl hh hw
      · replace hh := hh.2 c24
        exact tX5_readTarget_b27 C hR hh hw (lv_sub hl [1] rfl)
  · replace hh := hh.2 c9
    refine lv_aload_n C.1 C.2.1 dX5_readTarget_12 rfl (lv_at hl 1 rfl) ?_
    refine c_Vi C hw (ctX5_readRelay l D h cI cL cF cM F L r hh) (cwV 0 C.2.2.2.2 (gd_V w_834 w_836 w_16 w_118 w_837) rfl rfl rfl cdX5_readRelay ⟨Nat.le_of_ble_eq_true rfl, Nat.le_of_ble_eq_true rfl⟩) rfl (kd_lt kp12 (by decide)) (ce5 kp12) rfl hl.1 (Nat.le_of_ble_eq_true rfl) dX5_readTarget_13 ⟨Nat.zero_le _, Nat.zero_le _⟩ (fun r13 u13 H locs hh hw => ?_) rfl
    exact hR _ _ _ (u13.1, u13.2.1, u13.2.2) _ _ dX5_readTarget_16 rfl hh hw
theorem ctX5_readTarget (l : Launch) (D : va_G) (h : Nat → Nat) (cI cL cF cM : ClassId) (F : Nat → Nat → Int32) (L : Nat → Nat → Int64) (r : Nat → Nat → Nat) {K : Int32 → cS → Prop} (hh : wpX5_readTarget F L r K) : Ci l yX5_readTarget wsX5_readTarget rmX5_readTarget [.ref (h 12)] D (cT cI cL cF cM) (cWu h cI cL cF cM) (F, L, r) K := by
  refine Ci_of (cc := cX5_readTarget) (maxL := 2) (by decide) rfl (Nat.le_of_ble_eq_true rfl) ?_
  intro p e s m below meth c A Q C hw hR ls hl
  exact tX5_readTarget_b0 C hR hh hw hl
theorem cdX5_readTarget : yX5_readTarget.cls = RX5 ∧ yX5_readTarget.cls ≠ "java/lang/invoke/MethodHandle" ∧ yX5_readTarget.cls ≠ "java/lang/invoke/VarHandle" ∧ (parseMethodDescriptor yX5_readTarget.desc).map (fun d => d.parameters.length) = some 0 := by decide +kernel
abbrev rmX5_await : Room := { frames := 0, cells := 0, slots := 0, locals := 0 }
set_option maxHeartbeats 4000000 in
set_option maxRecDepth 100000 in
theorem tX5_await_b32 {K : cS → Prop} (C : CallFix p m c cX5_await 2 s args wsX5_await RX5) (hR : Rtv p l e rmX5_await s m args below meth c cX5_await D A (cT cI cL cF cM) (cWu h cI cL cF cM) K Q) {F : Nat → Nat → Int32} {L : Nat → Nat → Int64} {r : Nat → Nat → Nat} (hh : wpX5_await_b32 F L r K) {H : Heap} {locs : List Loc} {ls : Array Slot} (hw : Wd D A s (cT cI cL cF cM) (cW h cI cL cF cM F L r) H locs) (hl : lv_has ls 2 [(0, .ref (h 12))]) : W p l e rmX5_await s m args below meth c H locs 0 0 Q (F0 m 32 ls []) := by
  unfold wpX5_await_b32 at hh
  exact hR _ _ (F, L, r) _ _ dX5_await_32 hh hw
set_option maxHeartbeats 4000000 in
set_option maxRecDepth 100000 in
theorem tX5_await_b0 {K : cS → Prop} (C : CallFix p m c cX5_await 2 s args wsX5_await RX5) (hR : Rtv p l e rmX5_await s m args below meth c cX5_await D A (cT cI cL cF cM) (cWu h cI cL cF cM) K Q) {F : Nat → Nat → Int32} {L : Nat → Nat → Int64} {r : Nat → Nat → Nat} {x1 : Int32} (hh : wpX5_await_b0 F L r x1 K) {H : Heap} {locs : List Loc} {ls : Array Slot} (hw : Wd D A s (cT cI cL cF cM) (cW h cI cL cF cM F L r) H locs) (hl : lv_has ls 2 [(0, .ref (h 12)), (1, .int x1)]) : W p l e rmX5_await s m args below meth c H locs 0 0 Q (F0 m 0 ls []) := by
  unfold wpX5_await_b0 at hh
  refine lv_aload_n C.1 C.2.1 dX5_await_0 rfl (lv_at hl 0 rfl) ?_
  refine c_get C hw (inC inW5) (kd_lt kp12 (by decide)) (ce5 kp12) rfl 9 (by decide) (wc w_316) (v := .int (F 12 9)) rfl dX5_await_1 ?_
  refine lv_aload_n C.1 C.2.1 dX5_await_4 rfl (lv_at hl 0 rfl) ?_
  refine c_get C hw (inC inW5) (kd_lt kp12 (by decide)) (ce5 kp12) rfl 4 (by decide) (wc w_311) (v := .ref (h 16)) rfl dX5_await_5 ?_
  refine c_len C hw (kd_lt kp16 (by decide)) (ce18 kp16) (v := (72 : Int32)) (by decide) dX5_await_8 ?_
  refine lv_icmp_ge (tgt := 32) C.1 C.2.1 dX5_await_9 (by decide) (fun c9 => ?_) (fun c9 => ?_)
  · replace hh := hh.1 c9
    exact tX5_await_b32 C hR hh hw (lv_sub hl [0] rfl)
  · replace hh := hh.2 c9
    refine lv_aload_n C.1 C.2.1 dX5_await_12 rfl (lv_at hl 0 rfl) ?_
    refine c_get C hw (inC inW5) (kd_lt kp12 (by decide)) (ce5 kp12) rfl 4 (by decide) (wc w_311) (v := .ref (h 16)) rfl dX5_await_13 ?_
    refine lv_aload_n C.1 C.2.1 dX5_await_16 rfl (lv_at hl 0 rfl) ?_
    refine c_get C hw (inC inW5) (kd_lt kp12 (by decide)) (ce5 kp12) rfl 9 (by decide) (wc w_316) (v := .int (F 12 9)) rfl dX5_await_17 ?_
    refine lv_iload_n C.1 C.2.1 dX5_await_20 rfl (lv_at hl 1 rfl) ?_
    obtain ⟨hi21, hh⟩ := hh
    refine c_ias C hw (kd_lt kp16 (by decide)) (ce18 kp16) hi21 dX5_await_21 (fun H locs hw => ?_)
    refine lv_aload_n C.1 C.2.1 dX5_await_22 rfl (lv_at hl 0 rfl) ?_
    refine lv_dup C.1 C.2.1 dX5_await_23 rfl ?_
    refine c_get C hw (inC inW5) (kd_lt kp12 (by decide)) (ce5 kp12) rfl 9 (by decide) (wc w_316) (v := .int ((pt F 16 (ix (F 12 9)) x1) 12 9)) rfl dX5_await_24 ?_
    refine lv_iconst (v := (1 : Int32)) C.1 C.2.1 dX5_await_27 (by decide) ?_
    refine lv_iadd C.1 C.2.1 dX5_await_28 ?_
    refine c_puti C hw (inC inW5) tyX5 tyX5_ok nmX5 (kd_lt kp12 (by decide)) (ce5 kp12) rfl 9 (by decide) (wc w_316) rfl (ty := .int) (by decide +kernel) rfl rfl (Nat.le_of_ble_eq_true rfl) rfl dX5_await_29 (fun H locs hw => ?_)
    exact tX5_await_b32 C hR hh hw (lv_sub hl [0] rfl)
theorem ctX5_await (l : Launch) (D : va_G) (h : Nat → Nat) (cI cL cF cM : ClassId) (F : Nat → Nat → Int32) (L : Nat → Nat → Int64) (r : Nat → Nat → Nat) (x1 : Int32) {K : cS → Prop} (hh : wpX5_await F L r x1 K) : Cv l yX5_await wsX5_await rmX5_await [.ref (h 12), .int x1] D (cT cI cL cF cM) (cWu h cI cL cF cM) (F, L, r) K := by
  refine Cv_of (cc := cX5_await) (maxL := 2) (by decide) rfl (Nat.le_of_ble_eq_true rfl) ?_
  intro p e s m below meth c A Q C hw hR ls hl
  exact tX5_await_b0 C hR hh hw hl
theorem cdX5_await : yX5_await.cls = RX5 ∧ yX5_await.cls ≠ "java/lang/invoke/MethodHandle" ∧ yX5_await.cls ≠ "java/lang/invoke/VarHandle" ∧ (parseMethodDescriptor yX5_await.desc).map (fun d => d.parameters.length) = some 1 := by decide +kernel
abbrev rmX5_openBracket : Room := { frames := 1, cells := 0, slots := 0, locals := 22 }
set_option maxHeartbeats 4000000 in
set_option maxRecDepth 100000 in
theorem tX5_openBracket_b0 {K : cS → Prop} (C : CallFix p m c cX5_openBracket 1 s args wsX5_openBracket RX5) (hR : Rtv p l e rmX5_openBracket s m args below meth c cX5_openBracket D A (cT cI cL cF cM) (cWu h cI cL cF cM) K Q) {F : Nat → Nat → Int32} {L : Nat → Nat → Int64} {r : Nat → Nat → Nat} (hh : wpX5_openBracket_b0 F L r K) {H : Heap} {locs : List Loc} {ls : Array Slot} (hw : Wd D A s (cT cI cL cF cM) (cW h cI cL cF cM F L r) H locs) (hl : lv_has ls 1 [(0, .ref (h 12))]) : W p l e rmX5_openBracket s m args below meth c H locs 0 0 Q (F0 m 0 ls []) := by
  unfold wpX5_openBracket_b0 at hh
  refine lv_aload_n C.1 C.2.1 dX5_openBracket_0 rfl (lv_at hl 0 rfl) ?_
  refine c_get C hw (inC inW5) (kd_lt kp12 (by decide)) (ce5 kp12) rfl 7 (by decide) (wc w_314) (v := .int (F 12 7)) rfl dX5_openBracket_1 ?_
  refine lv_bipush (v := (8 : Int32)) C.1 C.2.1 dX5_openBracket_4 (by decide) ?_
  refine lv_icmp_lt (tgt := 25) C.1 C.2.1 dX5_openBracket_6 (by decide) (fun c6 => ?_) (fun c6 => ?_)
  · replace hh := hh.1 c6
    refine lv_aload_n C.1 C.2.1 dX5_openBracket_25 rfl (lv_at hl 0 rfl) ?_
    refine lv_dup C.1 C.2.1 dX5_openBracket_26 rfl ?_
    refine c_get C hw (inC inW5) (kd_lt kp12 (by decide)) (ce5 kp12) rfl 7 (by decide) (wc w_314) (v := .int (F 12 7)) rfl dX5_openBracket_27 ?_
    refine lv_iconst (v := (1 : Int32)) C.1 C.2.1 dX5_openBracket_30 (by decide) ?_
    refine lv_iadd C.1 C.2.1 dX5_openBracket_31 ?_
    refine c_puti C hw (inC inW5) tyX5 tyX5_ok nmX5 (kd_lt kp12 (by decide)) (ce5 kp12) rfl 7 (by decide) (wc w_314) rfl (ty := .int) (by decide +kernel) rfl rfl (Nat.le_of_ble_eq_true rfl) rfl dX5_openBracket_32 (fun H locs hw => ?_)
    refine lv_aload_n C.1 C.2.1 dX5_openBracket_35 rfl (lv_at hl 0 rfl) ?_
    refine lv_dup C.1 C.2.1 dX5_openBracket_36 rfl ?_
    refine c_get C hw (inC inW5) (kd_lt kp12 (by decide)) (ce5 kp12) rfl 8 (by decide) (wc w_315) (v := .int ((pt F 12 7 ((F 12 7) + (1 : Int32))) 12 8)) rfl dX5_openBracket_37 ?_
    refine lv_iconst (v := (1 : Int32)) C.1 C.2.1 dX5_openBracket_40 (by decide) ?_
    refine lv_iadd C.1 C.2.1 dX5_openBracket_41 ?_
    refine c_puti C hw (inC inW5) tyX5 tyX5_ok nmX5 (kd_lt kp12 (by decide)) (ce5 kp12) rfl 8 (by decide) (wc w_315) rfl (ty := .int) (by decide +kernel) rfl rfl (Nat.le_of_ble_eq_true rfl) rfl dX5_openBracket_42 (fun H locs hw => ?_)
    refine lv_aload_n C.1 C.2.1 dX5_openBracket_45 rfl (lv_at hl 0 rfl) ?_
    refine lv_bipush (v := (27 : Int32)) C.1 C.2.1 dX5_openBracket_46 (by decide) ?_
    refine c_Vv C hw (ctX5_await l D h cI cL cF cM (pt (pt F 12 7 ((F 12 7) + (1 : Int32))) 12 8 (((pt F 12 7 ((F 12 7) + (1 : Int32))) 12 8) + (1 : Int32))) L r (27 : Int32) hh) (cwV 1 C.2.2.2.2 (gd_V w_864 w_866 w_22 w_118 w_867) rfl rfl rfl cdX5_await ⟨Nat.le_of_ble_eq_true rfl, Nat.le_of_ble_eq_true rfl⟩) rfl (kd_lt kp12 (by decide)) (ce5 kp12) rfl hl.1 (Nat.le_of_ble_eq_true rfl) dX5_openBracket_48 ⟨Nat.zero_le _, Nat.zero_le _⟩ (fun u48 H locs hh hw => ?_) rfl
    exact hR _ _ (u48.1, u48.2.1, u48.2.2) _ _ dX5_openBracket_51 hh hw
  · replace hh := hh.2 c6
    refine lv_aload_n C.1 C.2.1 dX5_openBracket_9 rfl (lv_at hl 0 rfl) ?_
    refine c_get C hw (inC inW5) (kd_lt kp12 (by decide)) (ce5 kp12) rfl 0 (by decide) (wc w_307) (v := .ref (h 4)) rfl dX5_openBracket_10 ?_
    refine lv_iconst (v := (2 : Int32)) C.1 C.2.1 dX5_openBracket_13 (by decide) ?_
    refine lv_aload_n C.1 C.2.1 dX5_openBracket_14 rfl (lv_at hl 0 rfl) ?_
    refine c_get C hw (inC inW5) (kd_lt kp12 (by decide)) (ce5 kp12) rfl 0 (by decide) (wc w_307) (v := .ref (h 4)) rfl dX5_openBracket_15 ?_
    refine c_get C hw (inC inW9) (kd_lt kp4 (by decide)) (ce9 kp4) rfl 4 (by decide) (wc w_164) (v := .int (F 4 4)) rfl dX5_openBracket_18 ?_
    refine c_Vv C hw (ctX9_refuse l D h cI cL cF cM F L r (2 : Int32) (F 4 4) hh) (cwV 2 C.2.2.2.2 (gd_V w_838 w_736 w_737 w_115 w_738) rfl rfl rfl cdX9_refuse ⟨Nat.le_of_ble_eq_true rfl, Nat.le_of_ble_eq_true rfl⟩) rfl (kd_lt kp4 (by decide)) (ce9 kp4) rfl hl.1 (Nat.le_of_ble_eq_true rfl) dX5_openBracket_21 ⟨Nat.zero_le _, Nat.zero_le _⟩ (fun u21 H locs hh hw => ?_) rfl
    exact hR _ _ (u21.1, u21.2.1, u21.2.2) _ _ dX5_openBracket_24 hh hw
theorem ctX5_openBracket (l : Launch) (D : va_G) (h : Nat → Nat) (cI cL cF cM : ClassId) (F : Nat → Nat → Int32) (L : Nat → Nat → Int64) (r : Nat → Nat → Nat) {K : cS → Prop} (hh : wpX5_openBracket F L r K) : Cv l yX5_openBracket wsX5_openBracket rmX5_openBracket [.ref (h 12)] D (cT cI cL cF cM) (cWu h cI cL cF cM) (F, L, r) K := by
  refine Cv_of (cc := cX5_openBracket) (maxL := 1) (by decide) rfl (Nat.le_of_ble_eq_true rfl) ?_
  intro p e s m below meth c A Q C hw hR ls hl
  exact tX5_openBracket_b0 C hR hh hw hl
theorem cdX5_openBracket : yX5_openBracket.cls = RX5 ∧ yX5_openBracket.cls ≠ "java/lang/invoke/MethodHandle" ∧ yX5_openBracket.cls ≠ "java/lang/invoke/VarHandle" ∧ (parseMethodDescriptor yX5_openBracket.desc).map (fun d => d.parameters.length) = some 0 := by decide +kernel
abbrev rmX5_countKnot : Room := { frames := 1, cells := 0, slots := 0, locals := 22 }
set_option maxHeartbeats 4000000 in
set_option maxRecDepth 100000 in
theorem tX5_countKnot_b0 {K : Int32 → cS → Prop} (C : CallFix p m c cX5_countKnot 1 s args wsX5_countKnot RX5) (hR : Rti .boolean p l e rmX5_countKnot s m args below meth c cX5_countKnot D A (cT cI cL cF cM) (cWu h cI cL cF cM) K Q) {F : Nat → Nat → Int32} {L : Nat → Nat → Int64} {r : Nat → Nat → Nat} (hh : wpX5_countKnot_b0 F L r K) {H : Heap} {locs : List Loc} {ls : Array Slot} (hw : Wd D A s (cT cI cL cF cM) (cW h cI cL cF cM F L r) H locs) (hl : lv_has ls 1 [(0, .ref (h 12))]) : W p l e rmX5_countKnot s m args below meth c H locs 0 0 Q (F0 m 0 ls []) := by
  unfold wpX5_countKnot_b0 at hh
  refine lv_aload_n C.1 C.2.1 dX5_countKnot_0 rfl (lv_at hl 0 rfl) ?_
  refine c_get C hw (inC inW5) (kd_lt kp12 (by decide)) (ce5 kp12) rfl 5 (by decide) (wc w_312) (v := .ref (h (r 12 5))) rfl dX5_countKnot_1 ?_
  obtain ⟨hk0, hh⟩ := hh
  refine c_get C hw (inC inW4) (kd_lt hk0 (by decide)) (ce4 hk0) rfl 1 (by decide) (wc w_284) (v := .int (F (r 12 5) 1)) rfl dX5_countKnot_4 ?_
  refine lv_bipush (v := (64 : Int32)) C.1 C.2.1 dX5_countKnot_7 (by decide) ?_
  refine lv_icmp_lt (tgt := 29) C.1 C.2.1 dX5_countKnot_9 (by decide) (fun c9 => ?_) (fun c9 => ?_)
  · replace hh := hh.1 c9
    refine lv_aload_n C.1 C.2.1 dX5_countKnot_29 rfl (lv_at hl 0 rfl) ?_
    refine c_get C hw (inC inW5) (kd_lt kp12 (by decide)) (ce5 kp12) rfl 5 (by decide) (wc w_312) (v := .ref (h (r 12 5))) rfl dX5_countKnot_30 ?_
    refine lv_dup C.1 C.2.1 dX5_countKnot_33 rfl ?_
    obtain ⟨hk1, hh⟩ := hh
    refine c_get C hw (inC inW4) (kd_lt hk1 (by decide)) (ce4 hk1) rfl 1 (by decide) (wc w_284) (v := .int (F (r 12 5) 1)) rfl dX5_countKnot_34 ?_
    refine lv_iconst (v := (1 : Int32)) C.1 C.2.1 dX5_countKnot_37 (by decide) ?_
    refine lv_iadd C.1 C.2.1 dX5_countKnot_38 ?_
    refine c_puti C hw (inC inW4) tyX4 tyX4_ok nmX4 (kd_lt hk1 (by decide)) (ce4 hk1) rfl 1 (by decide) (wc w_284) rfl (ty := .int) (by decide +kernel) rfl rfl (Nat.le_of_ble_eq_true rfl) rfl dX5_countKnot_39 (fun H locs hw => ?_)
    refine lv_iconst (v := (1 : Int32)) C.1 C.2.1 dX5_countKnot_42 (by decide) ?_
    exact hR _ _ _ (pt F (r 12 5) 1 ((F (r 12 5) 1) + (1 : Int32)), L, r) _ _ dX5_countKnot_43 rfl hh hw
  · replace hh := hh.2 c9
    refine lv_aload_n C.1 C.2.1 dX5_countKnot_12 rfl (lv_at hl 0 rfl) ?_
    refine c_get C hw (inC inW5) (kd_lt kp12 (by decide)) (ce5 kp12) rfl 0 (by decide) (wc w_307) (v := .ref (h 4)) rfl dX5_countKnot_13 ?_
    refine lv_iconst (v := (2 : Int32)) C.1 C.2.1 dX5_countKnot_16 (by decide) ?_
    refine lv_aload_n C.1 C.2.1 dX5_countKnot_17 rfl (lv_at hl 0 rfl) ?_
    refine c_get C hw (inC inW5) (kd_lt kp12 (by decide)) (ce5 kp12) rfl 0 (by decide) (wc w_307) (v := .ref (h 4)) rfl dX5_countKnot_18 ?_
    refine c_get C hw (inC inW9) (kd_lt kp4 (by decide)) (ce9 kp4) rfl 4 (by decide) (wc w_164) (v := .int (F 4 4)) rfl dX5_countKnot_21 ?_
    refine c_Vv C hw (ctX9_refuse l D h cI cL cF cM F L r (2 : Int32) (F 4 4) hh) (cwV 2 C.2.2.2.2 (gd_V w_838 w_736 w_737 w_115 w_738) rfl rfl rfl cdX9_refuse ⟨Nat.le_of_ble_eq_true rfl, Nat.le_of_ble_eq_true rfl⟩) rfl (kd_lt kp4 (by decide)) (ce9 kp4) rfl hl.1 (Nat.le_of_ble_eq_true rfl) dX5_countKnot_24 ⟨Nat.zero_le _, Nat.zero_le _⟩ (fun u24 H locs hh hw => ?_) rfl
    refine lv_iconst (v := (0 : Int32)) C.1 C.2.1 dX5_countKnot_27 (by decide) ?_
    exact hR _ _ _ (u24.1, u24.2.1, u24.2.2) _ _ dX5_countKnot_28 rfl hh hw
theorem ctX5_countKnot (l : Launch) (D : va_G) (h : Nat → Nat) (cI cL cF cM : ClassId) (F : Nat → Nat → Int32) (L : Nat → Nat → Int64) (r : Nat → Nat → Nat) {K : Int32 → cS → Prop} (hh : wpX5_countKnot F L r K) : Ci l yX5_countKnot wsX5_countKnot rmX5_countKnot [.ref (h 12)] D (cT cI cL cF cM) (cWu h cI cL cF cM) (F, L, r) K := by
  refine Ci_of (cc := cX5_countKnot) (maxL := 1) (by decide) rfl (Nat.le_of_ble_eq_true rfl) ?_
  intro p e s m below meth c A Q C hw hR ls hl
  exact tX5_countKnot_b0 C hR hh hw hl
theorem cdX5_countKnot : yX5_countKnot.cls = RX5 ∧ yX5_countKnot.cls ≠ "java/lang/invoke/MethodHandle" ∧ yX5_countKnot.cls ≠ "java/lang/invoke/VarHandle" ∧ (parseMethodDescriptor yX5_countKnot.desc).map (fun d => d.parameters.length) = some 0 := by decide +kernel
abbrev rmX4_addCode : Room := { frames := 0, cells := 0, slots := 0, locals := 0 }
set_option maxHeartbeats 4000000 in
set_option maxRecDepth 100000 in
theorem tX4_addCode_b29 {a0 : Nat} {K : cS → Prop} (C : CallFix p m c cX4_addCode 2 s args wsX4_addCode RX4) (hR : Rtv p l e rmX4_addCode s m args below meth c cX4_addCode D A (cT cI cL cF cM) (cWu h cI cL cF cM) K Q) (ha0 : kd a0 = 4) {F : Nat → Nat → Int32} {L : Nat → Nat → Int64} {r : Nat → Nat → Nat} (hh : wpX4_addCode_b29 a0 F L r K) {H : Heap} {locs : List Loc} {ls : Array Slot} (hw : Wd D A s (cT cI cL cF cM) (cW h cI cL cF cM F L r) H locs) (hl : lv_has ls 2 [(0, .ref (h a0))]) : W p l e rmX4_addCode s m args below meth c H locs 0 0 Q (F0 m 29 ls []) := by
  unfold wpX4_addCode_b29 at hh
  exact hR _ _ (F, L, r) _ _ dX4_addCode_29 hh hw
set_option maxHeartbeats 4000000 in
set_option maxRecDepth 100000 in
theorem tX4_addCode_b0 {a0 : Nat} {K : cS → Prop} (C : CallFix p m c cX4_addCode 2 s args wsX4_addCode RX4) (hR : Rtv p l e rmX4_addCode s m args below meth c cX4_addCode D A (cT cI cL cF cM) (cWu h cI cL cF cM) K Q) (ha0 : kd a0 = 4) {F : Nat → Nat → Int32} {L : Nat → Nat → Int64} {r : Nat → Nat → Nat} {x1 : Int32} (hh : wpX4_addCode_b0 a0 F L r x1 K) {H : Heap} {locs : List Loc} {ls : Array Slot} (hw : Wd D A s (cT cI cL cF cM) (cW h cI cL cF cM F L r) H locs) (hl : lv_has ls 2 [(0, .ref (h a0)), (1, .int x1)]) : W p l e rmX4_addCode s m args below meth c H locs 0 0 Q (F0 m 0 ls []) := by
  unfold wpX4_addCode_b0 at hh
  refine lv_aload_n C.1 C.2.1 dX4_addCode_0 rfl (lv_at hl 0 rfl) ?_
  refine c_get C hw (inC inW4) (kd_lt ha0 (by decide)) (ce4 ha0) rfl 2 (by decide) (wc w_286) (v := .int (F a0 2)) rfl dX4_addCode_1 ?_
  refine lv_bipush (v := (64 : Int32)) C.1 C.2.1 dX4_addCode_4 (by decide) ?_
  refine lv_icmp_ge (tgt := 29) C.1 C.2.1 dX4_addCode_6 (by decide) (fun c6 => ?_) (fun c6 => ?_)
  · replace hh := hh.1 c6
    exact tX4_addCode_b29 C hR ha0 hh hw (lv_sub hl [0] rfl)
  · replace hh := hh.2 c6
    refine lv_aload_n C.1 C.2.1 dX4_addCode_9 rfl (lv_at hl 0 rfl) ?_
    refine c_get C hw (inC inW4) (kd_lt ha0 (by decide)) (ce4 ha0) rfl 3 (by decide) (wc w_288) (v := .ref (h (a0 + 1))) rfl dX4_addCode_10 ?_
    refine lv_aload_n C.1 C.2.1 dX4_addCode_13 rfl (lv_at hl 0 rfl) ?_
    refine c_get C hw (inC inW4) (kd_lt ha0 (by decide)) (ce4 ha0) rfl 2 (by decide) (wc w_286) (v := .int (F a0 2)) rfl dX4_addCode_14 ?_
    refine lv_iload_n C.1 C.2.1 dX4_addCode_17 rfl (lv_at hl 1 rfl) ?_
    obtain ⟨hi18, hh⟩ := hh
    refine c_ias C hw (kd_lt (kd4_1 ha0) (by decide)) (ce17 (kd4_1 ha0)) hi18 dX4_addCode_18 (fun H locs hw => ?_)
    refine lv_aload_n C.1 C.2.1 dX4_addCode_19 rfl (lv_at hl 0 rfl) ?_
    refine lv_dup C.1 C.2.1 dX4_addCode_20 rfl ?_
    refine c_get C hw (inC inW4) (kd_lt ha0 (by decide)) (ce4 ha0) rfl 2 (by decide) (wc w_286) (v := .int ((pt F (a0 + 1) (ix (F a0 2)) x1) a0 2)) rfl dX4_addCode_21 ?_
    refine lv_iconst (v := (1 : Int32)) C.1 C.2.1 dX4_addCode_24 (by decide) ?_
    refine lv_iadd C.1 C.2.1 dX4_addCode_25 ?_
    refine c_puti C hw (inC inW4) tyX4 tyX4_ok nmX4 (kd_lt ha0 (by decide)) (ce4 ha0) rfl 2 (by decide) (wc w_286) rfl (ty := .int) (by decide +kernel) rfl rfl (Nat.le_of_ble_eq_true rfl) rfl dX4_addCode_26 (fun H locs hw => ?_)
    exact tX4_addCode_b29 C hR ha0 hh hw (lv_sub hl [0] rfl)
theorem ctX4_addCode (l : Launch) (D : va_G) (h : Nat → Nat) (cI cL cF cM : ClassId) (a0 : Nat) (ha0 : kd a0 = 4) (F : Nat → Nat → Int32) (L : Nat → Nat → Int64) (r : Nat → Nat → Nat) (x1 : Int32) {K : cS → Prop} (hh : wpX4_addCode a0 F L r x1 K) : Cv l yX4_addCode wsX4_addCode rmX4_addCode [.ref (h a0), .int x1] D (cT cI cL cF cM) (cWu h cI cL cF cM) (F, L, r) K := by
  refine Cv_of (cc := cX4_addCode) (maxL := 2) (by decide) rfl (Nat.le_of_ble_eq_true rfl) ?_
  intro p e s m below meth c A Q C hw hR ls hl
  exact tX4_addCode_b0 C hR ha0 hh hw hl
theorem cdX4_addCode : yX4_addCode.cls = RX4 ∧ yX4_addCode.cls ≠ "java/lang/invoke/MethodHandle" ∧ yX4_addCode.cls ≠ "java/lang/invoke/VarHandle" ∧ (parseMethodDescriptor yX4_addCode.desc).map (fun d => d.parameters.length) = some 1 := by decide +kernel
abbrev rmX5_takeOperand : Room := { frames := 1, cells := 0, slots := 0, locals := 21 }
set_option maxHeartbeats 4000000 in
set_option maxRecDepth 100000 in
theorem tX5_takeOperand_b50 {K : cS → Prop} (C : CallFix p m c cX5_takeOperand 2 s args wsX5_takeOperand RX5) (hR : Rtv p l e rmX5_takeOperand s m args below meth c cX5_takeOperand D A (cT cI cL cF cM) (cWu h cI cL cF cM) K Q) {F : Nat → Nat → Int32} {L : Nat → Nat → Int64} {r : Nat → Nat → Nat} {x1 : Int32} (hh : wpX5_takeOperand_b50 F L r x1 K) {H : Heap} {locs : List Loc} {ls : Array Slot} (hw : Wd D A s (cT cI cL cF cM) (cW h cI cL cF cM F L r) H locs) (hl : lv_has ls 2 [(0, .ref (h 12)), (1, .int x1)]) : W p l e rmX5_takeOperand s m args below meth c H locs 0 0 Q (F0 m 50 ls []) := by
  unfold wpX5_takeOperand_b50 at hh
  refine lv_aload_n C.1 C.2.1 dX5_takeOperand_50 rfl (lv_at hl 0 rfl) ?_
  refine c_get C hw (inC inW5) (kd_lt kp12 (by decide)) (ce5 kp12) rfl 5 (by decide) (wc w_312) (v := .ref (h (r 12 5))) rfl dX5_takeOperand_51 ?_
  refine lv_iload_n C.1 C.2.1 dX5_takeOperand_54 rfl (lv_at hl 1 rfl) ?_
  obtain ⟨hk3, hh⟩ := hh
  refine c_Vv C hw (ctX4_addCode l D h cI cL cF cM (r 12 5) hk3 F L r x1 hh) (cwV 1 C.2.2.2.2 (gd_V w_876 w_877 w_878 w_119 w_879) rfl rfl rfl cdX4_addCode ⟨Nat.le_of_ble_eq_true rfl, Nat.le_of_ble_eq_true rfl⟩) rfl (kd_lt hk3 (by decide)) (ce4 hk3) rfl hl.1 (Nat.le_of_ble_eq_true rfl) dX5_takeOperand_55 ⟨Nat.zero_le _, Nat.zero_le _⟩ (fun u55 H locs hh hw => ?_) rfl
  exact hR _ _ (u55.1, u55.2.1, u55.2.2) _ _ dX5_takeOperand_58 hh hw
set_option maxHeartbeats 4000000 in
set_option maxRecDepth 100000 in
theorem tX5_takeOperand_b0 {K : cS → Prop} (C : CallFix p m c cX5_takeOperand 2 s args wsX5_takeOperand RX5) (hR : Rtv p l e rmX5_takeOperand s m args below meth c cX5_takeOperand D A (cT cI cL cF cM) (cWu h cI cL cF cM) K Q) {F : Nat → Nat → Int32} {L : Nat → Nat → Int64} {r : Nat → Nat → Nat} {x1 : Int32} (hh : wpX5_takeOperand_b0 F L r x1 K) {H : Heap} {locs : List Loc} {ls : Array Slot} (hw : Wd D A s (cT cI cL cF cM) (cW h cI cL cF cM F L r) H locs) (hl : lv_has ls 2 [(0, .ref (h 12)), (1, .int x1)]) : W p l e rmX5_takeOperand s m args below meth c H locs 0 0 Q (F0 m 0 ls []) := by
  unfold wpX5_takeOperand_b0 at hh
  refine lv_aload_n C.1 C.2.1 dX5_takeOperand_0 rfl (lv_at hl 0 rfl) ?_
  refine c_get C hw (inC inW5) (kd_lt kp12 (by decide)) (ce5 kp12) rfl 5 (by decide) (wc w_312) (v := .ref (h (r 12 5))) rfl dX5_takeOperand_1 ?_
  obtain ⟨hk0, hh⟩ := hh
  refine c_get C hw (inC inW4) (kd_lt hk0 (by decide)) (ce4 hk0) rfl 2 (by decide) (wc w_287) (v := .int (F (r 12 5) 2)) rfl dX5_takeOperand_4 ?_
  refine lv_bipush (v := (64 : Int32)) C.1 C.2.1 dX5_takeOperand_7 (by decide) ?_
  refine lv_icmp_ge (tgt := 50) C.1 C.2.1 dX5_takeOperand_9 (by decide) (fun c9 => ?_) (fun c9 => ?_)
  · replace hh := hh.1 c9
    exact tX5_takeOperand_b50 C hR hh hw hl
  · replace hh := hh.2 c9
    refine lv_aload_n C.1 C.2.1 dX5_takeOperand_12 rfl (lv_at hl 0 rfl) ?_
    refine c_get C hw (inC inW5) (kd_lt kp12 (by decide)) (ce5 kp12) rfl 2 (by decide) (wc w_309) (v := .ref (h 14)) rfl dX5_takeOperand_13 ?_
    refine lv_aload_n C.1 C.2.1 dX5_takeOperand_16 rfl (lv_at hl 0 rfl) ?_
    refine c_get C hw (inC inW5) (kd_lt kp12 (by decide)) (ce5 kp12) rfl 5 (by decide) (wc w_312) (v := .ref (h (r 12 5))) rfl dX5_takeOperand_17 ?_
    obtain ⟨hk1, hh⟩ := hh
    refine c_get C hw (inC inW4) (kd_lt hk1 (by decide)) (ce4 hk1) rfl 2 (by decide) (wc w_287) (v := .int (F (r 12 5) 2)) rfl dX5_takeOperand_20 ?_
    refine lv_aload_n C.1 C.2.1 dX5_takeOperand_23 rfl (lv_at hl 0 rfl) ?_
    refine c_get C hw (inC inW5) (kd_lt kp12 (by decide)) (ce5 kp12) rfl 0 (by decide) (wc w_307) (v := .ref (h 4)) rfl dX5_takeOperand_24 ?_
    refine c_get C hw (inC inW9) (kd_lt kp4 (by decide)) (ce9 kp4) rfl 5 (by decide) (wc w_167) (v := .int (F 4 5)) rfl dX5_takeOperand_27 ?_
    obtain ⟨hi30, hh⟩ := hh
    refine c_ias C hw (kd_lt kp14 (by decide)) (ce17 kp14) hi30 dX5_takeOperand_30 (fun H locs hw => ?_)
    refine lv_aload_n C.1 C.2.1 dX5_takeOperand_31 rfl (lv_at hl 0 rfl) ?_
    refine c_get C hw (inC inW5) (kd_lt kp12 (by decide)) (ce5 kp12) rfl 3 (by decide) (wc w_310) (v := .ref (h 15)) rfl dX5_takeOperand_32 ?_
    refine lv_aload_n C.1 C.2.1 dX5_takeOperand_35 rfl (lv_at hl 0 rfl) ?_
    refine c_get C hw (inC inW5) (kd_lt kp12 (by decide)) (ce5 kp12) rfl 5 (by decide) (wc w_312) (v := .ref (h (r 12 5))) rfl dX5_takeOperand_36 ?_
    obtain ⟨hk2, hh⟩ := hh
    refine c_get C hw (inC inW4) (kd_lt hk2 (by decide)) (ce4 hk2) rfl 2 (by decide) (wc w_287) (v := .int ((pt F 14 (ix (F (r 12 5) 2)) (F 4 5)) (r 12 5) 2)) rfl dX5_takeOperand_39 ?_
    refine lv_aload_n C.1 C.2.1 dX5_takeOperand_42 rfl (lv_at hl 0 rfl) ?_
    refine c_get C hw (inC inW5) (kd_lt kp12 (by decide)) (ce5 kp12) rfl 0 (by decide) (wc w_307) (v := .ref (h 4)) rfl dX5_takeOperand_43 ?_
    refine c_get C hw (inC inW9) (kd_lt kp4 (by decide)) (ce9 kp4) rfl 4 (by decide) (wc w_164) (v := .int ((pt F 14 (ix (F (r 12 5) 2)) (F 4 5)) 4 4)) rfl dX5_takeOperand_46 ?_
    obtain ⟨hi49, hh⟩ := hh
    refine c_ias C hw (kd_lt kp15 (by decide)) (ce17 kp15) hi49 dX5_takeOperand_49 (fun H locs hw => ?_)
    exact tX5_takeOperand_b50 C hR hh hw hl
theorem ctX5_takeOperand (l : Launch) (D : va_G) (h : Nat → Nat) (cI cL cF cM : ClassId) (F : Nat → Nat → Int32) (L : Nat → Nat → Int64) (r : Nat → Nat → Nat) (x1 : Int32) {K : cS → Prop} (hh : wpX5_takeOperand F L r x1 K) : Cv l yX5_takeOperand wsX5_takeOperand rmX5_takeOperand [.ref (h 12), .int x1] D (cT cI cL cF cM) (cWu h cI cL cF cM) (F, L, r) K := by
  refine Cv_of (cc := cX5_takeOperand) (maxL := 2) (by decide) rfl (Nat.le_of_ble_eq_true rfl) ?_
  intro p e s m below meth c A Q C hw hR ls hl
  exact tX5_takeOperand_b0 C hR hh hw hl
theorem cdX5_takeOperand : yX5_takeOperand.cls = RX5 ∧ yX5_takeOperand.cls ≠ "java/lang/invoke/MethodHandle" ∧ yX5_takeOperand.cls ≠ "java/lang/invoke/VarHandle" ∧ (parseMethodDescriptor yX5_takeOperand.desc).map (fun d => d.parameters.length) = some 1 := by decide +kernel
abbrev rmX5_readOperand : Room := { frames := 2, cells := 0, slots := 0, locals := 42 }
set_option maxHeartbeats 4000000 in
set_option maxRecDepth 100000 in
theorem tX5_readOperand_b121 {K : Int32 → cS → Prop} (C : CallFix p m c cX5_readOperand 3 s args wsX5_readOperand RX5) (hR : Rti .boolean p l e rmX5_readOperand s m args below meth c cX5_readOperand D A (cT cI cL cF cM) (cWu h cI cL cF cM) K Q) {F : Nat → Nat → Int32} {L : Nat → Nat → Int64} {r : Nat → Nat → Nat} (hh : wpX5_readOperand_b121 F L r K) {H : Heap} {locs : List Loc} {ls : Array Slot} (hw : Wd D A s (cT cI cL cF cM) (cW h cI cL cF cM F L r) H locs) (hl : lv_has ls 3 [(0, .ref (h 12))]) : W p l e rmX5_readOperand s m args below meth c H locs 0 0 Q (F0 m 121 ls []) := by
  unfold wpX5_readOperand_b121 at hh
  refine lv_iconst (v := (0 : Int32)) C.1 C.2.1 dX5_readOperand_121 (by decide) ?_
  exact hR _ _ _ (F, L, r) _ _ dX5_readOperand_122 rfl hh hw
set_option maxHeartbeats 4000000 in
set_option maxRecDepth 100000 in
theorem tX5_readOperand_b118 {K : Int32 → cS → Prop} (C : CallFix p m c cX5_readOperand 3 s args wsX5_readOperand RX5) (hR : Rti .boolean p l e rmX5_readOperand s m args below meth c cX5_readOperand D A (cT cI cL cF cM) (cWu h cI cL cF cM) K Q) {F : Nat → Nat → Int32} {L : Nat → Nat → Int64} {r : Nat → Nat → Nat} {k1 : Int32} (hh : wpX5_readOperand_b118 F L r k1 K) {H : Heap} {locs : List Loc} {ls : Array Slot} (hw : Wd D A s (cT cI cL cF cM) (cW h cI cL cF cM F L r) H locs) (hl : lv_has ls 3 [(0, .ref (h 12))]) : W p l e rmX5_readOperand s m args below meth c H locs 0 0 Q (F0 m 118 ls [.int k1, .ref (h 12)]) := by
  unfold wpX5_readOperand_b118 at hh
  refine c_Vv C hw (ctX5_takeOperand l D h cI cL cF cM F L r k1 hh) (cwV 1 C.2.2.2.2 (gd_V w_872 w_874 w_24 w_118 w_875) rfl rfl rfl cdX5_takeOperand ⟨Nat.le_of_ble_eq_true rfl, Nat.le_of_ble_eq_true rfl⟩) rfl (kd_lt kp12 (by decide)) (ce5 kp12) rfl hl.1 (Nat.le_of_ble_eq_true rfl) dX5_readOperand_118 ⟨Nat.zero_le _, Nat.zero_le _⟩ (fun u118 H locs hh hw => ?_) rfl
  exact tX5_readOperand_b121 C hR hh hw hl
set_option maxHeartbeats 4000000 in
set_option maxRecDepth 100000 in
theorem tX5_readOperand_b94 {K : Int32 → cS → Prop} (C : CallFix p m c cX5_readOperand 3 s args wsX5_readOperand RX5) (hR : Rti .boolean p l e rmX5_readOperand s m args below meth c cX5_readOperand D A (cT cI cL cF cM) (cWu h cI cL cF cM) K Q) {F : Nat → Nat → Int32} {L : Nat → Nat → Int64} {r : Nat → Nat → Nat} {x1 : Int32} {x2 : Int32} (hh : wpX5_readOperand_b94 F L r x1 x2 K) {H : Heap} {locs : List Loc} {ls : Array Slot} (hw : Wd D A s (cT cI cL cF cM) (cW h cI cL cF cM F L r) H locs) (hl : lv_has ls 3 [(0, .ref (h 12)), (1, .int x1), (2, .int x2)]) : W p l e rmX5_readOperand s m args below meth c H locs 0 0 Q (F0 m 94 ls []) := by
  unfold wpX5_readOperand_b94 at hh
  refine lv_aload_n C.1 C.2.1 dX5_readOperand_94 rfl (lv_at hl 0 rfl) ?_
  refine c_Vi C hw (ctX5_countKnot l D h cI cL cF cM F L r hh) (cwV 0 C.2.2.2.2 (gd_V w_868 w_870 w_23 w_118 w_871) rfl rfl rfl cdX5_countKnot ⟨Nat.le_of_ble_eq_true rfl, Nat.le_of_ble_eq_true rfl⟩) rfl (kd_lt kp12 (by decide)) (ce5 kp12) rfl hl.1 (Nat.le_of_ble_eq_true rfl) dX5_readOperand_95 ⟨Nat.zero_le _, Nat.zero_le _⟩ (fun r95 u95 H locs hh hw => ?_) rfl
  refine lv_if_eq (tgt := 121) C.1 C.2.1 dX5_readOperand_98 (by decide) (fun c98 => ?_) (fun c98 => ?_)
  · replace hh := hh.1 c98
    exact tX5_readOperand_b121 C hR hh hw (lv_sub hl [0] rfl)
  · replace hh := hh.2 c98
    refine lv_aload_n C.1 C.2.1 dX5_readOperand_101 rfl (lv_at hl 0 rfl) ?_
    refine lv_iload_n C.1 C.2.1 dX5_readOperand_102 rfl (lv_at hl 2 rfl) ?_
    refine lv_if_eq (tgt := 116) C.1 C.2.1 dX5_readOperand_103 (by decide) (fun c103 => ?_) (fun c103 => ?_)
    · replace hh := hh.1 c103
      refine lv_bipush (v := (28 : Int32)) C.1 C.2.1 dX5_readOperand_116 (by decide) ?_
      exact tX5_readOperand_b118 C hR hh hw (lv_sub hl [0] rfl)
    · replace hh := hh.2 c103
      refine lv_bipush (v := (20 : Int32)) C.1 C.2.1 dX5_readOperand_106 (by decide) ?_
      refine lv_iload_n C.1 C.2.1 dX5_readOperand_108 rfl (lv_at hl 1 rfl) ?_
      refine lv_iadd C.1 C.2.1 dX5_readOperand_109 ?_
      refine lv_bipush (v := (8 : Int32)) C.1 C.2.1 dX5_readOperand_110 (by decide) ?_
      refine lv_isub C.1 C.2.1 dX5_readOperand_112 ?_
      refine lv_goto (tgt := 118) C.1 C.2.1 dX5_readOperand_113 (by decide) ?_
      exact tX5_readOperand_b118 C hR hh hw (lv_sub hl [0] rfl)
set_option maxHeartbeats 4000000 in
set_option maxRecDepth 100000 in
theorem tX5_readOperand_b64 {K : Int32 → cS → Prop} (C : CallFix p m c cX5_readOperand 3 s args wsX5_readOperand RX5) (hR : Rti .boolean p l e rmX5_readOperand s m args below meth c cX5_readOperand D A (cT cI cL cF cM) (cWu h cI cL cF cM) K Q) {F : Nat → Nat → Int32} {L : Nat → Nat → Int64} {r : Nat → Nat → Nat} {k0 : Int32} {x1 : Int32} (hh : wpX5_readOperand_b64 F L r k0 x1 K) {H : Heap} {locs : List Loc} {ls : Array Slot} (hw : Wd D A s (cT cI cL cF cM) (cW h cI cL cF cM F L r) H locs) (hl : lv_has ls 3 [(0, .ref (h 12)), (1, .int x1)]) : W p l e rmX5_readOperand s m args below meth c H locs 0 0 Q (F0 m 64 ls [.int k0]) := by
  unfold wpX5_readOperand_b64 at hh
  refine lv_istore_n (lv' := [(2, .int k0), (0, .ref (h 12)), (1, .int x1)]) C.1 C.2.1 dX5_readOperand_64 rfl hl (by decide) rfl (fun ls hl => ?_)
  refine lv_iload_n C.1 C.2.1 dX5_readOperand_65 rfl (lv_at hl 0 rfl) ?_
  refine lv_if_ne (tgt := 94) C.1 C.2.1 dX5_readOperand_66 (by decide) (fun c66 => ?_) (fun c66 => ?_)
  · replace hh := hh.1 c66
    exact tX5_readOperand_b94 C hR hh hw (lv_sub hl [1, 2, 0] rfl)
  · replace hh := hh.2 c66
    refine lv_aload_n C.1 C.2.1 dX5_readOperand_69 rfl (lv_at hl 1 rfl) ?_
    refine c_Vi C hw (ctX5_isName l D h cI cL cF cM F L r hh) (cwV 0 C.2.2.2.2 (gd_V w_840 w_842 w_17 w_118 w_843) rfl rfl rfl cdX5_isName ⟨Nat.le_of_ble_eq_true rfl, Nat.le_of_ble_eq_true rfl⟩) rfl (kd_lt kp12 (by decide)) (ce5 kp12) rfl hl.1 (Nat.le_of_ble_eq_true rfl) dX5_readOperand_70 ⟨Nat.zero_le _, Nat.zero_le _⟩ (fun r70 u70 H locs hh hw => ?_) rfl
    refine lv_if_ne (tgt := 94) C.1 C.2.1 dX5_readOperand_73 (by decide) (fun c73 => ?_) (fun c73 => ?_)
    · replace hh := hh.1 c73
      exact tX5_readOperand_b94 C hR hh hw (lv_sub hl [1, 2, 0] rfl)
    · replace hh := hh.2 c73
      refine lv_aload_n C.1 C.2.1 dX5_readOperand_76 rfl (lv_at hl 1 rfl) ?_
      refine c_get C hw (inC inW5) (kd_lt kp12 (by decide)) (ce5 kp12) rfl 0 (by decide) (wc w_307) (v := .ref (h 4)) rfl dX5_readOperand_77 ?_
      refine lv_iconst (v := (1 : Int32)) C.1 C.2.1 dX5_readOperand_80 (by decide) ?_
      refine lv_aload_n C.1 C.2.1 dX5_readOperand_81 rfl (lv_at hl 1 rfl) ?_
      refine c_get C hw (inC inW5) (kd_lt kp12 (by decide)) (ce5 kp12) rfl 0 (by decide) (wc w_307) (v := .ref (h 4)) rfl dX5_readOperand_82 ?_
      refine c_get C hw (inC inW9) (kd_lt kp4 (by decide)) (ce9 kp4) rfl 4 (by decide) (wc w_164) (v := .int (u70.1 4 4)) rfl dX5_readOperand_85 ?_
      refine c_Vv C hw (ctX9_refuse l D h cI cL cF cM u70.1 u70.2.1 u70.2.2 (1 : Int32) (u70.1 4 4) hh) (cwV 2 C.2.2.2.2 (gd_V w_838 w_736 w_737 w_115 w_738) rfl rfl rfl cdX9_refuse ⟨Nat.le_of_ble_eq_true rfl, Nat.le_of_ble_eq_true rfl⟩) rfl (kd_lt kp4 (by decide)) (ce9 kp4) rfl hl.1 (Nat.le_of_ble_eq_true rfl) dX5_readOperand_88 ⟨Nat.zero_le _, Nat.zero_le _⟩ (fun u88 H locs hh hw => ?_) rfl
      refine lv_goto (tgt := 121) C.1 C.2.1 dX5_readOperand_91 (by decide) ?_
      exact tX5_readOperand_b121 C hR hh hw (lv_sub hl [1] rfl)
set_option maxHeartbeats 4000000 in
set_option maxRecDepth 100000 in
theorem tX5_readOperand_b63 {K : Int32 → cS → Prop} (C : CallFix p m c cX5_readOperand 3 s args wsX5_readOperand RX5) (hR : Rti .boolean p l e rmX5_readOperand s m args below meth c cX5_readOperand D A (cT cI cL cF cM) (cWu h cI cL cF cM) K Q) {F : Nat → Nat → Int32} {L : Nat → Nat → Int64} {r : Nat → Nat → Nat} {x1 : Int32} (hh : wpX5_readOperand_b63 F L r x1 K) {H : Heap} {locs : List Loc} {ls : Array Slot} (hw : Wd D A s (cT cI cL cF cM) (cW h cI cL cF cM F L r) H locs) (hl : lv_has ls 3 [(0, .ref (h 12)), (1, .int x1)]) : W p l e rmX5_readOperand s m args below meth c H locs 0 0 Q (F0 m 63 ls []) := by
  unfold wpX5_readOperand_b63 at hh
  refine lv_iconst (v := (0 : Int32)) C.1 C.2.1 dX5_readOperand_63 (by decide) ?_
  exact tX5_readOperand_b64 C hR hh hw hl
set_option maxHeartbeats 4000000 in
set_option maxRecDepth 100000 in
theorem tX5_readOperand_b45 {K : Int32 → cS → Prop} (C : CallFix p m c cX5_readOperand 3 s args wsX5_readOperand RX5) (hR : Rti .boolean p l e rmX5_readOperand s m args below meth c cX5_readOperand D A (cT cI cL cF cM) (cWu h cI cL cF cM) K Q) {F : Nat → Nat → Int32} {L : Nat → Nat → Int64} {r : Nat → Nat → Nat} (hh : wpX5_readOperand_b45 F L r K) {H : Heap} {locs : List Loc} {ls : Array Slot} (hw : Wd D A s (cT cI cL cF cM) (cW h cI cL cF cM F L r) H locs) (hl : lv_has ls 3 [(0, .ref (h 12))]) : W p l e rmX5_readOperand s m args below meth c H locs 0 0 Q (F0 m 45 ls []) := by
  unfold wpX5_readOperand_b45 at hh
  refine lv_iconst (v := (1 : Int32)) C.1 C.2.1 dX5_readOperand_45 (by decide) ?_
  exact hR _ _ _ (F, L, r) _ _ dX5_readOperand_46 rfl hh hw
set_option maxHeartbeats 4000000 in
set_option maxRecDepth 100000 in
theorem tX5_readOperand_b0 {K : Int32 → cS → Prop} (C : CallFix p m c cX5_readOperand 3 s args wsX5_readOperand RX5) (hR : Rti .boolean p l e rmX5_readOperand s m args below meth c cX5_readOperand D A (cT cI cL cF cM) (cWu h cI cL cF cM) K Q) {F : Nat → Nat → Int32} {L : Nat → Nat → Int64} {r : Nat → Nat → Nat} (hh : wpX5_readOperand_b0 F L r K) {H : Heap} {locs : List Loc} {ls : Array Slot} (hw : Wd D A s (cT cI cL cF cM) (cW h cI cL cF cM F L r) H locs) (hl : lv_has ls 3 [(0, .ref (h 12))]) : W p l e rmX5_readOperand s m args below meth c H locs 0 0 Q (F0 m 0 ls []) := by
  unfold wpX5_readOperand_b0 at hh
  refine lv_aload_n C.1 C.2.1 dX5_readOperand_0 rfl (lv_at hl 0 rfl) ?_
  refine c_get C hw (inC inW5) (kd_lt kp12 (by decide)) (ce5 kp12) rfl 0 (by decide) (wc w_307) (v := .ref (h 4)) rfl dX5_readOperand_1 ?_
  refine c_get C hw (inC inW9) (kd_lt kp4 (by decide)) (ce9 kp4) rfl 6 (by decide) (wc w_171) (v := .int (F 4 6)) rfl dX5_readOperand_4 ?_
  refine lv_istore_n (lv' := [(1, .int (F 4 6)), (0, .ref (h 12))]) C.1 C.2.1 dX5_readOperand_7 rfl hl (by decide) rfl (fun ls hl => ?_)
  refine lv_aload_n C.1 C.2.1 dX5_readOperand_8 rfl (lv_at hl 1 rfl) ?_
  refine c_get C hw (inC inW5) (kd_lt kp12 (by decide)) (ce5 kp12) rfl 0 (by decide) (wc w_307) (v := .ref (h 4)) rfl dX5_readOperand_9 ?_
  refine lv_bipush (v := (40 : Int32)) C.1 C.2.1 dX5_readOperand_12 (by decide) ?_
  refine c_Vi C hw (ctX9_isSign l D h cI cL cF cM F L r (40 : Int32) hh) (cwV 1 C.2.2.2.2 (gd_V w_851 w_786 w_787 w_115 w_788) rfl rfl rfl cdX9_isSign ⟨Nat.le_of_ble_eq_true rfl, Nat.le_of_ble_eq_true rfl⟩) rfl (kd_lt kp4 (by decide)) (ce9 kp4) rfl hl.1 (Nat.le_of_ble_eq_true rfl) dX5_readOperand_14 ⟨Nat.zero_le _, Nat.zero_le _⟩ (fun r14 u14 H locs hh hw => ?_) rfl
  refine lv_if_eq (tgt := 26) C.1 C.2.1 dX5_readOperand_17 (by decide) (fun c17 => ?_) (fun c17 => ?_)
  · replace hh := hh.1 c17
    refine lv_iload_n C.1 C.2.1 dX5_readOperand_26 rfl (lv_at hl 0 rfl) ?_
    refine lv_bipush (v := (7 : Int32)) C.1 C.2.1 dX5_readOperand_27 (by decide) ?_
    refine lv_icmp_ne (tgt := 47) C.1 C.2.1 dX5_readOperand_29 (by decide) (fun c29 => ?_) (fun c29 => ?_)
    · replace hh := hh.1 c29
      refine lv_iload_n C.1 C.2.1 dX5_readOperand_47 rfl (lv_at hl 0 rfl) ?_
      refine lv_bipush (v := (8 : Int32)) C.1 C.2.1 dX5_readOperand_48 (by decide) ?_
      refine lv_icmp_lt (tgt := 63) C.1 C.2.1 dX5_readOperand_50 (by decide) (fun c50 => ?_) (fun c50 => ?_)
      · replace hh := hh.1 c50
        exact tX5_readOperand_b63 C hR hh hw (lv_sub hl [1, 0] rfl)
      · replace hh := hh.2 c50
        refine lv_iload_n C.1 C.2.1 dX5_readOperand_53 rfl (lv_at hl 0 rfl) ?_
        refine lv_bipush (v := (11 : Int32)) C.1 C.2.1 dX5_readOperand_54 (by decide) ?_
        refine lv_icmp_gt (tgt := 63) C.1 C.2.1 dX5_readOperand_56 (by decide) (fun c56 => ?_) (fun c56 => ?_)
        · replace hh := hh.1 c56
          exact tX5_readOperand_b63 C hR hh hw (lv_sub hl [1, 0] rfl)
        · replace hh := hh.2 c56
          refine lv_iconst (v := (1 : Int32)) C.1 C.2.1 dX5_readOperand_59 (by decide) ?_
          refine lv_goto (tgt := 64) C.1 C.2.1 dX5_readOperand_60 (by decide) ?_
          exact tX5_readOperand_b64 C hR hh hw (lv_sub hl [1, 0] rfl)
    · replace hh := hh.2 c29
      refine lv_aload_n C.1 C.2.1 dX5_readOperand_32 rfl (lv_at hl 1 rfl) ?_
      refine c_Vi C hw (ctX5_countKnot l D h cI cL cF cM u14.1 u14.2.1 u14.2.2 hh) (cwV 0 C.2.2.2.2 (gd_V w_868 w_870 w_23 w_118 w_871) rfl rfl rfl cdX5_countKnot ⟨Nat.le_of_ble_eq_true rfl, Nat.le_of_ble_eq_true rfl⟩) rfl (kd_lt kp12 (by decide)) (ce5 kp12) rfl hl.1 (Nat.le_of_ble_eq_true rfl) dX5_readOperand_33 ⟨Nat.zero_le _, Nat.zero_le _⟩ (fun r33 u33 H locs hh hw => ?_) rfl
      refine lv_if_eq (tgt := 45) C.1 C.2.1 dX5_readOperand_36 (by decide) (fun c36 => ?_) (fun c36 => ?_)
      · replace hh := hh.1 c36
        exact tX5_readOperand_b45 C hR hh hw (lv_sub hl [1] rfl)
      · replace hh := hh.2 c36
        refine lv_aload_n C.1 C.2.1 dX5_readOperand_39 rfl (lv_at hl 1 rfl) ?_
        refine lv_bipush (v := (26 : Int32)) C.1 C.2.1 dX5_readOperand_40 (by decide) ?_
        refine c_Vv C hw (ctX5_await l D h cI cL cF cM u33.1 u33.2.1 u33.2.2 (26 : Int32) hh) (cwV 1 C.2.2.2.2 (gd_V w_864 w_866 w_22 w_118 w_867) rfl rfl rfl cdX5_await ⟨Nat.le_of_ble_eq_true rfl, Nat.le_of_ble_eq_true rfl⟩) rfl (kd_lt kp12 (by decide)) (ce5 kp12) rfl hl.1 (Nat.le_of_ble_eq_true rfl) dX5_readOperand_42 ⟨Nat.zero_le _, Nat.zero_le _⟩ (fun u42 H locs hh hw => ?_) rfl
        exact tX5_readOperand_b45 C hR hh hw (lv_sub hl [1] rfl)
  · replace hh := hh.2 c17
    refine lv_aload_n C.1 C.2.1 dX5_readOperand_20 rfl (lv_at hl 1 rfl) ?_
    refine c_Vv C hw (ctX5_openBracket l D h cI cL cF cM u14.1 u14.2.1 u14.2.2 hh) (cwV 0 C.2.2.2.2 (gd_V w_860 w_862 w_21 w_118 w_863) rfl rfl rfl cdX5_openBracket ⟨Nat.le_of_ble_eq_true rfl, Nat.le_of_ble_eq_true rfl⟩) rfl (kd_lt kp12 (by decide)) (ce5 kp12) rfl hl.1 (Nat.le_of_ble_eq_true rfl) dX5_readOperand_21 ⟨Nat.zero_le _, Nat.zero_le _⟩ (fun u21 H locs hh hw => ?_) rfl
    refine lv_iconst (v := (1 : Int32)) C.1 C.2.1 dX5_readOperand_24 (by decide) ?_
    exact hR _ _ _ (u21.1, u21.2.1, u21.2.2) _ _ dX5_readOperand_25 rfl hh hw
theorem ctX5_readOperand (l : Launch) (D : va_G) (h : Nat → Nat) (cI cL cF cM : ClassId) (F : Nat → Nat → Int32) (L : Nat → Nat → Int64) (r : Nat → Nat → Nat) {K : Int32 → cS → Prop} (hh : wpX5_readOperand F L r K) : Ci l yX5_readOperand wsX5_readOperand rmX5_readOperand [.ref (h 12)] D (cT cI cL cF cM) (cWu h cI cL cF cM) (F, L, r) K := by
  refine Ci_of (cc := cX5_readOperand) (maxL := 3) (by decide) rfl (Nat.le_of_ble_eq_true rfl) ?_
  intro p e s m below meth c A Q C hw hR ls hl
  exact tX5_readOperand_b0 C hR hh hw hl
theorem cdX5_readOperand : yX5_readOperand.cls = RX5 ∧ yX5_readOperand.cls ≠ "java/lang/invoke/MethodHandle" ∧ yX5_readOperand.cls ≠ "java/lang/invoke/VarHandle" ∧ (parseMethodDescriptor yX5_readOperand.desc).map (fun d => d.parameters.length) = some 0 := by decide +kernel
abbrev rmX5_joinDownTo : Room := { frames := 1, cells := 0, slots := 0, locals := 21 }
set_option maxHeartbeats 4000000 in
set_option maxRecDepth 100000 in
theorem tX5_joinDownTo_b67 {K : cS → Prop} (C : CallFix p m c cX5_joinDownTo 2 s args wsX5_joinDownTo RX5) (hR : Rtv p l e rmX5_joinDownTo s m args below meth c cX5_joinDownTo D A (cT cI cL cF cM) (cWu h cI cL cF cM) K Q) {F : Nat → Nat → Int32} {L : Nat → Nat → Int64} {r : Nat → Nat → Nat} (hh : wpX5_joinDownTo_b67 F L r K) {H : Heap} {locs : List Loc} {ls : Array Slot} (hw : Wd D A s (cT cI cL cF cM) (cW h cI cL cF cM F L r) H locs) (hl : lv_has ls 2 [(0, .ref (h 12))]) : W p l e rmX5_joinDownTo s m args below meth c H locs 0 0 Q (F0 m 67 ls []) := by
  unfold wpX5_joinDownTo_b67 at hh
  exact hR _ _ (F, L, r) _ _ dX5_joinDownTo_67 hh hw
set_option maxHeartbeats 4000000 in
set_option maxRecDepth 100000 in
theorem tX5_joinDownTo_b0_body {B0 : (Nat → Nat → Int32) → (Nat → Nat → Int64) → (Nat → Nat → Nat) → Int32 → Prop} {K : cS → Prop} (C : CallFix p m c cX5_joinDownTo 2 s args wsX5_joinDownTo RX5) (hR : Rtv p l e rmX5_joinDownTo s m args below meth c cX5_joinDownTo D A (cT cI cL cF cM) (cWu h cI cL cF cM) K Q) (hB0 : ∀ (F : Nat → Nat → Int32) (L : Nat → Nat → Int64) (r : Nat → Nat → Nat) (x1 : Int32) (H : Heap) (locs : List Loc) (ls : Array Slot), B0 F L r x1 → Wd D A s (cT cI cL cF cM) (cW h cI cL cF cM F L r) H locs → lv_has ls 2 [(0, .ref (h 12)), (1, .int x1)] → W p l e rmX5_joinDownTo s m args below meth c H locs 0 0 Q (F0 m 0 ls [])) {F : Nat → Nat → Int32} {L : Nat → Nat → Int64} {r : Nat → Nat → Nat} {x1 : Int32} (hh : wpX5_joinDownTo_b0_body B0 F L r x1 K) {H : Heap} {locs : List Loc} {ls : Array Slot} (hw : Wd D A s (cT cI cL cF cM) (cW h cI cL cF cM F L r) H locs) (hl : lv_has ls 2 [(0, .ref (h 12)), (1, .int x1)]) : W p l e rmX5_joinDownTo s m args below meth c H locs 0 0 Q (F0 m 0 ls []) := by
  unfold wpX5_joinDownTo_b0_body at hh
  refine lv_aload_n C.1 C.2.1 dX5_joinDownTo_0 rfl (lv_at hl 0 rfl) ?_
  refine c_get C hw (inC inW5) (kd_lt kp12 (by decide)) (ce5 kp12) rfl 9 (by decide) (wc w_316) (v := .int (F 12 9)) rfl dX5_joinDownTo_1 ?_
  refine lv_if_le (tgt := 67) C.1 C.2.1 dX5_joinDownTo_4 (by decide) (fun c4 => ?_) (fun c4 => ?_)
  · replace hh := hh.1 c4
    exact tX5_joinDownTo_b67 C hR hh hw (lv_sub hl [0] rfl)
  · replace hh := hh.2 c4
    refine lv_aload_n C.1 C.2.1 dX5_joinDownTo_7 rfl (lv_at hl 0 rfl) ?_
    refine c_get C hw (inC inW5) (kd_lt kp12 (by decide)) (ce5 kp12) rfl 4 (by decide) (wc w_311) (v := .ref (h 16)) rfl dX5_joinDownTo_8 ?_
    refine lv_aload_n C.1 C.2.1 dX5_joinDownTo_11 rfl (lv_at hl 0 rfl) ?_
    refine c_get C hw (inC inW5) (kd_lt kp12 (by decide)) (ce5 kp12) rfl 9 (by decide) (wc w_316) (v := .int (F 12 9)) rfl dX5_joinDownTo_12 ?_
    refine lv_iconst (v := (1 : Int32)) C.1 C.2.1 dX5_joinDownTo_15 (by decide) ?_
    refine lv_isub C.1 C.2.1 dX5_joinDownTo_16 ?_
    obtain ⟨hi17, hh⟩ := hh
    refine c_ial C hw (kd_lt kp16 (by decide)) (ce18 kp16) hi17 dX5_joinDownTo_17 ?_
    refine lv_iload_n C.1 C.2.1 dX5_joinDownTo_18 rfl (lv_at hl 1 rfl) ?_
    refine lv_icmp_lt (tgt := 67) C.1 C.2.1 dX5_joinDownTo_19 (by decide) (fun c19 => ?_) (fun c19 => ?_)
    · replace hh := hh.1 c19
      exact tX5_joinDownTo_b67 C hR hh hw (lv_sub hl [0] rfl)
    · replace hh := hh.2 c19
      refine lv_aload_n C.1 C.2.1 dX5_joinDownTo_22 rfl (lv_at hl 0 rfl) ?_
      refine c_get C hw (inC inW5) (kd_lt kp12 (by decide)) (ce5 kp12) rfl 4 (by decide) (wc w_311) (v := .ref (h 16)) rfl dX5_joinDownTo_23 ?_
      refine lv_aload_n C.1 C.2.1 dX5_joinDownTo_26 rfl (lv_at hl 0 rfl) ?_
      refine c_get C hw (inC inW5) (kd_lt kp12 (by decide)) (ce5 kp12) rfl 9 (by decide) (wc w_316) (v := .int (F 12 9)) rfl dX5_joinDownTo_27 ?_
      refine lv_iconst (v := (1 : Int32)) C.1 C.2.1 dX5_joinDownTo_30 (by decide) ?_
      refine lv_isub C.1 C.2.1 dX5_joinDownTo_31 ?_
      obtain ⟨hi32, hh⟩ := hh
      refine c_ial C hw (kd_lt kp16 (by decide)) (ce18 kp16) hi32 dX5_joinDownTo_32 ?_
      refine lv_bipush (v := (27 : Int32)) C.1 C.2.1 dX5_joinDownTo_33 (by decide) ?_
      refine lv_icmp_eq (tgt := 67) C.1 C.2.1 dX5_joinDownTo_35 (by decide) (fun c35 => ?_) (fun c35 => ?_)
      · replace hh := hh.1 c35
        exact tX5_joinDownTo_b67 C hR hh hw (lv_sub hl [0] rfl)
      · replace hh := hh.2 c35
        refine lv_aload_n C.1 C.2.1 dX5_joinDownTo_38 rfl (lv_at hl 0 rfl) ?_
        refine lv_dup C.1 C.2.1 dX5_joinDownTo_39 rfl ?_
        refine c_get C hw (inC inW5) (kd_lt kp12 (by decide)) (ce5 kp12) rfl 9 (by decide) (wc w_316) (v := .int (F 12 9)) rfl dX5_joinDownTo_40 ?_
        refine lv_iconst (v := (1 : Int32)) C.1 C.2.1 dX5_joinDownTo_43 (by decide) ?_
        refine lv_isub C.1 C.2.1 dX5_joinDownTo_44 ?_
        refine c_puti C hw (inC inW5) tyX5 tyX5_ok nmX5 (kd_lt kp12 (by decide)) (ce5 kp12) rfl 9 (by decide) (wc w_316) rfl (ty := .int) (by decide +kernel) rfl rfl (Nat.le_of_ble_eq_true rfl) rfl dX5_joinDownTo_45 (fun H locs hw => ?_)
        refine lv_aload_n C.1 C.2.1 dX5_joinDownTo_48 rfl (lv_at hl 0 rfl) ?_
        refine c_get C hw (inC inW5) (kd_lt kp12 (by decide)) (ce5 kp12) rfl 5 (by decide) (wc w_312) (v := .ref (h (r 12 5))) rfl dX5_joinDownTo_49 ?_
        refine lv_aload_n C.1 C.2.1 dX5_joinDownTo_52 rfl (lv_at hl 0 rfl) ?_
        refine c_get C hw (inC inW5) (kd_lt kp12 (by decide)) (ce5 kp12) rfl 4 (by decide) (wc w_311) (v := .ref (h 16)) rfl dX5_joinDownTo_53 ?_
        refine lv_aload_n C.1 C.2.1 dX5_joinDownTo_56 rfl (lv_at hl 0 rfl) ?_
        refine c_get C hw (inC inW5) (kd_lt kp12 (by decide)) (ce5 kp12) rfl 9 (by decide) (wc w_316) (v := .int ((pt F 12 9 ((F 12 9) - (1 : Int32))) 12 9)) rfl dX5_joinDownTo_57 ?_
        obtain ⟨hi60, hh⟩ := hh
        refine c_ial C hw (kd_lt kp16 (by decide)) (ce18 kp16) hi60 dX5_joinDownTo_60 ?_
        obtain ⟨hk0, hh⟩ := hh
        refine c_Vv C hw (ctX4_addCode l D h cI cL cF cM (r 12 5) hk0 (pt F 12 9 ((F 12 9) - (1 : Int32))) L r ((pt F 12 9 ((F 12 9) - (1 : Int32))) 16 (ix ((pt F 12 9 ((F 12 9) - (1 : Int32))) 12 9))) hh) (cwV 1 C.2.2.2.2 (gd_V w_876 w_877 w_878 w_119 w_879) rfl rfl rfl cdX4_addCode ⟨Nat.le_of_ble_eq_true rfl, Nat.le_of_ble_eq_true rfl⟩) rfl (kd_lt hk0 (by decide)) (ce4 hk0) rfl hl.1 (Nat.le_of_ble_eq_true rfl) dX5_joinDownTo_61 ⟨Nat.zero_le _, Nat.zero_le _⟩ (fun u61 H locs hh hw => ?_) rfl
        refine lv_goto (tgt := 0) C.1 C.2.1 dX5_joinDownTo_64 (by decide) ?_
        exact hB0 _ _ _ _ _ _ _ hh hw hl
theorem tX5_joinDownTo_b0 {K : cS → Prop} (C : CallFix p m c cX5_joinDownTo 2 s args wsX5_joinDownTo RX5) (hR : Rtv p l e rmX5_joinDownTo s m args below meth c cX5_joinDownTo D A (cT cI cL cF cM) (cWu h cI cL cF cM) K Q) (n : Nat) : ∀ (F : Nat → Nat → Int32) (L : Nat → Nat → Int64) (r : Nat → Nat → Nat) (x1 : Int32) (H : Heap) (locs : List Loc) (ls : Array Slot), wpX5_joinDownTo_b0 n F L r x1 K → Wd D A s (cT cI cL cF cM) (cW h cI cL cF cM F L r) H locs → lv_has ls 2 [(0, .ref (h 12)), (1, .int x1)] → W p l e rmX5_joinDownTo s m args below meth c H locs 0 0 Q (F0 m 0 ls []) := by
  induction n with
  | zero => intro F L r x1 H locs ls hh; exact hh.elim
  | succ n ih => intro F L r x1 H locs ls hh hw hl; exact tX5_joinDownTo_b0_body C hR ih hh hw hl
theorem ctX5_joinDownTo (l : Launch) (D : va_G) (h : Nat → Nat) (cI cL cF cM : ClassId) (F : Nat → Nat → Int32) (L : Nat → Nat → Int64) (r : Nat → Nat → Nat) (x1 : Int32) {K : cS → Prop} (hh : wpX5_joinDownTo F L r x1 K) : Cv l yX5_joinDownTo wsX5_joinDownTo rmX5_joinDownTo [.ref (h 12), .int x1] D (cT cI cL cF cM) (cWu h cI cL cF cM) (F, L, r) K := by
  refine Cv_of (cc := cX5_joinDownTo) (maxL := 2) (by decide) rfl (Nat.le_of_ble_eq_true rfl) ?_
  intro p e s m below meth c A Q C hw hR ls hl
  obtain ⟨n, hh⟩ := hh
  exact tX5_joinDownTo_b0 C hR n _ _ _ _ _ _ _ hh hw hl
theorem cdX5_joinDownTo : yX5_joinDownTo.cls = RX5 ∧ yX5_joinDownTo.cls ≠ "java/lang/invoke/MethodHandle" ∧ yX5_joinDownTo.cls ≠ "java/lang/invoke/VarHandle" ∧ (parseMethodDescriptor yX5_joinDownTo.desc).map (fun d => d.parameters.length) = some 1 := by decide +kernel
abbrev rmX5_closeBracket : Room := { frames := 2, cells := 0, slots := 0, locals := 42 }
set_option maxHeartbeats 4000000 in
set_option maxRecDepth 100000 in
theorem tX5_closeBracket_b33 {K : cS → Prop} (C : CallFix p m c cX5_closeBracket 1 s args wsX5_closeBracket RX5) (hR : Rtv p l e rmX5_closeBracket s m args below meth c cX5_closeBracket D A (cT cI cL cF cM) (cWu h cI cL cF cM) K Q) {F : Nat → Nat → Int32} {L : Nat → Nat → Int64} {r : Nat → Nat → Nat} (hh : wpX5_closeBracket_b33 F L r K) {H : Heap} {locs : List Loc} {ls : Array Slot} (hw : Wd D A s (cT cI cL cF cM) (cW h cI cL cF cM F L r) H locs) (hl : lv_has ls 1 [(0, .ref (h 12))]) : W p l e rmX5_closeBracket s m args below meth c H locs 0 0 Q (F0 m 33 ls []) := by
  unfold wpX5_closeBracket_b33 at hh
  exact hR _ _ (F, L, r) _ _ dX5_closeBracket_33 hh hw
set_option maxHeartbeats 4000000 in
set_option maxRecDepth 100000 in
theorem tX5_closeBracket_b0 {K : cS → Prop} (C : CallFix p m c cX5_closeBracket 1 s args wsX5_closeBracket RX5) (hR : Rtv p l e rmX5_closeBracket s m args below meth c cX5_closeBracket D A (cT cI cL cF cM) (cWu h cI cL cF cM) K Q) {F : Nat → Nat → Int32} {L : Nat → Nat → Int64} {r : Nat → Nat → Nat} (hh : wpX5_closeBracket_b0 F L r K) {H : Heap} {locs : List Loc} {ls : Array Slot} (hw : Wd D A s (cT cI cL cF cM) (cW h cI cL cF cM F L r) H locs) (hl : lv_has ls 1 [(0, .ref (h 12))]) : W p l e rmX5_closeBracket s m args below meth c H locs 0 0 Q (F0 m 0 ls []) := by
  unfold wpX5_closeBracket_b0 at hh
  refine lv_aload_n C.1 C.2.1 dX5_closeBracket_0 rfl (lv_at hl 0 rfl) ?_
  refine lv_bipush (v := (24 : Int32)) C.1 C.2.1 dX5_closeBracket_1 (by decide) ?_
  refine c_Vv C hw (ctX5_joinDownTo l D h cI cL cF cM F L r (24 : Int32) hh) (cwV 1 C.2.2.2.2 (gd_V w_880 w_882 w_25 w_118 w_883) rfl rfl rfl cdX5_joinDownTo ⟨Nat.le_of_ble_eq_true rfl, Nat.le_of_ble_eq_true rfl⟩) rfl (kd_lt kp12 (by decide)) (ce5 kp12) rfl hl.1 (Nat.le_of_ble_eq_true rfl) dX5_closeBracket_3 ⟨Nat.zero_le _, Nat.zero_le _⟩ (fun u3 H locs hh hw => ?_) rfl
  refine lv_aload_n C.1 C.2.1 dX5_closeBracket_6 rfl (lv_at hl 0 rfl) ?_
  refine lv_dup C.1 C.2.1 dX5_closeBracket_7 rfl ?_
  refine c_get C hw (inC inW5) (kd_lt kp12 (by decide)) (ce5 kp12) rfl 8 (by decide) (wc w_315) (v := .int (u3.1 12 8)) rfl dX5_closeBracket_8 ?_
  refine lv_iconst (v := (1 : Int32)) C.1 C.2.1 dX5_closeBracket_11 (by decide) ?_
  refine lv_isub C.1 C.2.1 dX5_closeBracket_12 ?_
  refine c_puti C hw (inC inW5) tyX5 tyX5_ok nmX5 (kd_lt kp12 (by decide)) (ce5 kp12) rfl 8 (by decide) (wc w_315) rfl (ty := .int) (by decide +kernel) rfl rfl (Nat.le_of_ble_eq_true rfl) rfl dX5_closeBracket_13 (fun H locs hw => ?_)
  refine lv_aload_n C.1 C.2.1 dX5_closeBracket_16 rfl (lv_at hl 0 rfl) ?_
  refine c_get C hw (inC inW5) (kd_lt kp12 (by decide)) (ce5 kp12) rfl 9 (by decide) (wc w_316) (v := .int ((pt u3.1 12 8 ((u3.1 12 8) - (1 : Int32))) 12 9)) rfl dX5_closeBracket_17 ?_
  refine lv_if_le (tgt := 33) C.1 C.2.1 dX5_closeBracket_20 (by decide) (fun c20 => ?_) (fun c20 => ?_)
  · replace hh := hh.1 c20
    exact tX5_closeBracket_b33 C hR hh hw hl
  · replace hh := hh.2 c20
    refine lv_aload_n C.1 C.2.1 dX5_closeBracket_23 rfl (lv_at hl 0 rfl) ?_
    refine lv_dup C.1 C.2.1 dX5_closeBracket_24 rfl ?_
    refine c_get C hw (inC inW5) (kd_lt kp12 (by decide)) (ce5 kp12) rfl 9 (by decide) (wc w_316) (v := .int ((pt u3.1 12 8 ((u3.1 12 8) - (1 : Int32))) 12 9)) rfl dX5_closeBracket_25 ?_
    refine lv_iconst (v := (1 : Int32)) C.1 C.2.1 dX5_closeBracket_28 (by decide) ?_
    refine lv_isub C.1 C.2.1 dX5_closeBracket_29 ?_
    refine c_puti C hw (inC inW5) tyX5 tyX5_ok nmX5 (kd_lt kp12 (by decide)) (ce5 kp12) rfl 9 (by decide) (wc w_316) rfl (ty := .int) (by decide +kernel) rfl rfl (Nat.le_of_ble_eq_true rfl) rfl dX5_closeBracket_30 (fun H locs hw => ?_)
    exact tX5_closeBracket_b33 C hR hh hw hl
theorem ctX5_closeBracket (l : Launch) (D : va_G) (h : Nat → Nat) (cI cL cF cM : ClassId) (F : Nat → Nat → Int32) (L : Nat → Nat → Int64) (r : Nat → Nat → Nat) {K : cS → Prop} (hh : wpX5_closeBracket F L r K) : Cv l yX5_closeBracket wsX5_closeBracket rmX5_closeBracket [.ref (h 12)] D (cT cI cL cF cM) (cWu h cI cL cF cM) (F, L, r) K := by
  refine Cv_of (cc := cX5_closeBracket) (maxL := 1) (by decide) rfl (Nat.le_of_ble_eq_true rfl) ?_
  intro p e s m below meth c A Q C hw hR ls hl
  exact tX5_closeBracket_b0 C hR hh hw hl
theorem cdX5_closeBracket : yX5_closeBracket.cls = RX5 ∧ yX5_closeBracket.cls ≠ "java/lang/invoke/MethodHandle" ∧ yX5_closeBracket.cls ≠ "java/lang/invoke/VarHandle" ∧ (parseMethodDescriptor yX5_closeBracket.desc).map (fun d => d.parameters.length) = some 0 := by decide +kernel
abbrev rmX5_readJoint : Room := { frames := 2, cells := 0, slots := 0, locals := 42 }
set_option maxHeartbeats 4000000 in
set_option maxRecDepth 100000 in
theorem tX5_readJoint_b67 {K : cS → Prop} (C : CallFix p m c cX5_readJoint 3 s args wsX5_readJoint RX5) (hR : Rtv p l e rmX5_readJoint s m args below meth c cX5_readJoint D A (cT cI cL cF cM) (cWu h cI cL cF cM) K Q) {F : Nat → Nat → Int32} {L : Nat → Nat → Int64} {r : Nat → Nat → Nat} (hh : wpX5_readJoint_b67 F L r K) {H : Heap} {locs : List Loc} {ls : Array Slot} (hw : Wd D A s (cT cI cL cF cM) (cW h cI cL cF cM F L r) H locs) (hl : lv_has ls 3 [(0, .ref (h 12))]) : W p l e rmX5_readJoint s m args below meth c H locs 0 0 Q (F0 m 67 ls []) := by
  unfold wpX5_readJoint_b67 at hh
  exact hR _ _ (F, L, r) _ _ dX5_readJoint_67 hh hw
set_option maxHeartbeats 4000000 in
set_option maxRecDepth 100000 in
theorem tX5_readJoint_b56 {K : cS → Prop} (C : CallFix p m c cX5_readJoint 3 s args wsX5_readJoint RX5) (hR : Rtv p l e rmX5_readJoint s m args below meth c cX5_readJoint D A (cT cI cL cF cM) (cWu h cI cL cF cM) K Q) {F : Nat → Nat → Int32} {L : Nat → Nat → Int64} {r : Nat → Nat → Nat} {k0 : Int32} (hh : wpX5_readJoint_b56 F L r k0 K) {H : Heap} {locs : List Loc} {ls : Array Slot} (hw : Wd D A s (cT cI cL cF cM) (cW h cI cL cF cM F L r) H locs) (hl : lv_has ls 3 [(0, .ref (h 12))]) : W p l e rmX5_readJoint s m args below meth c H locs 0 0 Q (F0 m 56 ls [.int k0]) := by
  unfold wpX5_readJoint_b56 at hh
  refine lv_istore_n (lv' := [(2, .int k0), (0, .ref (h 12))]) C.1 C.2.1 dX5_readJoint_56 rfl hl (by decide) rfl (fun ls hl => ?_)
  refine lv_aload_n C.1 C.2.1 dX5_readJoint_57 rfl (lv_at hl 1 rfl) ?_
  refine lv_iload_n C.1 C.2.1 dX5_readJoint_58 rfl (lv_at hl 0 rfl) ?_
  refine c_Vv C hw (ctX5_joinDownTo l D h cI cL cF cM F L r k0 hh) (cwV 1 C.2.2.2.2 (gd_V w_880 w_882 w_25 w_118 w_883) rfl rfl rfl cdX5_joinDownTo ⟨Nat.le_of_ble_eq_true rfl, Nat.le_of_ble_eq_true rfl⟩) rfl (kd_lt kp12 (by decide)) (ce5 kp12) rfl hl.1 (Nat.le_of_ble_eq_true rfl) dX5_readJoint_59 ⟨Nat.zero_le _, Nat.zero_le _⟩ (fun u59 H locs hh hw => ?_) rfl
  refine lv_aload_n C.1 C.2.1 dX5_readJoint_62 rfl (lv_at hl 1 rfl) ?_
  refine lv_iload_n C.1 C.2.1 dX5_readJoint_63 rfl (lv_at hl 0 rfl) ?_
  refine c_Vv C hw (ctX5_await l D h cI cL cF cM u59.1 u59.2.1 u59.2.2 k0 hh) (cwV 1 C.2.2.2.2 (gd_V w_864 w_866 w_22 w_118 w_867) rfl rfl rfl cdX5_await ⟨Nat.le_of_ble_eq_true rfl, Nat.le_of_ble_eq_true rfl⟩) rfl (kd_lt kp12 (by decide)) (ce5 kp12) rfl hl.1 (Nat.le_of_ble_eq_true rfl) dX5_readJoint_64 ⟨Nat.zero_le _, Nat.zero_le _⟩ (fun u64 H locs hh hw => ?_) rfl
  exact tX5_readJoint_b67 C hR hh hw (lv_sub hl [1] rfl)
set_option maxHeartbeats 4000000 in
set_option maxRecDepth 100000 in
theorem tX5_readJoint_b37 {K : cS → Prop} (C : CallFix p m c cX5_readJoint 3 s args wsX5_readJoint RX5) (hR : Rtv p l e rmX5_readJoint s m args below meth c cX5_readJoint D A (cT cI cL cF cM) (cWu h cI cL cF cM) K Q) {F : Nat → Nat → Int32} {L : Nat → Nat → Int64} {r : Nat → Nat → Nat} {x1 : Int32} (hh : wpX5_readJoint_b37 F L r x1 K) {H : Heap} {locs : List Loc} {ls : Array Slot} (hw : Wd D A s (cT cI cL cF cM) (cW h cI cL cF cM F L r) H locs) (hl : lv_has ls 3 [(0, .ref (h 12)), (1, .int x1)]) : W p l e rmX5_readJoint s m args below meth c H locs 0 0 Q (F0 m 37 ls []) := by
  unfold wpX5_readJoint_b37 at hh
  refine lv_aload_n C.1 C.2.1 dX5_readJoint_37 rfl (lv_at hl 0 rfl) ?_
  refine c_Vi C hw (ctX5_countKnot l D h cI cL cF cM F L r hh) (cwV 0 C.2.2.2.2 (gd_V w_868 w_870 w_23 w_118 w_871) rfl rfl rfl cdX5_countKnot ⟨Nat.le_of_ble_eq_true rfl, Nat.le_of_ble_eq_true rfl⟩) rfl (kd_lt kp12 (by decide)) (ce5 kp12) rfl hl.1 (Nat.le_of_ble_eq_true rfl) dX5_readJoint_38 ⟨Nat.zero_le _, Nat.zero_le _⟩ (fun r38 u38 H locs hh hw => ?_) rfl
  refine lv_if_eq (tgt := 67) C.1 C.2.1 dX5_readJoint_41 (by decide) (fun c41 => ?_) (fun c41 => ?_)
  · replace hh := hh.1 c41
    exact tX5_readJoint_b67 C hR hh hw (lv_sub hl [0] rfl)
  · replace hh := hh.2 c41
    refine lv_iload_n C.1 C.2.1 dX5_readJoint_44 rfl (lv_at hl 1 rfl) ?_
    refine lv_iconst (v := (5 : Int32)) C.1 C.2.1 dX5_readJoint_45 (by decide) ?_
    refine lv_icmp_ne (tgt := 54) C.1 C.2.1 dX5_readJoint_46 (by decide) (fun c46 => ?_) (fun c46 => ?_)
    · replace hh := hh.1 c46
      refine lv_bipush (v := (25 : Int32)) C.1 C.2.1 dX5_readJoint_54 (by decide) ?_
      exact tX5_readJoint_b56 C hR hh hw (lv_sub hl [0] rfl)
    · replace hh := hh.2 c46
      refine lv_bipush (v := (24 : Int32)) C.1 C.2.1 dX5_readJoint_49 (by decide) ?_
      refine lv_goto (tgt := 56) C.1 C.2.1 dX5_readJoint_51 (by decide) ?_
      exact tX5_readJoint_b56 C hR hh hw (lv_sub hl [0] rfl)
set_option maxHeartbeats 4000000 in
set_option maxRecDepth 100000 in
theorem tX5_readJoint_b0 {K : cS → Prop} (C : CallFix p m c cX5_readJoint 3 s args wsX5_readJoint RX5) (hR : Rtv p l e rmX5_readJoint s m args below meth c cX5_readJoint D A (cT cI cL cF cM) (cWu h cI cL cF cM) K Q) {F : Nat → Nat → Int32} {L : Nat → Nat → Int64} {r : Nat → Nat → Nat} (hh : wpX5_readJoint_b0 F L r K) {H : Heap} {locs : List Loc} {ls : Array Slot} (hw : Wd D A s (cT cI cL cF cM) (cW h cI cL cF cM F L r) H locs) (hl : lv_has ls 3 [(0, .ref (h 12))]) : W p l e rmX5_readJoint s m args below meth c H locs 0 0 Q (F0 m 0 ls []) := by
  unfold wpX5_readJoint_b0 at hh
  refine lv_aload_n C.1 C.2.1 dX5_readJoint_0 rfl (lv_at hl 0 rfl) ?_
  refine c_get C hw (inC inW5) (kd_lt kp12 (by decide)) (ce5 kp12) rfl 0 (by decide) (wc w_307) (v := .ref (h 4)) rfl dX5_readJoint_1 ?_
  refine c_get C hw (inC inW9) (kd_lt kp4 (by decide)) (ce9 kp4) rfl 6 (by decide) (wc w_171) (v := .int (F 4 6)) rfl dX5_readJoint_4 ?_
  refine lv_istore_n (lv' := [(1, .int (F 4 6)), (0, .ref (h 12))]) C.1 C.2.1 dX5_readJoint_7 rfl hl (by decide) rfl (fun ls hl => ?_)
  refine lv_iload_n C.1 C.2.1 dX5_readJoint_8 rfl (lv_at hl 0 rfl) ?_
  refine lv_iconst (v := (5 : Int32)) C.1 C.2.1 dX5_readJoint_9 (by decide) ?_
  refine lv_icmp_eq (tgt := 37) C.1 C.2.1 dX5_readJoint_10 (by decide) (fun c10 => ?_) (fun c10 => ?_)
  · replace hh := hh.1 c10
    exact tX5_readJoint_b37 C hR hh hw (lv_sub hl [1, 0] rfl)
  · replace hh := hh.2 c10
    refine lv_iload_n C.1 C.2.1 dX5_readJoint_13 rfl (lv_at hl 0 rfl) ?_
    refine lv_bipush (v := (6 : Int32)) C.1 C.2.1 dX5_readJoint_14 (by decide) ?_
    refine lv_icmp_eq (tgt := 37) C.1 C.2.1 dX5_readJoint_16 (by decide) (fun c16 => ?_) (fun c16 => ?_)
    · replace hh := hh.1 c16
      exact tX5_readJoint_b37 C hR hh hw (lv_sub hl [1, 0] rfl)
    · replace hh := hh.2 c16
      refine lv_aload_n C.1 C.2.1 dX5_readJoint_19 rfl (lv_at hl 1 rfl) ?_
      refine c_get C hw (inC inW5) (kd_lt kp12 (by decide)) (ce5 kp12) rfl 0 (by decide) (wc w_307) (v := .ref (h 4)) rfl dX5_readJoint_20 ?_
      refine lv_iconst (v := (1 : Int32)) C.1 C.2.1 dX5_readJoint_23 (by decide) ?_
      refine lv_aload_n C.1 C.2.1 dX5_readJoint_24 rfl (lv_at hl 1 rfl) ?_
      refine c_get C hw (inC inW5) (kd_lt kp12 (by decide)) (ce5 kp12) rfl 0 (by decide) (wc w_307) (v := .ref (h 4)) rfl dX5_readJoint_25 ?_
      refine c_get C hw (inC inW9) (kd_lt kp4 (by decide)) (ce9 kp4) rfl 4 (by decide) (wc w_164) (v := .int (F 4 4)) rfl dX5_readJoint_28 ?_
      refine c_Vv C hw (ctX9_refuse l D h cI cL cF cM F L r (1 : Int32) (F 4 4) hh) (cwV 2 C.2.2.2.2 (gd_V w_838 w_736 w_737 w_115 w_738) rfl rfl rfl cdX9_refuse ⟨Nat.le_of_ble_eq_true rfl, Nat.le_of_ble_eq_true rfl⟩) rfl (kd_lt kp4 (by decide)) (ce9 kp4) rfl hl.1 (Nat.le_of_ble_eq_true rfl) dX5_readJoint_31 ⟨Nat.zero_le _, Nat.zero_le _⟩ (fun u31 H locs hh hw => ?_) rfl
      refine lv_goto (tgt := 67) C.1 C.2.1 dX5_readJoint_34 (by decide) ?_
      exact tX5_readJoint_b67 C hR hh hw (lv_sub hl [1] rfl)
theorem ctX5_readJoint (l : Launch) (D : va_G) (h : Nat → Nat) (cI cL cF cM : ClassId) (F : Nat → Nat → Int32) (L : Nat → Nat → Int64) (r : Nat → Nat → Nat) {K : cS → Prop} (hh : wpX5_readJoint F L r K) : Cv l yX5_readJoint wsX5_readJoint rmX5_readJoint [.ref (h 12)] D (cT cI cL cF cM) (cWu h cI cL cF cM) (F, L, r) K := by
  refine Cv_of (cc := cX5_readJoint) (maxL := 3) (by decide) rfl (Nat.le_of_ble_eq_true rfl) ?_
  intro p e s m below meth c A Q C hw hR ls hl
  exact tX5_readJoint_b0 C hR hh hw hl
theorem cdX5_readJoint : yX5_readJoint.cls = RX5 ∧ yX5_readJoint.cls ≠ "java/lang/invoke/MethodHandle" ∧ yX5_readJoint.cls ≠ "java/lang/invoke/VarHandle" ∧ (parseMethodDescriptor yX5_readJoint.desc).map (fun d => d.parameters.length) = some 0 := by decide +kernel
abbrev rmX5_readExpression : Room := { frames := 3, cells := 0, slots := 0, locals := 64 }
set_option maxHeartbeats 4000000 in
set_option maxRecDepth 100000 in
theorem tX5_readExpression_b124 {K : cS → Prop} (C : CallFix p m c cX5_readExpression 3 s args wsX5_readExpression RX5) (hR : Rtv p l e rmX5_readExpression s m args below meth c cX5_readExpression D A (cT cI cL cF cM) (cWu h cI cL cF cM) K Q) {F : Nat → Nat → Int32} {L : Nat → Nat → Int64} {r : Nat → Nat → Nat} (hh : wpX5_readExpression_b124 F L r K) {H : Heap} {locs : List Loc} {ls : Array Slot} (hw : Wd D A s (cT cI cL cF cM) (cW h cI cL cF cM F L r) H locs) (hl : lv_has ls 3 [(0, .ref (h 12))]) : W p l e rmX5_readExpression s m args below meth c H locs 0 0 Q (F0 m 124 ls []) := by
  unfold wpX5_readExpression_b124 at hh
  exact hR _ _ (F, L, r) _ _ dX5_readExpression_124 hh hw
set_option maxHeartbeats 4000000 in
set_option maxRecDepth 100000 in
theorem tX5_readExpression_b118 {B14 : (Nat → Nat → Int32) → (Nat → Nat → Int64) → (Nat → Nat → Nat) → Int32 → Int32 → Prop} {K : cS → Prop} (C : CallFix p m c cX5_readExpression 3 s args wsX5_readExpression RX5) (hR : Rtv p l e rmX5_readExpression s m args below meth c cX5_readExpression D A (cT cI cL cF cM) (cWu h cI cL cF cM) K Q) (hB14 : ∀ (F : Nat → Nat → Int32) (L : Nat → Nat → Int64) (r : Nat → Nat → Nat) (x1 : Int32) (x2 : Int32) (H : Heap) (locs : List Loc) (ls : Array Slot), B14 F L r x1 x2 → Wd D A s (cT cI cL cF cM) (cW h cI cL cF cM F L r) H locs → lv_has ls 3 [(0, .ref (h 12)), (1, .int x1), (2, .int x2)] → W p l e rmX5_readExpression s m args below meth c H locs 0 0 Q (F0 m 14 ls [])) {F : Nat → Nat → Int32} {L : Nat → Nat → Int64} {r : Nat → Nat → Nat} {x1 : Int32} {x2 : Int32} (hh : wpX5_readExpression_b118 B14 F L r x1 x2 K) {H : Heap} {locs : List Loc} {ls : Array Slot} (hw : Wd D A s (cT cI cL cF cM) (cW h cI cL cF cM F L r) H locs) (hl : lv_has ls 3 [(0, .ref (h 12)), (1, .int x1), (2, .int x2)]) : W p l e rmX5_readExpression s m args below meth c H locs 0 0 Q (F0 m 118 ls []) := by
  unfold wpX5_readExpression_b118 at hh
  refine lv_iinc (v := x2 + (1 : Int32)) (lv' := [(2, .int (x2 + (1 : Int32))), (0, .ref (h 12)), (1, .int x1)]) C.1 C.2.1 dX5_readExpression_118 hl (k := 2) rfl rfl (by decide) rfl (fun ls hl => ?_)
  refine lv_goto (tgt := 14) C.1 C.2.1 dX5_readExpression_121 (by decide) ?_
  exact hB14 _ _ _ _ _ _ _ _ hh hw (lv_sub hl [1, 2, 0] rfl)
set_option maxHeartbeats 4000000 in
set_option maxRecDepth 100000 in
theorem tX5_readExpression_b101 {B14 : (Nat → Nat → Int32) → (Nat → Nat → Int64) → (Nat → Nat → Nat) → Int32 → Int32 → Prop} {K : cS → Prop} (C : CallFix p m c cX5_readExpression 3 s args wsX5_readExpression RX5) (hR : Rtv p l e rmX5_readExpression s m args below meth c cX5_readExpression D A (cT cI cL cF cM) (cWu h cI cL cF cM) K Q) (hB14 : ∀ (F : Nat → Nat → Int32) (L : Nat → Nat → Int64) (r : Nat → Nat → Nat) (x1 : Int32) (x2 : Int32) (H : Heap) (locs : List Loc) (ls : Array Slot), B14 F L r x1 x2 → Wd D A s (cT cI cL cF cM) (cW h cI cL cF cM F L r) H locs → lv_has ls 3 [(0, .ref (h 12)), (1, .int x1), (2, .int x2)] → W p l e rmX5_readExpression s m args below meth c H locs 0 0 Q (F0 m 14 ls [])) {F : Nat → Nat → Int32} {L : Nat → Nat → Int64} {r : Nat → Nat → Nat} {x1 : Int32} {x2 : Int32} (hh : wpX5_readExpression_b101 B14 F L r x1 x2 K) {H : Heap} {locs : List Loc} {ls : Array Slot} (hw : Wd D A s (cT cI cL cF cM) (cW h cI cL cF cM F L r) H locs) (hl : lv_has ls 3 [(0, .ref (h 12)), (1, .int x1), (2, .int x2)]) : W p l e rmX5_readExpression s m args below meth c H locs 0 0 Q (F0 m 101 ls []) := by
  unfold wpX5_readExpression_b101 at hh
  refine lv_aload_n C.1 C.2.1 dX5_readExpression_101 rfl (lv_at hl 0 rfl) ?_
  refine c_get C hw (inC inW5) (kd_lt kp12 (by decide)) (ce5 kp12) rfl 0 (by decide) (wc w_307) (v := .ref (h 4)) rfl dX5_readExpression_102 ?_
  refine c_get C hw (inC inW9) (kd_lt kp4 (by decide)) (ce9 kp4) rfl 1 (by decide) (wc w_155) (v := .int (F 4 1)) rfl dX5_readExpression_105 ?_
  refine lv_if_ne (tgt := 118) C.1 C.2.1 dX5_readExpression_108 (by decide) (fun c108 => ?_) (fun c108 => ?_)
  · replace hh := hh.1 c108
    exact tX5_readExpression_b118 C hR hB14 hh hw hl
  · replace hh := hh.2 c108
    refine lv_aload_n C.1 C.2.1 dX5_readExpression_111 rfl (lv_at hl 0 rfl) ?_
    refine c_get C hw (inC inW5) (kd_lt kp12 (by decide)) (ce5 kp12) rfl 0 (by decide) (wc w_307) (v := .ref (h 4)) rfl dX5_readExpression_112 ?_
    refine c_Vv C hw (ctX9_advance l D h cI cL cF cM F L r hh) (cwV 0 C.2.2.2.2 (gd_V w_839 w_728 w_729 w_115 w_730) rfl rfl rfl cdX9_advance ⟨Nat.le_of_ble_eq_true rfl, Nat.le_of_ble_eq_true rfl⟩) rfl (kd_lt kp4 (by decide)) (ce9 kp4) rfl hl.1 (Nat.le_of_ble_eq_true rfl) dX5_readExpression_115 ⟨Nat.zero_le _, Nat.zero_le _⟩ (fun u115 H locs hh hw => ?_) rfl
    exact tX5_readExpression_b118 C hR hB14 hh hw hl
set_option maxHeartbeats 4000000 in
set_option maxRecDepth 100000 in
theorem tX5_readExpression_b95 {B14 : (Nat → Nat → Int32) → (Nat → Nat → Int64) → (Nat → Nat → Nat) → Int32 → Int32 → Prop} {K : cS → Prop} (C : CallFix p m c cX5_readExpression 3 s args wsX5_readExpression RX5) (hR : Rtv p l e rmX5_readExpression s m args below meth c cX5_readExpression D A (cT cI cL cF cM) (cWu h cI cL cF cM) K Q) (hB14 : ∀ (F : Nat → Nat → Int32) (L : Nat → Nat → Int64) (r : Nat → Nat → Nat) (x1 : Int32) (x2 : Int32) (H : Heap) (locs : List Loc) (ls : Array Slot), B14 F L r x1 x2 → Wd D A s (cT cI cL cF cM) (cW h cI cL cF cM F L r) H locs → lv_has ls 3 [(0, .ref (h 12)), (1, .int x1), (2, .int x2)] → W p l e rmX5_readExpression s m args below meth c H locs 0 0 Q (F0 m 14 ls [])) {F : Nat → Nat → Int32} {L : Nat → Nat → Int64} {r : Nat → Nat → Nat} {x2 : Int32} (hh : wpX5_readExpression_b95 B14 F L r x2 K) {H : Heap} {locs : List Loc} {ls : Array Slot} (hw : Wd D A s (cT cI cL cF cM) (cW h cI cL cF cM F L r) H locs) (hl : lv_has ls 3 [(0, .ref (h 12)), (2, .int x2)]) : W p l e rmX5_readExpression s m args below meth c H locs 0 0 Q (F0 m 95 ls []) := by
  unfold wpX5_readExpression_b95 at hh
  refine lv_aload_n C.1 C.2.1 dX5_readExpression_95 rfl (lv_at hl 0 rfl) ?_
  refine c_Vv C hw (ctX5_readJoint l D h cI cL cF cM F L r hh) (cwV 0 C.2.2.2.2 (gd_V w_888 w_890 w_27 w_118 w_891) rfl rfl rfl cdX5_readJoint ⟨Nat.le_of_ble_eq_true rfl, Nat.le_of_ble_eq_true rfl⟩) rfl (kd_lt kp12 (by decide)) (ce5 kp12) rfl hl.1 (Nat.le_of_ble_eq_true rfl) dX5_readExpression_96 ⟨Nat.zero_le _, Nat.zero_le _⟩ (fun u96 H locs hh hw => ?_) rfl
  refine lv_iconst (v := (1 : Int32)) C.1 C.2.1 dX5_readExpression_99 (by decide) ?_
  refine lv_istore_n (lv' := [(1, .int (1 : Int32)), (0, .ref (h 12)), (2, .int x2)]) C.1 C.2.1 dX5_readExpression_100 rfl hl (by decide) rfl (fun ls hl => ?_)
  exact tX5_readExpression_b101 C hR hB14 hh hw (lv_sub hl [1, 0, 2] rfl)
set_option maxHeartbeats 4000000 in
set_option maxRecDepth 100000 in
theorem tX5_readExpression_b69 {B14 : (Nat → Nat → Int32) → (Nat → Nat → Int64) → (Nat → Nat → Nat) → Int32 → Int32 → Prop} {K : cS → Prop} (C : CallFix p m c cX5_readExpression 3 s args wsX5_readExpression RX5) (hR : Rtv p l e rmX5_readExpression s m args below meth c cX5_readExpression D A (cT cI cL cF cM) (cWu h cI cL cF cM) K Q) (hB14 : ∀ (F : Nat → Nat → Int32) (L : Nat → Nat → Int64) (r : Nat → Nat → Nat) (x1 : Int32) (x2 : Int32) (H : Heap) (locs : List Loc) (ls : Array Slot), B14 F L r x1 x2 → Wd D A s (cT cI cL cF cM) (cW h cI cL cF cM F L r) H locs → lv_has ls 3 [(0, .ref (h 12)), (1, .int x1), (2, .int x2)] → W p l e rmX5_readExpression s m args below meth c H locs 0 0 Q (F0 m 14 ls [])) {F : Nat → Nat → Int32} {L : Nat → Nat → Int64} {r : Nat → Nat → Nat} {x1 : Int32} {x2 : Int32} (hh : wpX5_readExpression_b69 B14 F L r x1 x2 K) {H : Heap} {locs : List Loc} {ls : Array Slot} (hw : Wd D A s (cT cI cL cF cM) (cW h cI cL cF cM F L r) H locs) (hl : lv_has ls 3 [(0, .ref (h 12)), (1, .int x1), (2, .int x2)]) : W p l e rmX5_readExpression s m args below meth c H locs 0 0 Q (F0 m 69 ls []) := by
  unfold wpX5_readExpression_b69 at hh
  refine lv_aload_n C.1 C.2.1 dX5_readExpression_69 rfl (lv_at hl 0 rfl) ?_
  refine c_get C hw (inC inW5) (kd_lt kp12 (by decide)) (ce5 kp12) rfl 8 (by decide) (wc w_315) (v := .int (F 12 8)) rfl dX5_readExpression_70 ?_
  refine lv_if_le (tgt := 95) C.1 C.2.1 dX5_readExpression_73 (by decide) (fun c73 => ?_) (fun c73 => ?_)
  · replace hh := hh.1 c73
    exact tX5_readExpression_b95 C hR hB14 hh hw (lv_sub hl [0, 2] rfl)
  · replace hh := hh.2 c73
    refine lv_aload_n C.1 C.2.1 dX5_readExpression_76 rfl (lv_at hl 0 rfl) ?_
    refine c_get C hw (inC inW5) (kd_lt kp12 (by decide)) (ce5 kp12) rfl 0 (by decide) (wc w_307) (v := .ref (h 4)) rfl dX5_readExpression_77 ?_
    refine lv_bipush (v := (41 : Int32)) C.1 C.2.1 dX5_readExpression_80 (by decide) ?_
    refine c_Vi C hw (ctX9_isSign l D h cI cL cF cM F L r (41 : Int32) hh) (cwV 1 C.2.2.2.2 (gd_V w_851 w_786 w_787 w_115 w_788) rfl rfl rfl cdX9_isSign ⟨Nat.le_of_ble_eq_true rfl, Nat.le_of_ble_eq_true rfl⟩) rfl (kd_lt kp4 (by decide)) (ce9 kp4) rfl hl.1 (Nat.le_of_ble_eq_true rfl) dX5_readExpression_82 ⟨Nat.zero_le _, Nat.zero_le _⟩ (fun r82 u82 H locs hh hw => ?_) rfl
    refine lv_if_eq (tgt := 95) C.1 C.2.1 dX5_readExpression_85 (by decide) (fun c85 => ?_) (fun c85 => ?_)
    · replace hh := hh.1 c85
      exact tX5_readExpression_b95 C hR hB14 hh hw (lv_sub hl [0, 2] rfl)
    · replace hh := hh.2 c85
      refine lv_aload_n C.1 C.2.1 dX5_readExpression_88 rfl (lv_at hl 0 rfl) ?_
      refine c_Vv C hw (ctX5_closeBracket l D h cI cL cF cM u82.1 u82.2.1 u82.2.2 hh) (cwV 0 C.2.2.2.2 (gd_V w_884 w_886 w_26 w_118 w_887) rfl rfl rfl cdX5_closeBracket ⟨Nat.le_of_ble_eq_true rfl, Nat.le_of_ble_eq_true rfl⟩) rfl (kd_lt kp12 (by decide)) (ce5 kp12) rfl hl.1 (Nat.le_of_ble_eq_true rfl) dX5_readExpression_89 ⟨Nat.zero_le _, Nat.zero_le _⟩ (fun u89 H locs hh hw => ?_) rfl
      refine lv_goto (tgt := 101) C.1 C.2.1 dX5_readExpression_92 (by decide) ?_
      exact tX5_readExpression_b101 C hR hB14 hh hw hl
set_option maxHeartbeats 4000000 in
set_option maxRecDepth 100000 in
theorem tX5_readExpression_b14_body {B14 : (Nat → Nat → Int32) → (Nat → Nat → Int64) → (Nat → Nat → Nat) → Int32 → Int32 → Prop} {K : cS → Prop} (C : CallFix p m c cX5_readExpression 3 s args wsX5_readExpression RX5) (hR : Rtv p l e rmX5_readExpression s m args below meth c cX5_readExpression D A (cT cI cL cF cM) (cWu h cI cL cF cM) K Q) (hB14 : ∀ (F : Nat → Nat → Int32) (L : Nat → Nat → Int64) (r : Nat → Nat → Nat) (x1 : Int32) (x2 : Int32) (H : Heap) (locs : List Loc) (ls : Array Slot), B14 F L r x1 x2 → Wd D A s (cT cI cL cF cM) (cW h cI cL cF cM F L r) H locs → lv_has ls 3 [(0, .ref (h 12)), (1, .int x1), (2, .int x2)] → W p l e rmX5_readExpression s m args below meth c H locs 0 0 Q (F0 m 14 ls [])) {F : Nat → Nat → Int32} {L : Nat → Nat → Int64} {r : Nat → Nat → Nat} {x1 : Int32} {x2 : Int32} (hh : wpX5_readExpression_b14_body B14 F L r x1 x2 K) {H : Heap} {locs : List Loc} {ls : Array Slot} (hw : Wd D A s (cT cI cL cF cM) (cW h cI cL cF cM F L r) H locs) (hl : lv_has ls 3 [(0, .ref (h 12)), (1, .int x1), (2, .int x2)]) : W p l e rmX5_readExpression s m args below meth c H locs 0 0 Q (F0 m 14 ls []) := by
  unfold wpX5_readExpression_b14_body at hh
  refine lv_iload_n C.1 C.2.1 dX5_readExpression_14 rfl (lv_at hl 2 rfl) ?_
  refine lv_sipush (v := (500 : Int32)) C.1 C.2.1 dX5_readExpression_15 (by decide) ?_
  refine lv_icmp_gt (tgt := 124) C.1 C.2.1 dX5_readExpression_18 (by decide) (fun c18 => ?_) (fun c18 => ?_)
  · replace hh := hh.1 c18
    exact tX5_readExpression_b124 C hR hh hw (lv_sub hl [0] rfl)
  · replace hh := hh.2 c18
    refine lv_aload_n C.1 C.2.1 dX5_readExpression_21 rfl (lv_at hl 0 rfl) ?_
    refine c_get C hw (inC inW5) (kd_lt kp12 (by decide)) (ce5 kp12) rfl 0 (by decide) (wc w_307) (v := .ref (h 4)) rfl dX5_readExpression_22 ?_
    refine c_get C hw (inC inW9) (kd_lt kp4 (by decide)) (ce9 kp4) rfl 1 (by decide) (wc w_155) (v := .int (F 4 1)) rfl dX5_readExpression_25 ?_
    refine lv_if_ne (tgt := 124) C.1 C.2.1 dX5_readExpression_28 (by decide) (fun c28 => ?_) (fun c28 => ?_)
    · replace hh := hh.1 c28
      exact tX5_readExpression_b124 C hR hh hw (lv_sub hl [0] rfl)
    · replace hh := hh.2 c28
      refine lv_iload_n C.1 C.2.1 dX5_readExpression_31 rfl (lv_at hl 1 rfl) ?_
      refine lv_if_eq (tgt := 43) C.1 C.2.1 dX5_readExpression_32 (by decide) (fun c32 => ?_) (fun c32 => ?_)
      · replace hh := hh.1 c32
        refine lv_aload_n C.1 C.2.1 dX5_readExpression_43 rfl (lv_at hl 0 rfl) ?_
        refine c_get C hw (inC inW5) (kd_lt kp12 (by decide)) (ce5 kp12) rfl 8 (by decide) (wc w_315) (v := .int (F 12 8)) rfl dX5_readExpression_44 ?_
        refine lv_if_ne (tgt := 69) C.1 C.2.1 dX5_readExpression_47 (by decide) (fun c47 => ?_) (fun c47 => ?_)
        · replace hh := hh.1 c47
          exact tX5_readExpression_b69 C hR hB14 hh hw hl
        · replace hh := hh.2 c47
          refine lv_aload_n C.1 C.2.1 dX5_readExpression_50 rfl (lv_at hl 0 rfl) ?_
          refine c_get C hw (inC inW5) (kd_lt kp12 (by decide)) (ce5 kp12) rfl 0 (by decide) (wc w_307) (v := .ref (h 4)) rfl dX5_readExpression_51 ?_
          refine lv_bipush (v := (59 : Int32)) C.1 C.2.1 dX5_readExpression_54 (by decide) ?_
          refine c_Vi C hw (ctX9_isSign l D h cI cL cF cM F L r (59 : Int32) hh) (cwV 1 C.2.2.2.2 (gd_V w_851 w_786 w_787 w_115 w_788) rfl rfl rfl cdX9_isSign ⟨Nat.le_of_ble_eq_true rfl, Nat.le_of_ble_eq_true rfl⟩) rfl (kd_lt kp4 (by decide)) (ce9 kp4) rfl hl.1 (Nat.le_of_ble_eq_true rfl) dX5_readExpression_56 ⟨Nat.zero_le _, Nat.zero_le _⟩ (fun r56 u56 H locs hh hw => ?_) rfl
          refine lv_if_eq (tgt := 69) C.1 C.2.1 dX5_readExpression_59 (by decide) (fun c59 => ?_) (fun c59 => ?_)
          · replace hh := hh.1 c59
            exact tX5_readExpression_b69 C hR hB14 hh hw hl
          · replace hh := hh.2 c59
            refine lv_aload_n C.1 C.2.1 dX5_readExpression_62 rfl (lv_at hl 0 rfl) ?_
            refine lv_bipush (v := (24 : Int32)) C.1 C.2.1 dX5_readExpression_63 (by decide) ?_
            refine c_Vv C hw (ctX5_joinDownTo l D h cI cL cF cM u56.1 u56.2.1 u56.2.2 (24 : Int32) hh) (cwV 1 C.2.2.2.2 (gd_V w_880 w_882 w_25 w_118 w_883) rfl rfl rfl cdX5_joinDownTo ⟨Nat.le_of_ble_eq_true rfl, Nat.le_of_ble_eq_true rfl⟩) rfl (kd_lt kp12 (by decide)) (ce5 kp12) rfl hl.1 (Nat.le_of_ble_eq_true rfl) dX5_readExpression_65 ⟨Nat.zero_le _, Nat.zero_le _⟩ (fun u65 H locs hh hw => ?_) rfl
            exact hR _ _ (u65.1, u65.2.1, u65.2.2) _ _ dX5_readExpression_68 hh hw
      · replace hh := hh.2 c32
        refine lv_aload_n C.1 C.2.1 dX5_readExpression_35 rfl (lv_at hl 0 rfl) ?_
        refine c_Vi C hw (ctX5_readOperand l D h cI cL cF cM F L r hh) (cwV 0 C.2.2.2.2 (gd_V w_856 w_858 w_20 w_118 w_859) rfl rfl rfl cdX5_readOperand ⟨Nat.le_of_ble_eq_true rfl, Nat.le_of_ble_eq_true rfl⟩) rfl (kd_lt kp12 (by decide)) (ce5 kp12) rfl hl.1 (Nat.le_of_ble_eq_true rfl) dX5_readExpression_36 ⟨Nat.zero_le _, Nat.zero_le _⟩ (fun r36 u36 H locs hh hw => ?_) rfl
        refine lv_istore_n (lv' := [(1, .int r36), (0, .ref (h 12)), (2, .int x2)]) C.1 C.2.1 dX5_readExpression_39 rfl hl (by decide) rfl (fun ls hl => ?_)
        refine lv_goto (tgt := 101) C.1 C.2.1 dX5_readExpression_40 (by decide) ?_
        exact tX5_readExpression_b101 C hR hB14 hh hw (lv_sub hl [1, 0, 2] rfl)
theorem tX5_readExpression_b14 {K : cS → Prop} (C : CallFix p m c cX5_readExpression 3 s args wsX5_readExpression RX5) (hR : Rtv p l e rmX5_readExpression s m args below meth c cX5_readExpression D A (cT cI cL cF cM) (cWu h cI cL cF cM) K Q) (n : Nat) : ∀ (F : Nat → Nat → Int32) (L : Nat → Nat → Int64) (r : Nat → Nat → Nat) (x1 : Int32) (x2 : Int32) (H : Heap) (locs : List Loc) (ls : Array Slot), wpX5_readExpression_b14 n F L r x1 x2 K → Wd D A s (cT cI cL cF cM) (cW h cI cL cF cM F L r) H locs → lv_has ls 3 [(0, .ref (h 12)), (1, .int x1), (2, .int x2)] → W p l e rmX5_readExpression s m args below meth c H locs 0 0 Q (F0 m 14 ls []) := by
  induction n with
  | zero => intro F L r x1 x2 H locs ls hh; exact hh.elim
  | succ n ih => intro F L r x1 x2 H locs ls hh hw hl; exact tX5_readExpression_b14_body C hR ih hh hw hl
set_option maxHeartbeats 4000000 in
set_option maxRecDepth 100000 in
theorem tX5_readExpression_b0 {K : cS → Prop} (C : CallFix p m c cX5_readExpression 3 s args wsX5_readExpression RX5) (hR : Rtv p l e rmX5_readExpression s m args below meth c cX5_readExpression D A (cT cI cL cF cM) (cWu h cI cL cF cM) K Q) {F : Nat → Nat → Int32} {L : Nat → Nat → Int64} {r : Nat → Nat → Nat} (hh : wpX5_readExpression_b0 F L r K) {H : Heap} {locs : List Loc} {ls : Array Slot} (hw : Wd D A s (cT cI cL cF cM) (cW h cI cL cF cM F L r) H locs) (hl : lv_has ls 3 [(0, .ref (h 12))]) : W p l e rmX5_readExpression s m args below meth c H locs 0 0 Q (F0 m 0 ls []) := by
  unfold wpX5_readExpression_b0 at hh
  refine lv_aload_n C.1 C.2.1 dX5_readExpression_0 rfl (lv_at hl 0 rfl) ?_
  refine lv_iconst (v := (0 : Int32)) C.1 C.2.1 dX5_readExpression_1 (by decide) ?_
  refine c_puti C hw (inC inW5) tyX5 tyX5_ok nmX5 (kd_lt kp12 (by decide)) (ce5 kp12) rfl 8 (by decide) (wc w_315) rfl (ty := .int) (by decide +kernel) rfl rfl (Nat.le_of_ble_eq_true rfl) rfl dX5_readExpression_2 (fun H locs hw => ?_)
  refine lv_aload_n C.1 C.2.1 dX5_readExpression_5 rfl (lv_at hl 0 rfl) ?_
  refine lv_iconst (v := (0 : Int32)) C.1 C.2.1 dX5_readExpression_6 (by decide) ?_
  refine c_puti C hw (inC inW5) tyX5 tyX5_ok nmX5 (kd_lt kp12 (by decide)) (ce5 kp12) rfl 9 (by decide) (wc w_316) rfl (ty := .int) (by decide +kernel) rfl rfl (Nat.le_of_ble_eq_true rfl) rfl dX5_readExpression_7 (fun H locs hw => ?_)
  refine lv_iconst (v := (1 : Int32)) C.1 C.2.1 dX5_readExpression_10 (by decide) ?_
  refine lv_istore_n (lv' := [(1, .int (1 : Int32)), (0, .ref (h 12))]) C.1 C.2.1 dX5_readExpression_11 rfl hl (by decide) rfl (fun ls hl => ?_)
  refine lv_iconst (v := (0 : Int32)) C.1 C.2.1 dX5_readExpression_12 (by decide) ?_
  refine lv_istore_n (lv' := [(2, .int (0 : Int32)), (1, .int (1 : Int32)), (0, .ref (h 12))]) C.1 C.2.1 dX5_readExpression_13 rfl hl (by decide) rfl (fun ls hl => ?_)
  obtain ⟨n, hh⟩ := hh
  exact tX5_readExpression_b14 C hR n _ _ _ _ _ _ _ _ hh hw (lv_sub hl [2, 1, 0] rfl)
theorem ctX5_readExpression (l : Launch) (D : va_G) (h : Nat → Nat) (cI cL cF cM : ClassId) (F : Nat → Nat → Int32) (L : Nat → Nat → Int64) (r : Nat → Nat → Nat) {K : cS → Prop} (hh : wpX5_readExpression F L r K) : Cv l yX5_readExpression wsX5_readExpression rmX5_readExpression [.ref (h 12)] D (cT cI cL cF cM) (cWu h cI cL cF cM) (F, L, r) K := by
  refine Cv_of (cc := cX5_readExpression) (maxL := 3) (by decide) rfl (Nat.le_of_ble_eq_true rfl) ?_
  intro p e s m below meth c A Q C hw hR ls hl
  exact tX5_readExpression_b0 C hR hh hw hl
theorem cdX5_readExpression : yX5_readExpression.cls = RX5 ∧ yX5_readExpression.cls ≠ "java/lang/invoke/MethodHandle" ∧ yX5_readExpression.cls ≠ "java/lang/invoke/VarHandle" ∧ (parseMethodDescriptor yX5_readExpression.desc).map (fun d => d.parameters.length) = some 0 := by decide +kernel
abbrev rmX5_readLine : Room := { frames := 4, cells := 0, slots := 0, locals := 86 }
set_option maxHeartbeats 4000000 in
set_option maxRecDepth 100000 in
theorem tX5_readLine_b31 {K : cS → Prop} (C : CallFix p m c cX5_readLine 2 s args wsX5_readLine RX5) (hR : Rtv p l e rmX5_readLine s m args below meth c cX5_readLine D A (cT cI cL cF cM) (cWu h cI cL cF cM) K Q) {F : Nat → Nat → Int32} {L : Nat → Nat → Int64} {r : Nat → Nat → Nat} (hh : wpX5_readLine_b31 F L r K) {H : Heap} {locs : List Loc} {ls : Array Slot} (hw : Wd D A s (cT cI cL cF cM) (cW h cI cL cF cM F L r) H locs) (hl : lv_has ls 2 [(0, .ref (h 12))]) : W p l e rmX5_readLine s m args below meth c H locs 0 0 Q (F0 m 31 ls []) := by
  unfold wpX5_readLine_b31 at hh
  exact hR _ _ (F, L, r) _ _ dX5_readLine_31 hh hw
set_option maxHeartbeats 4000000 in
set_option maxRecDepth 100000 in
theorem tX5_readLine_b127 {K : cS → Prop} (C : CallFix p m c cX5_readLine 2 s args wsX5_readLine RX5) (hR : Rtv p l e rmX5_readLine s m args below meth c cX5_readLine D A (cT cI cL cF cM) (cWu h cI cL cF cM) K Q) {F : Nat → Nat → Int32} {L : Nat → Nat → Int64} {r : Nat → Nat → Nat} (hh : wpX5_readLine_b127 F L r K) {H : Heap} {locs : List Loc} {ls : Array Slot} (hw : Wd D A s (cT cI cL cF cM) (cW h cI cL cF cM F L r) H locs) (hl : lv_has ls 2 [(0, .ref (h 12))]) : W p l e rmX5_readLine s m args below meth c H locs 0 0 Q (F0 m 127 ls []) := by
  unfold wpX5_readLine_b127 at hh
  exact hR _ _ (F, L, r) _ _ dX5_readLine_127 hh hw
set_option maxHeartbeats 4000000 in
set_option maxRecDepth 100000 in
theorem tX5_readLine_b0 {K : cS → Prop} (C : CallFix p m c cX5_readLine 2 s args wsX5_readLine RX5) (hR : Rtv p l e rmX5_readLine s m args below meth c cX5_readLine D A (cT cI cL cF cM) (cWu h cI cL cF cM) K Q) {F : Nat → Nat → Int32} {L : Nat → Nat → Int64} {r : Nat → Nat → Nat} (hh : wpX5_readLine_b0 F L r K) {H : Heap} {locs : List Loc} {ls : Array Slot} (hw : Wd D A s (cT cI cL cF cM) (cW h cI cL cF cM F L r) H locs) (hl : lv_has ls 2 [(0, .ref (h 12))]) : W p l e rmX5_readLine s m args below meth c H locs 0 0 Q (F0 m 0 ls []) := by
  unfold wpX5_readLine_b0 at hh
  refine lv_aload_n C.1 C.2.1 dX5_readLine_0 rfl (lv_at hl 0 rfl) ?_
  refine c_Vi C hw (ctX5_readTarget l D h cI cL cF cM F L r hh) (cwV 0 C.2.2.2.2 (gd_V w_830 w_832 w_15 w_118 w_833) rfl rfl rfl cdX5_readTarget ⟨Nat.le_of_ble_eq_true rfl, Nat.le_of_ble_eq_true rfl⟩) rfl (kd_lt kp12 (by decide)) (ce5 kp12) rfl hl.1 (Nat.le_of_ble_eq_true rfl) dX5_readLine_1 ⟨Nat.zero_le _, Nat.zero_le _⟩ (fun r1 u1 H locs hh hw => ?_) rfl
  refine lv_istore_n (lv' := [(1, .int r1), (0, .ref (h 12))]) C.1 C.2.1 dX5_readLine_4 rfl hl (by decide) rfl (fun ls hl => ?_)
  refine lv_aload_n C.1 C.2.1 dX5_readLine_5 rfl (lv_at hl 1 rfl) ?_
  refine c_get C hw (inC inW5) (kd_lt kp12 (by decide)) (ce5 kp12) rfl 0 (by decide) (wc w_307) (v := .ref (h 4)) rfl dX5_readLine_6 ?_
  refine c_get C hw (inC inW9) (kd_lt kp4 (by decide)) (ce9 kp4) rfl 1 (by decide) (wc w_155) (v := .int (u1.1 4 1)) rfl dX5_readLine_9 ?_
  refine lv_if_ne (tgt := 31) C.1 C.2.1 dX5_readLine_12 (by decide) (fun c12 => ?_) (fun c12 => ?_)
  · replace hh := hh.1 c12
    exact tX5_readLine_b31 C hR hh hw (lv_sub hl [1] rfl)
  · replace hh := hh.2 c12
    refine lv_iload_n C.1 C.2.1 dX5_readLine_15 rfl (lv_at hl 0 rfl) ?_
    refine lv_if_lt (tgt := 31) C.1 C.2.1 dX5_readLine_16 (by decide) (fun c16 => ?_) (fun c16 => ?_)
    · replace hh := hh.1 c16
      exact tX5_readLine_b31 C hR hh hw (lv_sub hl [1] rfl)
    · replace hh := hh.2 c16
      refine lv_iload_n C.1 C.2.1 dX5_readLine_19 rfl (lv_at hl 0 rfl) ?_
      refine lv_aload_n C.1 C.2.1 dX5_readLine_20 rfl (lv_at hl 1 rfl) ?_
      refine c_get C hw (inC inW5) (kd_lt kp12 (by decide)) (ce5 kp12) rfl 5 (by decide) (wc w_312) (v := .ref (h (u1.2.2 12 5))) rfl dX5_readLine_21 ?_
      obtain ⟨hk0, hh⟩ := hh
      refine c_get C hw (inC inW4) (kd_lt hk0 (by decide)) (ce4 hk0) rfl 4 (by decide) (wc w_291) (v := .ref (h (u1.2.2 12 5 + 2))) rfl dX5_readLine_24 ?_
      refine c_len C hw (kd_lt (kd4_2 hk0) (by decide)) (ce21 (kd4_2 hk0)) (v := (24 : Int32)) (by decide) dX5_readLine_27 ?_
      refine lv_icmp_lt (tgt := 32) C.1 C.2.1 dX5_readLine_28 (by decide) (fun c28 => ?_) (fun c28 => ?_)
      · replace hh := hh.1 c28
        refine lv_aload_n C.1 C.2.1 dX5_readLine_32 rfl (lv_at hl 1 rfl) ?_
        refine c_get C hw (inC inW5) (kd_lt kp12 (by decide)) (ce5 kp12) rfl 0 (by decide) (wc w_307) (v := .ref (h 4)) rfl dX5_readLine_33 ?_
        refine c_Vv C hw (ctX9_advance l D h cI cL cF cM u1.1 u1.2.1 u1.2.2 hh) (cwV 0 C.2.2.2.2 (gd_V w_839 w_728 w_729 w_115 w_730) rfl rfl rfl cdX9_advance ⟨Nat.le_of_ble_eq_true rfl, Nat.le_of_ble_eq_true rfl⟩) rfl (kd_lt kp4 (by decide)) (ce9 kp4) rfl hl.1 (Nat.le_of_ble_eq_true rfl) dX5_readLine_36 ⟨Nat.zero_le _, Nat.zero_le _⟩ (fun u36 H locs hh hw => ?_) rfl
        refine lv_aload_n C.1 C.2.1 dX5_readLine_39 rfl (lv_at hl 1 rfl) ?_
        refine c_get C hw (inC inW5) (kd_lt kp12 (by decide)) (ce5 kp12) rfl 0 (by decide) (wc w_307) (v := .ref (h 4)) rfl dX5_readLine_40 ?_
        refine lv_bipush (v := (61 : Int32)) C.1 C.2.1 dX5_readLine_43 (by decide) ?_
        refine c_Vi C hw (ctX9_isSign l D h cI cL cF cM u36.1 u36.2.1 u36.2.2 (61 : Int32) hh) (cwV 1 C.2.2.2.2 (gd_V w_851 w_786 w_787 w_115 w_788) rfl rfl rfl cdX9_isSign ⟨Nat.le_of_ble_eq_true rfl, Nat.le_of_ble_eq_true rfl⟩) rfl (kd_lt kp4 (by decide)) (ce9 kp4) rfl hl.1 (Nat.le_of_ble_eq_true rfl) dX5_readLine_45 ⟨Nat.zero_le _, Nat.zero_le _⟩ (fun r45 u45 H locs hh hw => ?_) rfl
        refine lv_if_ne (tgt := 67) C.1 C.2.1 dX5_readLine_48 (by decide) (fun c48 => ?_) (fun c48 => ?_)
        · replace hh := hh.1 c48
          refine lv_aload_n C.1 C.2.1 dX5_readLine_67 rfl (lv_at hl 1 rfl) ?_
          refine c_get C hw (inC inW5) (kd_lt kp12 (by decide)) (ce5 kp12) rfl 0 (by decide) (wc w_307) (v := .ref (h 4)) rfl dX5_readLine_68 ?_
          refine c_Vv C hw (ctX9_advance l D h cI cL cF cM u45.1 u45.2.1 u45.2.2 hh) (cwV 0 C.2.2.2.2 (gd_V w_839 w_728 w_729 w_115 w_730) rfl rfl rfl cdX9_advance ⟨Nat.le_of_ble_eq_true rfl, Nat.le_of_ble_eq_true rfl⟩) rfl (kd_lt kp4 (by decide)) (ce9 kp4) rfl hl.1 (Nat.le_of_ble_eq_true rfl) dX5_readLine_71 ⟨Nat.zero_le _, Nat.zero_le _⟩ (fun u71 H locs hh hw => ?_) rfl
          refine lv_aload_n C.1 C.2.1 dX5_readLine_74 rfl (lv_at hl 1 rfl) ?_
          refine c_get C hw (inC inW5) (kd_lt kp12 (by decide)) (ce5 kp12) rfl 5 (by decide) (wc w_312) (v := .ref (h (u71.2.2 12 5))) rfl dX5_readLine_75 ?_
          obtain ⟨hk1, hh⟩ := hh
          refine c_get C hw (inC inW4) (kd_lt hk1 (by decide)) (ce4 hk1) rfl 4 (by decide) (wc w_291) (v := .ref (h (u71.2.2 12 5 + 2))) rfl dX5_readLine_78 ?_
          refine lv_iload_n C.1 C.2.1 dX5_readLine_81 rfl (lv_at hl 0 rfl) ?_
          refine lv_aload_n C.1 C.2.1 dX5_readLine_82 rfl (lv_at hl 1 rfl) ?_
          refine c_get C hw (inC inW5) (kd_lt kp12 (by decide)) (ce5 kp12) rfl 5 (by decide) (wc w_312) (v := .ref (h (u71.2.2 12 5))) rfl dX5_readLine_83 ?_
          obtain ⟨hk2, hh⟩ := hh
          refine c_get C hw (inC inW4) (kd_lt hk2 (by decide)) (ce4 hk2) rfl 2 (by decide) (wc w_287) (v := .int (u71.1 (u71.2.2 12 5) 2)) rfl dX5_readLine_86 ?_
          obtain ⟨hi89, hh⟩ := hh
          refine c_ias C hw (kd_lt (kd4_2 hk1) (by decide)) (ce21 (kd4_2 hk1)) hi89 dX5_readLine_89 (fun H locs hw => ?_)
          refine lv_aload_n C.1 C.2.1 dX5_readLine_90 rfl (lv_at hl 1 rfl) ?_
          refine c_Vv C hw (ctX5_readExpression l D h cI cL cF cM (pt u71.1 (u71.2.2 12 5 + 2) (ix r1) (u71.1 (u71.2.2 12 5) 2)) u71.2.1 u71.2.2 hh) (cwV 0 C.2.2.2.2 (gd_V w_852 w_854 w_19 w_118 w_855) rfl rfl rfl cdX5_readExpression ⟨Nat.le_of_ble_eq_true rfl, Nat.le_of_ble_eq_true rfl⟩) rfl (kd_lt kp12 (by decide)) (ce5 kp12) rfl hl.1 (Nat.le_of_ble_eq_true rfl) dX5_readLine_91 ⟨Nat.zero_le _, Nat.zero_le _⟩ (fun u91 H locs hh hw => ?_) rfl
          refine lv_aload_n C.1 C.2.1 dX5_readLine_94 rfl (lv_at hl 1 rfl) ?_
          refine c_get C hw (inC inW5) (kd_lt kp12 (by decide)) (ce5 kp12) rfl 5 (by decide) (wc w_312) (v := .ref (h (u91.2.2 12 5))) rfl dX5_readLine_95 ?_
          obtain ⟨hk3, hh⟩ := hh
          refine c_get C hw (inC inW4) (kd_lt hk3 (by decide)) (ce4 hk3) rfl 5 (by decide) (wc w_293) (v := .ref (h (u91.2.2 12 5 + 3))) rfl dX5_readLine_98 ?_
          refine lv_iload_n C.1 C.2.1 dX5_readLine_101 rfl (lv_at hl 0 rfl) ?_
          refine lv_aload_n C.1 C.2.1 dX5_readLine_102 rfl (lv_at hl 1 rfl) ?_
          refine c_get C hw (inC inW5) (kd_lt kp12 (by decide)) (ce5 kp12) rfl 5 (by decide) (wc w_312) (v := .ref (h (u91.2.2 12 5))) rfl dX5_readLine_103 ?_
          obtain ⟨hk4, hh⟩ := hh
          refine c_get C hw (inC inW4) (kd_lt hk4 (by decide)) (ce4 hk4) rfl 2 (by decide) (wc w_287) (v := .int (u91.1 (u91.2.2 12 5) 2)) rfl dX5_readLine_106 ?_
          obtain ⟨hi109, hh⟩ := hh
          refine c_ias C hw (kd_lt (kd4_3 hk3) (by decide)) (ce21 (kd4_3 hk3)) hi109 dX5_readLine_109 (fun H locs hw => ?_)
          refine lv_aload_n C.1 C.2.1 dX5_readLine_110 rfl (lv_at hl 1 rfl) ?_
          refine c_get C hw (inC inW5) (kd_lt kp12 (by decide)) (ce5 kp12) rfl 0 (by decide) (wc w_307) (v := .ref (h 4)) rfl dX5_readLine_111 ?_
          refine c_get C hw (inC inW9) (kd_lt kp4 (by decide)) (ce9 kp4) rfl 1 (by decide) (wc w_155) (v := .int ((pt u91.1 (u91.2.2 12 5 + 3) (ix r1) (u91.1 (u91.2.2 12 5) 2)) 4 1)) rfl dX5_readLine_114 ?_
          refine lv_if_ne (tgt := 127) C.1 C.2.1 dX5_readLine_117 (by decide) (fun c117 => ?_) (fun c117 => ?_)
          · replace hh := hh.1 c117
            exact tX5_readLine_b127 C hR hh hw (lv_sub hl [1] rfl)
          · replace hh := hh.2 c117
            refine lv_aload_n C.1 C.2.1 dX5_readLine_120 rfl (lv_at hl 1 rfl) ?_
            refine c_get C hw (inC inW5) (kd_lt kp12 (by decide)) (ce5 kp12) rfl 0 (by decide) (wc w_307) (v := .ref (h 4)) rfl dX5_readLine_121 ?_
            refine c_Vv C hw (ctX9_advance l D h cI cL cF cM (pt u91.1 (u91.2.2 12 5 + 3) (ix r1) (u91.1 (u91.2.2 12 5) 2)) u91.2.1 u91.2.2 hh) (cwV 0 C.2.2.2.2 (gd_V w_839 w_728 w_729 w_115 w_730) rfl rfl rfl cdX9_advance ⟨Nat.le_of_ble_eq_true rfl, Nat.le_of_ble_eq_true rfl⟩) rfl (kd_lt kp4 (by decide)) (ce9 kp4) rfl hl.1 (Nat.le_of_ble_eq_true rfl) dX5_readLine_124 ⟨Nat.zero_le _, Nat.zero_le _⟩ (fun u124 H locs hh hw => ?_) rfl
            exact tX5_readLine_b127 C hR hh hw (lv_sub hl [1] rfl)
        · replace hh := hh.2 c48
          refine lv_aload_n C.1 C.2.1 dX5_readLine_51 rfl (lv_at hl 1 rfl) ?_
          refine c_get C hw (inC inW5) (kd_lt kp12 (by decide)) (ce5 kp12) rfl 0 (by decide) (wc w_307) (v := .ref (h 4)) rfl dX5_readLine_52 ?_
          refine lv_iconst (v := (1 : Int32)) C.1 C.2.1 dX5_readLine_55 (by decide) ?_
          refine lv_aload_n C.1 C.2.1 dX5_readLine_56 rfl (lv_at hl 1 rfl) ?_
          refine c_get C hw (inC inW5) (kd_lt kp12 (by decide)) (ce5 kp12) rfl 0 (by decide) (wc w_307) (v := .ref (h 4)) rfl dX5_readLine_57 ?_
          refine c_get C hw (inC inW9) (kd_lt kp4 (by decide)) (ce9 kp4) rfl 4 (by decide) (wc w_164) (v := .int (u45.1 4 4)) rfl dX5_readLine_60 ?_
          refine c_Vv C hw (ctX9_refuse l D h cI cL cF cM u45.1 u45.2.1 u45.2.2 (1 : Int32) (u45.1 4 4) hh) (cwV 2 C.2.2.2.2 (gd_V w_838 w_736 w_737 w_115 w_738) rfl rfl rfl cdX9_refuse ⟨Nat.le_of_ble_eq_true rfl, Nat.le_of_ble_eq_true rfl⟩) rfl (kd_lt kp4 (by decide)) (ce9 kp4) rfl hl.1 (Nat.le_of_ble_eq_true rfl) dX5_readLine_63 ⟨Nat.zero_le _, Nat.zero_le _⟩ (fun u63 H locs hh hw => ?_) rfl
          exact hR _ _ (u63.1, u63.2.1, u63.2.2) _ _ dX5_readLine_66 hh hw
      · replace hh := hh.2 c28
        exact tX5_readLine_b31 C hR hh hw (lv_sub hl [1] rfl)
theorem ctX5_readLine (l : Launch) (D : va_G) (h : Nat → Nat) (cI cL cF cM : ClassId) (F : Nat → Nat → Int32) (L : Nat → Nat → Int64) (r : Nat → Nat → Nat) {K : cS → Prop} (hh : wpX5_readLine F L r K) : Cv l yX5_readLine wsX5_readLine rmX5_readLine [.ref (h 12)] D (cT cI cL cF cM) (cWu h cI cL cF cM) (F, L, r) K := by
  refine Cv_of (cc := cX5_readLine) (maxL := 2) (by decide) rfl (Nat.le_of_ble_eq_true rfl) ?_
  intro p e s m below meth c A Q C hw hR ls hl
  exact tX5_readLine_b0 C hR hh hw hl
theorem cdX5_readLine : yX5_readLine.cls = RX5 ∧ yX5_readLine.cls ≠ "java/lang/invoke/MethodHandle" ∧ yX5_readLine.cls ≠ "java/lang/invoke/VarHandle" ∧ (parseMethodDescriptor yX5_readLine.desc).map (fun d => d.parameters.length) = some 0 := by decide +kernel
abbrev rmX5_findNames : Room := { frames := 1, cells := 0, slots := 0, locals := 22 }
set_option maxHeartbeats 4000000 in
set_option maxRecDepth 100000 in
theorem tX5_findNames_b86 {K : cS → Prop} (C : CallFix p m c cX5_findNames 3 s args wsX5_findNames RX5) (hR : Rtv p l e rmX5_findNames s m args below meth c cX5_findNames D A (cT cI cL cF cM) (cWu h cI cL cF cM) K Q) {F : Nat → Nat → Int32} {L : Nat → Nat → Int64} {r : Nat → Nat → Nat} (hh : wpX5_findNames_b86 F L r K) {H : Heap} {locs : List Loc} {ls : Array Slot} (hw : Wd D A s (cT cI cL cF cM) (cW h cI cL cF cM F L r) H locs) (hl : lv_has ls 3 [(0, .ref (h 12))]) : W p l e rmX5_findNames s m args below meth c H locs 0 0 Q (F0 m 86 ls []) := by
  unfold wpX5_findNames_b86 at hh
  exact hR _ _ (F, L, r) _ _ dX5_findNames_86 hh hw
set_option maxHeartbeats 4000000 in
set_option maxRecDepth 100000 in
theorem tX5_findNames_b80 {B2 : (Nat → Nat → Int32) → (Nat → Nat → Int64) → (Nat → Nat → Nat) → Int32 → Prop} {K : cS → Prop} (C : CallFix p m c cX5_findNames 3 s args wsX5_findNames RX5) (hR : Rtv p l e rmX5_findNames s m args below meth c cX5_findNames D A (cT cI cL cF cM) (cWu h cI cL cF cM) K Q) (hB2 : ∀ (F : Nat → Nat → Int32) (L : Nat → Nat → Int64) (r : Nat → Nat → Nat) (x1 : Int32) (H : Heap) (locs : List Loc) (ls : Array Slot), B2 F L r x1 → Wd D A s (cT cI cL cF cM) (cW h cI cL cF cM F L r) H locs → lv_has ls 3 [(0, .ref (h 12)), (1, .int x1)] → W p l e rmX5_findNames s m args below meth c H locs 0 0 Q (F0 m 2 ls [])) {F : Nat → Nat → Int32} {L : Nat → Nat → Int64} {r : Nat → Nat → Nat} {x1 : Int32} (hh : wpX5_findNames_b80 B2 F L r x1 K) {H : Heap} {locs : List Loc} {ls : Array Slot} (hw : Wd D A s (cT cI cL cF cM) (cW h cI cL cF cM F L r) H locs) (hl : lv_has ls 3 [(0, .ref (h 12)), (1, .int x1)]) : W p l e rmX5_findNames s m args below meth c H locs 0 0 Q (F0 m 80 ls []) := by
  unfold wpX5_findNames_b80 at hh
  refine lv_iinc (v := x1 + (1 : Int32)) (lv' := [(1, .int (x1 + (1 : Int32))), (0, .ref (h 12))]) C.1 C.2.1 dX5_findNames_80 hl (k := 1) rfl rfl (by decide) rfl (fun ls hl => ?_)
  refine lv_goto (tgt := 2) C.1 C.2.1 dX5_findNames_83 (by decide) ?_
  exact hB2 _ _ _ _ _ _ _ hh hw (lv_sub hl [1, 0] rfl)
set_option maxHeartbeats 4000000 in
set_option maxRecDepth 100000 in
theorem tX5_findNames_b2_body {B2 : (Nat → Nat → Int32) → (Nat → Nat → Int64) → (Nat → Nat → Nat) → Int32 → Prop} {K : cS → Prop} (C : CallFix p m c cX5_findNames 3 s args wsX5_findNames RX5) (hR : Rtv p l e rmX5_findNames s m args below meth c cX5_findNames D A (cT cI cL cF cM) (cWu h cI cL cF cM) K Q) (hB2 : ∀ (F : Nat → Nat → Int32) (L : Nat → Nat → Int64) (r : Nat → Nat → Nat) (x1 : Int32) (H : Heap) (locs : List Loc) (ls : Array Slot), B2 F L r x1 → Wd D A s (cT cI cL cF cM) (cW h cI cL cF cM F L r) H locs → lv_has ls 3 [(0, .ref (h 12)), (1, .int x1)] → W p l e rmX5_findNames s m args below meth c H locs 0 0 Q (F0 m 2 ls [])) {F : Nat → Nat → Int32} {L : Nat → Nat → Int64} {r : Nat → Nat → Nat} {x1 : Int32} (hh : wpX5_findNames_b2_body B2 F L r x1 K) {H : Heap} {locs : List Loc} {ls : Array Slot} (hw : Wd D A s (cT cI cL cF cM) (cW h cI cL cF cM F L r) H locs) (hl : lv_has ls 3 [(0, .ref (h 12)), (1, .int x1)]) : W p l e rmX5_findNames s m args below meth c H locs 0 0 Q (F0 m 2 ls []) := by
  unfold wpX5_findNames_b2_body at hh
  refine lv_iload_n C.1 C.2.1 dX5_findNames_2 rfl (lv_at hl 1 rfl) ?_
  refine lv_aload_n C.1 C.2.1 dX5_findNames_3 rfl (lv_at hl 0 rfl) ?_
  refine c_get C hw (inC inW5) (kd_lt kp12 (by decide)) (ce5 kp12) rfl 5 (by decide) (wc w_312) (v := .ref (h (r 12 5))) rfl dX5_findNames_4 ?_
  obtain ⟨hk0, hh⟩ := hh
  refine c_get C hw (inC inW4) (kd_lt hk0 (by decide)) (ce4 hk0) rfl 2 (by decide) (wc w_287) (v := .int (F (r 12 5) 2)) rfl dX5_findNames_7 ?_
  refine lv_icmp_ge (tgt := 86) C.1 C.2.1 dX5_findNames_10 (by decide) (fun c10 => ?_) (fun c10 => ?_)
  · replace hh := hh.1 c10
    exact tX5_findNames_b86 C hR hh hw (lv_sub hl [0] rfl)
  · replace hh := hh.2 c10
    refine lv_aload_n C.1 C.2.1 dX5_findNames_13 rfl (lv_at hl 0 rfl) ?_
    refine c_get C hw (inC inW5) (kd_lt kp12 (by decide)) (ce5 kp12) rfl 0 (by decide) (wc w_307) (v := .ref (h 4)) rfl dX5_findNames_14 ?_
    refine c_get C hw (inC inW9) (kd_lt kp4 (by decide)) (ce9 kp4) rfl 1 (by decide) (wc w_155) (v := .int (F 4 1)) rfl dX5_findNames_17 ?_
    refine lv_if_ne (tgt := 86) C.1 C.2.1 dX5_findNames_20 (by decide) (fun c20 => ?_) (fun c20 => ?_)
    · replace hh := hh.1 c20
      exact tX5_findNames_b86 C hR hh hw (lv_sub hl [0] rfl)
    · replace hh := hh.2 c20
      refine lv_aload_n C.1 C.2.1 dX5_findNames_23 rfl (lv_at hl 0 rfl) ?_
      refine c_get C hw (inC inW5) (kd_lt kp12 (by decide)) (ce5 kp12) rfl 5 (by decide) (wc w_312) (v := .ref (h (r 12 5))) rfl dX5_findNames_24 ?_
      obtain ⟨hk1, hh⟩ := hh
      refine c_get C hw (inC inW4) (kd_lt hk1 (by decide)) (ce4 hk1) rfl 3 (by decide) (wc w_289) (v := .ref (h (r 12 5 + 1))) rfl dX5_findNames_27 ?_
      refine lv_iload_n C.1 C.2.1 dX5_findNames_30 rfl (lv_at hl 1 rfl) ?_
      obtain ⟨hi31, hh⟩ := hh
      refine c_ial C hw (kd_lt (kd4_1 hk1) (by decide)) (ce17 (kd4_1 hk1)) hi31 dX5_findNames_31 ?_
      refine lv_bipush (v := (28 : Int32)) C.1 C.2.1 dX5_findNames_32 (by decide) ?_
      refine lv_icmp_ne (tgt := 80) C.1 C.2.1 dX5_findNames_34 (by decide) (fun c34 => ?_) (fun c34 => ?_)
      · replace hh := hh.1 c34
        exact tX5_findNames_b80 C hR hB2 hh hw hl
      · replace hh := hh.2 c34
        refine lv_aload_n C.1 C.2.1 dX5_findNames_37 rfl (lv_at hl 0 rfl) ?_
        refine lv_aload_n C.1 C.2.1 dX5_findNames_38 rfl (lv_at hl 0 rfl) ?_
        refine c_get C hw (inC inW5) (kd_lt kp12 (by decide)) (ce5 kp12) rfl 2 (by decide) (wc w_309) (v := .ref (h 14)) rfl dX5_findNames_39 ?_
        refine lv_iload_n C.1 C.2.1 dX5_findNames_42 rfl (lv_at hl 1 rfl) ?_
        obtain ⟨hi43, hh⟩ := hh
        refine c_ial C hw (kd_lt kp14 (by decide)) (ce17 kp14) hi43 dX5_findNames_43 ?_
        refine c_Vi C hw (ctX5_relayOf l D h cI cL cF cM F L r (F 14 (ix x1)) hh) (cwV 1 C.2.2.2.2 (gd_V w_844 w_846 w_18 w_118 w_847) rfl rfl rfl cdX5_relayOf ⟨Nat.le_of_ble_eq_true rfl, Nat.le_of_ble_eq_true rfl⟩) rfl (kd_lt kp12 (by decide)) (ce5 kp12) rfl hl.1 (Nat.le_of_ble_eq_true rfl) dX5_findNames_44 ⟨Nat.zero_le _, Nat.zero_le _⟩ (fun r44 u44 H locs hh hw => ?_) rfl
        refine lv_istore_n (lv' := [(2, .int r44), (0, .ref (h 12)), (1, .int x1)]) C.1 C.2.1 dX5_findNames_47 rfl hl (by decide) rfl (fun ls hl => ?_)
        refine lv_iload_n C.1 C.2.1 dX5_findNames_48 rfl (lv_at hl 0 rfl) ?_
        refine lv_iconst (v := (-1 : Int32)) C.1 C.2.1 dX5_findNames_49 (by decide) ?_
        refine lv_icmp_ne (tgt := 70) C.1 C.2.1 dX5_findNames_50 (by decide) (fun c50 => ?_) (fun c50 => ?_)
        · replace hh := hh.1 c50
          refine lv_aload_n C.1 C.2.1 dX5_findNames_70 rfl (lv_at hl 1 rfl) ?_
          refine c_get C hw (inC inW5) (kd_lt kp12 (by decide)) (ce5 kp12) rfl 5 (by decide) (wc w_312) (v := .ref (h (u44.2.2 12 5))) rfl dX5_findNames_71 ?_
          obtain ⟨hk2, hh⟩ := hh
          refine c_get C hw (inC inW4) (kd_lt hk2 (by decide)) (ce4 hk2) rfl 3 (by decide) (wc w_289) (v := .ref (h (u44.2.2 12 5 + 1))) rfl dX5_findNames_74 ?_
          refine lv_iload_n C.1 C.2.1 dX5_findNames_77 rfl (lv_at hl 2 rfl) ?_
          refine lv_iload_n C.1 C.2.1 dX5_findNames_78 rfl (lv_at hl 0 rfl) ?_
          obtain ⟨hi79, hh⟩ := hh
          refine c_ias C hw (kd_lt (kd4_1 hk2) (by decide)) (ce17 (kd4_1 hk2)) hi79 dX5_findNames_79 (fun H locs hw => ?_)
          exact tX5_findNames_b80 C hR hB2 hh hw (lv_sub hl [1, 2] rfl)
        · replace hh := hh.2 c50
          refine lv_aload_n C.1 C.2.1 dX5_findNames_53 rfl (lv_at hl 1 rfl) ?_
          refine c_get C hw (inC inW5) (kd_lt kp12 (by decide)) (ce5 kp12) rfl 0 (by decide) (wc w_307) (v := .ref (h 4)) rfl dX5_findNames_54 ?_
          refine lv_iconst (v := (4 : Int32)) C.1 C.2.1 dX5_findNames_57 (by decide) ?_
          refine lv_aload_n C.1 C.2.1 dX5_findNames_58 rfl (lv_at hl 1 rfl) ?_
          refine c_get C hw (inC inW5) (kd_lt kp12 (by decide)) (ce5 kp12) rfl 3 (by decide) (wc w_310) (v := .ref (h 15)) rfl dX5_findNames_59 ?_
          refine lv_iload_n C.1 C.2.1 dX5_findNames_62 rfl (lv_at hl 2 rfl) ?_
          obtain ⟨hi63, hh⟩ := hh
          refine c_ial C hw (kd_lt kp15 (by decide)) (ce17 kp15) hi63 dX5_findNames_63 ?_
          refine c_Vv C hw (ctX9_refuse l D h cI cL cF cM u44.1 u44.2.1 u44.2.2 (4 : Int32) (u44.1 15 (ix x1)) hh) (cwV 2 C.2.2.2.2 (gd_V w_838 w_736 w_737 w_115 w_738) rfl rfl rfl cdX9_refuse ⟨Nat.le_of_ble_eq_true rfl, Nat.le_of_ble_eq_true rfl⟩) rfl (kd_lt kp4 (by decide)) (ce9 kp4) rfl hl.1 (Nat.le_of_ble_eq_true rfl) dX5_findNames_64 ⟨Nat.zero_le _, Nat.zero_le _⟩ (fun u64 H locs hh hw => ?_) rfl
          refine lv_goto (tgt := 80) C.1 C.2.1 dX5_findNames_67 (by decide) ?_
          exact tX5_findNames_b80 C hR hB2 hh hw (lv_sub hl [1, 2] rfl)
theorem tX5_findNames_b2 {K : cS → Prop} (C : CallFix p m c cX5_findNames 3 s args wsX5_findNames RX5) (hR : Rtv p l e rmX5_findNames s m args below meth c cX5_findNames D A (cT cI cL cF cM) (cWu h cI cL cF cM) K Q) (n : Nat) : ∀ (F : Nat → Nat → Int32) (L : Nat → Nat → Int64) (r : Nat → Nat → Nat) (x1 : Int32) (H : Heap) (locs : List Loc) (ls : Array Slot), wpX5_findNames_b2 n F L r x1 K → Wd D A s (cT cI cL cF cM) (cW h cI cL cF cM F L r) H locs → lv_has ls 3 [(0, .ref (h 12)), (1, .int x1)] → W p l e rmX5_findNames s m args below meth c H locs 0 0 Q (F0 m 2 ls []) := by
  induction n with
  | zero => intro F L r x1 H locs ls hh; exact hh.elim
  | succ n ih => intro F L r x1 H locs ls hh hw hl; exact tX5_findNames_b2_body C hR ih hh hw hl
set_option maxHeartbeats 4000000 in
set_option maxRecDepth 100000 in
theorem tX5_findNames_b0 {K : cS → Prop} (C : CallFix p m c cX5_findNames 3 s args wsX5_findNames RX5) (hR : Rtv p l e rmX5_findNames s m args below meth c cX5_findNames D A (cT cI cL cF cM) (cWu h cI cL cF cM) K Q) {F : Nat → Nat → Int32} {L : Nat → Nat → Int64} {r : Nat → Nat → Nat} (hh : wpX5_findNames_b0 F L r K) {H : Heap} {locs : List Loc} {ls : Array Slot} (hw : Wd D A s (cT cI cL cF cM) (cW h cI cL cF cM F L r) H locs) (hl : lv_has ls 3 [(0, .ref (h 12))]) : W p l e rmX5_findNames s m args below meth c H locs 0 0 Q (F0 m 0 ls []) := by
  unfold wpX5_findNames_b0 at hh
  refine lv_iconst (v := (0 : Int32)) C.1 C.2.1 dX5_findNames_0 (by decide) ?_
  refine lv_istore_n (lv' := [(1, .int (0 : Int32)), (0, .ref (h 12))]) C.1 C.2.1 dX5_findNames_1 rfl hl (by decide) rfl (fun ls hl => ?_)
  obtain ⟨n, hh⟩ := hh
  exact tX5_findNames_b2 C hR n _ _ _ _ _ _ _ hh hw (lv_sub hl [1, 0] rfl)
theorem ctX5_findNames (l : Launch) (D : va_G) (h : Nat → Nat) (cI cL cF cM : ClassId) (F : Nat → Nat → Int32) (L : Nat → Nat → Int64) (r : Nat → Nat → Nat) {K : cS → Prop} (hh : wpX5_findNames F L r K) : Cv l yX5_findNames wsX5_findNames rmX5_findNames [.ref (h 12)] D (cT cI cL cF cM) (cWu h cI cL cF cM) (F, L, r) K := by
  refine Cv_of (cc := cX5_findNames) (maxL := 3) (by decide) rfl (Nat.le_of_ble_eq_true rfl) ?_
  intro p e s m below meth c A Q C hw hR ls hl
  exact tX5_findNames_b0 C hR hh hw hl
theorem cdX5_findNames : yX5_findNames.cls = RX5 ∧ yX5_findNames.cls ≠ "java/lang/invoke/MethodHandle" ∧ yX5_findNames.cls ≠ "java/lang/invoke/VarHandle" ∧ (parseMethodDescriptor yX5_findNames.desc).map (fun d => d.parameters.length) = some 0 := by decide +kernel
abbrev rmX5_read : Room := { frames := 7, cells := 0, slots := 0, locals := 157 }
set_option maxHeartbeats 4000000 in
set_option maxRecDepth 100000 in
theorem tX5_read_b95 {K : Int32 → cS → Prop} (C : CallFix p m c cX5_read 3 s args wsX5_read RX5) (hR : Rti .boolean p l e rmX5_read s m args below meth c cX5_read D A (cT cI cL cF cM) (cWu h cI cL cF cM) K Q) {F : Nat → Nat → Int32} {L : Nat → Nat → Int64} {r : Nat → Nat → Nat} {k0 : Int32} (hh : wpX5_read_b95 F L r k0 K) {H : Heap} {locs : List Loc} {ls : Array Slot} (hw : Wd D A s (cT cI cL cF cM) (cW h cI cL cF cM F L r) H locs) (hl : lv_has ls 3 [(0, .ref (h 12))]) : W p l e rmX5_read s m args below meth c H locs 0 0 Q (F0 m 95 ls [.int k0]) := by
  unfold wpX5_read_b95 at hh
  obtain ⟨hb95, hh⟩ := hh
  exact hR _ _ _ (F, L, r) _ _ dX5_read_95 (isB_nar hb95) hh hw
set_option maxHeartbeats 4000000 in
set_option maxRecDepth 100000 in
theorem tX5_read_b80 {K : Int32 → cS → Prop} (C : CallFix p m c cX5_read 3 s args wsX5_read RX5) (hR : Rti .boolean p l e rmX5_read s m args below meth c cX5_read D A (cT cI cL cF cM) (cWu h cI cL cF cM) K Q) {F : Nat → Nat → Int32} {L : Nat → Nat → Int64} {r : Nat → Nat → Nat} (hh : wpX5_read_b80 F L r K) {H : Heap} {locs : List Loc} {ls : Array Slot} (hw : Wd D A s (cT cI cL cF cM) (cW h cI cL cF cM F L r) H locs) (hl : lv_has ls 3 [(0, .ref (h 12))]) : W p l e rmX5_read s m args below meth c H locs 0 0 Q (F0 m 80 ls []) := by
  unfold wpX5_read_b80 at hh
  refine lv_aload_n C.1 C.2.1 dX5_read_80 rfl (lv_at hl 0 rfl) ?_
  refine c_get C hw (inC inW5) (kd_lt kp12 (by decide)) (ce5 kp12) rfl 0 (by decide) (wc w_307) (v := .ref (h 4)) rfl dX5_read_81 ?_
  refine c_get C hw (inC inW9) (kd_lt kp4 (by decide)) (ce9 kp4) rfl 1 (by decide) (wc w_155) (v := .int (F 4 1)) rfl dX5_read_84 ?_
  refine lv_if_ne (tgt := 94) C.1 C.2.1 dX5_read_87 (by decide) (fun c87 => ?_) (fun c87 => ?_)
  · replace hh := hh.1 c87
    refine lv_iconst (v := (0 : Int32)) C.1 C.2.1 dX5_read_94 (by decide) ?_
    exact tX5_read_b95 C hR hh hw hl
  · replace hh := hh.2 c87
    refine lv_iconst (v := (1 : Int32)) C.1 C.2.1 dX5_read_90 (by decide) ?_
    refine lv_goto (tgt := 95) C.1 C.2.1 dX5_read_91 (by decide) ?_
    exact tX5_read_b95 C hR hh hw hl
set_option maxHeartbeats 4000000 in
set_option maxRecDepth 100000 in
theorem tX5_read_b66 {K : Int32 → cS → Prop} (C : CallFix p m c cX5_read 3 s args wsX5_read RX5) (hR : Rti .boolean p l e rmX5_read s m args below meth c cX5_read D A (cT cI cL cF cM) (cWu h cI cL cF cM) K Q) {F : Nat → Nat → Int32} {L : Nat → Nat → Int64} {r : Nat → Nat → Nat} (hh : wpX5_read_b66 F L r K) {H : Heap} {locs : List Loc} {ls : Array Slot} (hw : Wd D A s (cT cI cL cF cM) (cW h cI cL cF cM F L r) H locs) (hl : lv_has ls 3 [(0, .ref (h 12))]) : W p l e rmX5_read s m args below meth c H locs 0 0 Q (F0 m 66 ls []) := by
  unfold wpX5_read_b66 at hh
  refine lv_aload_n C.1 C.2.1 dX5_read_66 rfl (lv_at hl 0 rfl) ?_
  refine c_get C hw (inC inW5) (kd_lt kp12 (by decide)) (ce5 kp12) rfl 0 (by decide) (wc w_307) (v := .ref (h 4)) rfl dX5_read_67 ?_
  refine c_get C hw (inC inW9) (kd_lt kp4 (by decide)) (ce9 kp4) rfl 1 (by decide) (wc w_155) (v := .int (F 4 1)) rfl dX5_read_70 ?_
  refine lv_if_ne (tgt := 80) C.1 C.2.1 dX5_read_73 (by decide) (fun c73 => ?_) (fun c73 => ?_)
  · replace hh := hh.1 c73
    exact tX5_read_b80 C hR hh hw hl
  · replace hh := hh.2 c73
    refine lv_aload_n C.1 C.2.1 dX5_read_76 rfl (lv_at hl 0 rfl) ?_
    refine c_Vv C hw (ctX5_findNames l D h cI cL cF cM F L r hh) (cwV 0 C.2.2.2.2 (gd_V w_892 w_894 w_28 w_118 w_895) rfl rfl rfl cdX5_findNames ⟨Nat.le_of_ble_eq_true rfl, Nat.le_of_ble_eq_true rfl⟩) rfl (kd_lt kp12 (by decide)) (ce5 kp12) rfl hl.1 (Nat.le_of_ble_eq_true rfl) dX5_read_77 ⟨Nat.zero_le _, Nat.zero_le _⟩ (fun u77 H locs hh hw => ?_) rfl
    exact tX5_read_b80 C hR hh hw hl
set_option maxHeartbeats 4000000 in
set_option maxRecDepth 100000 in
theorem tX5_read_b29_body {B29 : (Nat → Nat → Int32) → (Nat → Nat → Int64) → (Nat → Nat → Nat) → Int32 → Prop} {K : Int32 → cS → Prop} (C : CallFix p m c cX5_read 3 s args wsX5_read RX5) (hR : Rti .boolean p l e rmX5_read s m args below meth c cX5_read D A (cT cI cL cF cM) (cWu h cI cL cF cM) K Q) (hB29 : ∀ (F : Nat → Nat → Int32) (L : Nat → Nat → Int64) (r : Nat → Nat → Nat) (x2 : Int32) (H : Heap) (locs : List Loc) (ls : Array Slot), B29 F L r x2 → Wd D A s (cT cI cL cF cM) (cW h cI cL cF cM F L r) H locs → lv_has ls 3 [(0, .ref (h 12)), (2, .int x2)] → W p l e rmX5_read s m args below meth c H locs 0 0 Q (F0 m 29 ls [])) {F : Nat → Nat → Int32} {L : Nat → Nat → Int64} {r : Nat → Nat → Nat} {x2 : Int32} (hh : wpX5_read_b29_body B29 F L r x2 K) {H : Heap} {locs : List Loc} {ls : Array Slot} (hw : Wd D A s (cT cI cL cF cM) (cW h cI cL cF cM F L r) H locs) (hl : lv_has ls 3 [(0, .ref (h 12)), (2, .int x2)]) : W p l e rmX5_read s m args below meth c H locs 0 0 Q (F0 m 29 ls []) := by
  unfold wpX5_read_b29_body at hh
  refine lv_iload_n C.1 C.2.1 dX5_read_29 rfl (lv_at hl 1 rfl) ?_
  refine lv_sipush (v := (500 : Int32)) C.1 C.2.1 dX5_read_30 (by decide) ?_
  refine lv_icmp_gt (tgt := 66) C.1 C.2.1 dX5_read_33 (by decide) (fun c33 => ?_) (fun c33 => ?_)
  · replace hh := hh.1 c33
    exact tX5_read_b66 C hR hh hw (lv_sub hl [0] rfl)
  · replace hh := hh.2 c33
    refine lv_aload_n C.1 C.2.1 dX5_read_36 rfl (lv_at hl 0 rfl) ?_
    refine c_get C hw (inC inW5) (kd_lt kp12 (by decide)) (ce5 kp12) rfl 0 (by decide) (wc w_307) (v := .ref (h 4)) rfl dX5_read_37 ?_
    refine c_get C hw (inC inW9) (kd_lt kp4 (by decide)) (ce9 kp4) rfl 1 (by decide) (wc w_155) (v := .int (F 4 1)) rfl dX5_read_40 ?_
    refine lv_if_ne (tgt := 66) C.1 C.2.1 dX5_read_43 (by decide) (fun c43 => ?_) (fun c43 => ?_)
    · replace hh := hh.1 c43
      exact tX5_read_b66 C hR hh hw (lv_sub hl [0] rfl)
    · replace hh := hh.2 c43
      refine lv_aload_n C.1 C.2.1 dX5_read_46 rfl (lv_at hl 0 rfl) ?_
      refine c_get C hw (inC inW5) (kd_lt kp12 (by decide)) (ce5 kp12) rfl 0 (by decide) (wc w_307) (v := .ref (h 4)) rfl dX5_read_47 ?_
      refine c_get C hw (inC inW9) (kd_lt kp4 (by decide)) (ce9 kp4) rfl 3 (by decide) (wc w_161) (v := .int (F 4 3)) rfl dX5_read_50 ?_
      refine lv_if_eq (tgt := 66) C.1 C.2.1 dX5_read_53 (by decide) (fun c53 => ?_) (fun c53 => ?_)
      · replace hh := hh.1 c53
        exact tX5_read_b66 C hR hh hw (lv_sub hl [0] rfl)
      · replace hh := hh.2 c53
        refine lv_aload_n C.1 C.2.1 dX5_read_56 rfl (lv_at hl 0 rfl) ?_
        refine c_Vv C hw (ctX5_readLine l D h cI cL cF cM F L r hh) (cwV 0 C.2.2.2.2 (gd_V w_826 w_828 w_14 w_118 w_829) rfl rfl rfl cdX5_readLine ⟨Nat.le_of_ble_eq_true rfl, Nat.le_of_ble_eq_true rfl⟩) rfl (kd_lt kp12 (by decide)) (ce5 kp12) rfl hl.1 (Nat.le_of_ble_eq_true rfl) dX5_read_57 ⟨Nat.zero_le _, Nat.zero_le _⟩ (fun u57 H locs hh hw => ?_) rfl
        refine lv_iinc (v := x2 + (1 : Int32)) (lv' := [(2, .int (x2 + (1 : Int32))), (0, .ref (h 12))]) C.1 C.2.1 dX5_read_60 hl (k := 1) rfl rfl (by decide) rfl (fun ls hl => ?_)
        refine lv_goto (tgt := 29) C.1 C.2.1 dX5_read_63 (by decide) ?_
        exact hB29 _ _ _ _ _ _ _ hh hw (lv_sub hl [1, 0] rfl)
theorem tX5_read_b29 {K : Int32 → cS → Prop} (C : CallFix p m c cX5_read 3 s args wsX5_read RX5) (hR : Rti .boolean p l e rmX5_read s m args below meth c cX5_read D A (cT cI cL cF cM) (cWu h cI cL cF cM) K Q) (n : Nat) : ∀ (F : Nat → Nat → Int32) (L : Nat → Nat → Int64) (r : Nat → Nat → Nat) (x2 : Int32) (H : Heap) (locs : List Loc) (ls : Array Slot), wpX5_read_b29 n F L r x2 K → Wd D A s (cT cI cL cF cM) (cW h cI cL cF cM F L r) H locs → lv_has ls 3 [(0, .ref (h 12)), (2, .int x2)] → W p l e rmX5_read s m args below meth c H locs 0 0 Q (F0 m 29 ls []) := by
  induction n with
  | zero => intro F L r x2 H locs ls hh; exact hh.elim
  | succ n ih => intro F L r x2 H locs ls hh hw hl; exact tX5_read_b29_body C hR ih hh hw hl
set_option maxHeartbeats 4000000 in
set_option maxRecDepth 100000 in
theorem tX5_read_b0 {K : Int32 → cS → Prop} (C : CallFix p m c cX5_read 3 s args wsX5_read RX5) (hR : Rti .boolean p l e rmX5_read s m args below meth c cX5_read D A (cT cI cL cF cM) (cWu h cI cL cF cM) K Q) {F : Nat → Nat → Int32} {L : Nat → Nat → Int64} {r : Nat → Nat → Nat} {x1 : Int32} (hh : wpX5_read_b0 F L r x1 K) {H : Heap} {locs : List Loc} {ls : Array Slot} (hw : Wd D A s (cT cI cL cF cM) (cW h cI cL cF cM F L r) H locs) (hl : lv_has ls 3 [(0, .ref (h 12)), (1, .int x1)]) : W p l e rmX5_read s m args below meth c H locs 0 0 Q (F0 m 0 ls []) := by
  unfold wpX5_read_b0 at hh
  refine lv_aload_n C.1 C.2.1 dX5_read_0 rfl (lv_at hl 0 rfl) ?_
  refine c_get C hw (inC inW5) (kd_lt kp12 (by decide)) (ce5 kp12) rfl 5 (by decide) (wc w_312) (v := .ref (h (r 12 5))) rfl dX5_read_1 ?_
  obtain ⟨hk0, hh⟩ := hh
  refine c_Vv C hw (ctX4_clear l D h cI cL cF cM (r 12 5) hk0 F L r hh) (cwV 0 C.2.2.2.2 (gd_V w_820 w_821 w_822 w_119 w_823) rfl rfl rfl cdX4_clear ⟨Nat.le_of_ble_eq_true rfl, Nat.le_of_ble_eq_true rfl⟩) rfl (kd_lt hk0 (by decide)) (ce4 hk0) rfl hl.1 (Nat.le_of_ble_eq_true rfl) dX5_read_4 ⟨Nat.zero_le _, Nat.zero_le _⟩ (fun u4 H locs hh hw => ?_) rfl
  refine lv_aload_n C.1 C.2.1 dX5_read_7 rfl (lv_at hl 0 rfl) ?_
  refine lv_iconst (v := (0 : Int32)) C.1 C.2.1 dX5_read_8 (by decide) ?_
  refine c_puti C hw (inC inW5) tyX5 tyX5_ok nmX5 (kd_lt kp12 (by decide)) (ce5 kp12) rfl 6 (by decide) (wc w_313) rfl (ty := .int) (by decide +kernel) rfl rfl (Nat.le_of_ble_eq_true rfl) rfl dX5_read_9 (fun H locs hw => ?_)
  refine lv_aload_n C.1 C.2.1 dX5_read_12 rfl (lv_at hl 0 rfl) ?_
  refine lv_iconst (v := (0 : Int32)) C.1 C.2.1 dX5_read_13 (by decide) ?_
  refine c_puti C hw (inC inW5) tyX5 tyX5_ok nmX5 (kd_lt kp12 (by decide)) (ce5 kp12) rfl 7 (by decide) (wc w_314) rfl (ty := .int) (by decide +kernel) rfl rfl (Nat.le_of_ble_eq_true rfl) rfl dX5_read_14 (fun H locs hw => ?_)
  refine lv_aload_n C.1 C.2.1 dX5_read_17 rfl (lv_at hl 0 rfl) ?_
  refine c_get C hw (inC inW5) (kd_lt kp12 (by decide)) (ce5 kp12) rfl 0 (by decide) (wc w_307) (v := .ref (h 4)) rfl dX5_read_18 ?_
  refine lv_iload_n C.1 C.2.1 dX5_read_21 rfl (lv_at hl 1 rfl) ?_
  refine va_ldcS C.1 C.2.1 C.2.2.2.1 hw.2.2.2.2.2.2.1 dX5_read_22 ?_
  refine c_Vv C hw (ctX9_open l D h cI cL cF cM 1 (by decide) (pt (pt u4.1 12 6 (0 : Int32)) 12 7 (0 : Int32)) u4.2.1 u4.2.2 x1 hh) (cwV 2 C.2.2.2.2 (gd_V w_825 w_638 w_639 w_115 w_640) rfl rfl rfl cdX9_open ⟨Nat.le_of_ble_eq_true rfl, Nat.le_of_ble_eq_true rfl⟩) rfl (kd_lt kp4 (by decide)) (ce9 kp4) rfl hl.1 (Nat.le_of_ble_eq_true rfl) dX5_read_24 ⟨Nat.zero_le _, Nat.zero_le _⟩ (fun u24 H locs hh hw => ?_) rfl
  refine lv_iconst (v := (0 : Int32)) C.1 C.2.1 dX5_read_27 (by decide) ?_
  refine lv_istore_n (lv' := [(2, .int (0 : Int32)), (0, .ref (h 12)), (1, .int x1)]) C.1 C.2.1 dX5_read_28 rfl hl (by decide) rfl (fun ls hl => ?_)
  obtain ⟨n, hh⟩ := hh
  exact tX5_read_b29 C hR n _ _ _ _ _ _ _ hh hw (lv_sub hl [1, 0] rfl)
theorem ctX5_read (l : Launch) (D : va_G) (h : Nat → Nat) (cI cL cF cM : ClassId) (F : Nat → Nat → Int32) (L : Nat → Nat → Int64) (r : Nat → Nat → Nat) (x1 : Int32) {K : Int32 → cS → Prop} (hh : wpX5_read F L r x1 K) : Ci l yX5_read wsX5_read rmX5_read [.ref (h 12), .int x1] D (cT cI cL cF cM) (cWu h cI cL cF cM) (F, L, r) K := by
  refine Ci_of (cc := cX5_read) (maxL := 3) (by decide) rfl (Nat.le_of_ble_eq_true rfl) ?_
  intro p e s m below meth c A Q C hw hR ls hl
  exact tX5_read_b0 C hR hh hw hl
theorem cdX5_read : yX5_read.cls = RX5 ∧ yX5_read.cls ≠ "java/lang/invoke/MethodHandle" ∧ yX5_read.cls ≠ "java/lang/invoke/VarHandle" ∧ (parseMethodDescriptor yX5_read.desc).map (fun d => d.parameters.length) = some 1 := by decide +kernel
end
