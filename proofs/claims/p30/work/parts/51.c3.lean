section
variable {p : Program} {l : Launch} {e : Env} {s : State} {m : MethodId} {args : Array Value} {below : List Frame} {meth : Method} {c : Code} {D : va_G} {A : Nat → Prop} {h : Nat → Nat} {cI cL cF cM : ClassId} {Q : State → Prop}
abbrev rmX5_exchange : Room := { frames := 0, cells := 0, slots := 0, locals := 0 }
set_option maxHeartbeats 4000000 in
set_option maxRecDepth 100000 in
theorem tX5_exchange_b0 {a1 : Nat} {K : Nat → cS → Prop} (C : CallFix p m c cX5_exchange 3 s args wsX5_exchange RX5) (hR : Rtr p l e rmX5_exchange s m args below meth c cX5_exchange D A (cT cI cL cF cM) (cWu h cI cL cF cM) h K Q) (ha1 : kd a1 = 4) {F : Nat → Nat → Int32} {L : Nat → Nat → Int64} {r : Nat → Nat → Nat} (hh : wpX5_exchange_b0 a1 F L r K) {H : Heap} {locs : List Loc} {ls : Array Slot} (hw : Wd D A s (cT cI cL cF cM) (cW h cI cL cF cM F L r) H locs) (hl : lv_has ls 3 [(0, .ref (h 12)), (1, .ref (h a1))]) : W p l e rmX5_exchange s m args below meth c H locs 0 0 Q (F0 m 0 ls []) := by
  unfold wpX5_exchange_b0 at hh
  refine lv_aload_n C.1 C.2.1 dX5_exchange_0 rfl (lv_at hl 0 rfl) ?_
  refine c_get C hw (inC inW5) (kd_lt kp12 (by decide)) (ce5 kp12) rfl 5 (by decide) (wc w_312) (v := .ref (h (r 12 5))) rfl dX5_exchange_1 ?_
  refine lv_astore_n (lv' := [(2, .ref (h (r 12 5))), (0, .ref (h 12)), (1, .ref (h a1))]) C.1 C.2.1 dX5_exchange_4 rfl hl (by decide) rfl (fun ls hl => ?_)
  refine lv_aload_n C.1 C.2.1 dX5_exchange_5 rfl (lv_at hl 1 rfl) ?_
  refine lv_aload_n C.1 C.2.1 dX5_exchange_6 rfl (lv_at hl 2 rfl) ?_
  refine c_putr (v := a1) C hw (inC inW5) tyX5 tyX5_ok nmX5 (kd_lt kp12 (by decide)) (ce5 kp12) rfl 5 (by decide) (wc w_312) rfl (ty := .object "RelayMouse$Net") (by decide +kernel) rfl rfl (Nat.le_of_ble_eq_true rfl) rfl dX5_exchange_7 (fun H locs hw => ?_)
  refine lv_aload_n C.1 C.2.1 dX5_exchange_10 rfl (lv_at hl 0 rfl) ?_
  exact hR _ _ (r 12 5) (F, L, ptN r 12 5 a1) _ _ dX5_exchange_11 hh hw
theorem ctX5_exchange (l : Launch) (D : va_G) (h : Nat → Nat) (cI cL cF cM : ClassId) (a1 : Nat) (ha1 : kd a1 = 4) (F : Nat → Nat → Int32) (L : Nat → Nat → Int64) (r : Nat → Nat → Nat) {K : Nat → cS → Prop} (hh : wpX5_exchange a1 F L r K) : Cr l yX5_exchange wsX5_exchange rmX5_exchange [.ref (h 12), .ref (h a1)] D (cT cI cL cF cM) (cWu h cI cL cF cM) h (F, L, r) K := by
  refine Cr_of (cc := cX5_exchange) (maxL := 3) (by decide) rfl (Nat.le_of_ble_eq_true rfl) ?_
  intro p e s m below meth c A Q C hw hR ls hl
  exact tX5_exchange_b0 C hR ha1 hh hw hl
theorem cdX5_exchange : yX5_exchange.cls = RX5 ∧ yX5_exchange.cls ≠ "java/lang/invoke/MethodHandle" ∧ yX5_exchange.cls ≠ "java/lang/invoke/VarHandle" ∧ (parseMethodDescriptor yX5_exchange.desc).map (fun d => d.parameters.length) = some 1 := by decide +kernel
abbrev rmX0_renew : Room := { frames := 0, cells := 0, slots := 0, locals := 0 }
set_option maxHeartbeats 4000000 in
set_option maxRecDepth 100000 in
theorem tX0_renew_b0 {a0 : Nat} {K : cS → Prop} (C : CallFix p m c cX0_renew 1 s args wsX0_renew RX0) (hR : Rtv p l e rmX0_renew s m args below meth c cX0_renew D A (cT cI cL cF cM) (cWu h cI cL cF cM) K Q) (ha0 : kd a0 = 0) {F : Nat → Nat → Int32} {L : Nat → Nat → Int64} {r : Nat → Nat → Nat} (hh : wpX0_renew_b0 a0 F L r K) {H : Heap} {locs : List Loc} {ls : Array Slot} (hw : Wd D A s (cT cI cL cF cM) (cW h cI cL cF cM F L r) H locs) (hl : lv_has ls 1 [(0, .ref (h a0))]) : W p l e rmX0_renew s m args below meth c H locs 0 0 Q (F0 m 0 ls []) := by
  unfold wpX0_renew_b0 at hh
  refine lv_aload_n C.1 C.2.1 dX0_renew_0 rfl (lv_at hl 0 rfl) ?_
  refine lv_iconst (v := (0 : Int32)) C.1 C.2.1 dX0_renew_1 (by decide) ?_
  refine c_puti C hw (inC inW0) tyX0 tyX0_ok nmX0 (kd_lt ha0 (by decide)) (ce0 ha0) rfl 1 (by decide) (wc w_441) rfl (ty := .int) (by decide +kernel) rfl rfl (Nat.le_of_ble_eq_true rfl) rfl dX0_renew_2 (fun H locs hw => ?_)
  refine lv_aload_n C.1 C.2.1 dX0_renew_5 rfl (lv_at hl 0 rfl) ?_
  refine lv_iconst (v := (0 : Int32)) C.1 C.2.1 dX0_renew_6 (by decide) ?_
  refine c_puti C hw (inC inW0) tyX0 tyX0_ok nmX0 (kd_lt ha0 (by decide)) (ce0 ha0) rfl 2 (by decide) (wc w_443) rfl (ty := .int) (by decide +kernel) rfl rfl (Nat.le_of_ble_eq_true rfl) rfl dX0_renew_7 (fun H locs hw => ?_)
  refine lv_aload_n C.1 C.2.1 dX0_renew_10 rfl (lv_at hl 0 rfl) ?_
  refine lv_iconst (v := (0 : Int32)) C.1 C.2.1 dX0_renew_11 (by decide) ?_
  refine c_puti C hw (inC inW0) tyX0 tyX0_ok nmX0 (kd_lt ha0 (by decide)) (ce0 ha0) rfl 0 (by decide) (wc w_439) rfl (ty := .int) (by decide +kernel) rfl rfl (Nat.le_of_ble_eq_true rfl) rfl dX0_renew_12 (fun H locs hw => ?_)
  refine lv_aload_n C.1 C.2.1 dX0_renew_15 rfl (lv_at hl 0 rfl) ?_
  refine lv_iconst (v := (0 : Int32)) C.1 C.2.1 dX0_renew_16 (by decide) ?_
  refine c_puti C hw (inC inW0) tyX0 tyX0_ok nmX0 (kd_lt ha0 (by decide)) (ce0 ha0) rfl 3 (by decide) (wc w_444) rfl (ty := .boolean) (by decide +kernel) rfl rfl (Nat.le_of_ble_eq_true rfl) rfl dX0_renew_17 (fun H locs hw => ?_)
  exact hR _ _ (pt (pt (pt (pt F a0 1 (0 : Int32)) a0 2 (0 : Int32)) a0 0 (0 : Int32)) a0 3 (0 : Int32), L, r) _ _ dX0_renew_20 hh hw
theorem ctX0_renew (l : Launch) (D : va_G) (h : Nat → Nat) (cI cL cF cM : ClassId) (a0 : Nat) (ha0 : kd a0 = 0) (F : Nat → Nat → Int32) (L : Nat → Nat → Int64) (r : Nat → Nat → Nat) {K : cS → Prop} (hh : wpX0_renew a0 F L r K) : Cv l yX0_renew wsX0_renew rmX0_renew [.ref (h a0)] D (cT cI cL cF cM) (cWu h cI cL cF cM) (F, L, r) K := by
  refine Cv_of (cc := cX0_renew) (maxL := 1) (by decide) rfl (Nat.le_of_ble_eq_true rfl) ?_
  intro p e s m below meth c A Q C hw hR ls hl
  exact tX0_renew_b0 C hR ha0 hh hw hl
theorem cdX0_renew : yX0_renew.cls = RX0 ∧ yX0_renew.cls ≠ "java/lang/invoke/MethodHandle" ∧ yX0_renew.cls ≠ "java/lang/invoke/VarHandle" ∧ (parseMethodDescriptor yX0_renew.desc).map (fun d => d.parameters.length) = some 0 := by decide +kernel
abbrev rmX10_net : Room := { frames := 8, cells := 0, slots := 0, locals := 179 }
set_option maxHeartbeats 4000000 in
set_option maxRecDepth 100000 in
theorem tX10_net_b15 {K : Int32 → cS → Prop} (C : CallFix p m c cX10_net 2 s args wsX10_net RX10) (hR : Rti .int p l e rmX10_net s m args below meth c cX10_net D A (cT cI cL cF cM) (cWu h cI cL cF cM) K Q) {F : Nat → Nat → Int32} {L : Nat → Nat → Int64} {r : Nat → Nat → Nat} (hh : wpX10_net_b15 F L r K) {H : Heap} {locs : List Loc} {ls : Array Slot} (hw : Wd D A s (cT cI cL cF cM) (cW h cI cL cF cM F L r) H locs) (hl : lv_has ls 2 [(0, .ref (h 0))]) : W p l e rmX10_net s m args below meth c H locs 0 0 Q (F0 m 15 ls []) := by
  unfold wpX10_net_b15 at hh
  refine lv_bipush (v := (-2 : Int32)) C.1 C.2.1 dX10_net_15 (by decide) ?_
  exact hR _ _ _ (F, L, r) _ _ dX10_net_17 rfl hh hw
set_option maxHeartbeats 4000000 in
set_option maxRecDepth 100000 in
theorem tX10_net_b0 {K : Int32 → cS → Prop} (C : CallFix p m c cX10_net 2 s args wsX10_net RX10) (hR : Rti .int p l e rmX10_net s m args below meth c cX10_net D A (cT cI cL cF cM) (cWu h cI cL cF cM) K Q) {F : Nat → Nat → Int32} {L : Nat → Nat → Int64} {r : Nat → Nat → Nat} {x1 : Int32} (hh : wpX10_net_b0 F L r x1 K) {H : Heap} {locs : List Loc} {ls : Array Slot} (hw : Wd D A s (cT cI cL cF cM) (cW h cI cL cF cM F L r) H locs) (hl : lv_has ls 2 [(0, .ref (h 0)), (1, .int x1)]) : W p l e rmX10_net s m args below meth c H locs 0 0 Q (F0 m 0 ls []) := by
  unfold wpX10_net_b0 at hh
  refine lv_iload_n C.1 C.2.1 dX10_net_0 rfl (lv_at hl 1 rfl) ?_
  refine lv_if_lt (tgt := 15) C.1 C.2.1 dX10_net_1 (by decide) (fun c1 => ?_) (fun c1 => ?_)
  · replace hh := hh.1 c1
    exact tX10_net_b15 C hR hh hw (lv_sub hl [0] rfl)
  · replace hh := hh.2 c1
    refine lv_iload_n C.1 C.2.1 dX10_net_4 rfl (lv_at hl 1 rfl) ?_
    refine lv_aload_n C.1 C.2.1 dX10_net_5 rfl (lv_at hl 0 rfl) ?_
    refine c_get C hw (inC inW10) (kd_lt kp0 (by decide)) (ce10 kp0) rfl 0 (by decide) (wc w_570) (v := .ref (h 4)) rfl dX10_net_6 ?_
    refine c_get C hw (inC inW9) (kd_lt kp4 (by decide)) (ce9 kp4) rfl 0 (by decide) (wc w_153) (v := .int (F 4 0)) rfl dX10_net_9 ?_
    refine lv_icmp_le (tgt := 18) C.1 C.2.1 dX10_net_12 (by decide) (fun c12 => ?_) (fun c12 => ?_)
    · replace hh := hh.1 c12
      refine lv_aload_n C.1 C.2.1 dX10_net_18 rfl (lv_at hl 0 rfl) ?_
      refine c_get C hw (inC inW10) (kd_lt kp0 (by decide)) (ce10 kp0) rfl 2 (by decide) (wc w_572) (v := .ref (h 12)) rfl dX10_net_19 ?_
      refine lv_iload_n C.1 C.2.1 dX10_net_22 rfl (lv_at hl 1 rfl) ?_
      refine c_Vi C hw (ctX5_read l D h cI cL cF cM F L r x1 hh) (cwV 1 C.2.2.2.2 (gd_V w_816 w_817 w_818 w_118 w_819) rfl rfl rfl cdX5_read ⟨Nat.le_of_ble_eq_true rfl, Nat.le_of_ble_eq_true rfl⟩) rfl (kd_lt kp12 (by decide)) (ce5 kp12) rfl hl.1 (Nat.le_of_ble_eq_true rfl) dX10_net_23 ⟨Nat.zero_le _, Nat.zero_le _⟩ (fun r23 u23 H locs hh hw => ?_) rfl
      refine lv_if_ne (tgt := 31) C.1 C.2.1 dX10_net_26 (by decide) (fun c26 => ?_) (fun c26 => ?_)
      · replace hh := hh.1 c26
        refine lv_aload_n C.1 C.2.1 dX10_net_31 rfl (lv_at hl 0 rfl) ?_
        refine lv_aload_n C.1 C.2.1 dX10_net_32 rfl (lv_at hl 0 rfl) ?_
        refine c_get C hw (inC inW10) (kd_lt kp0 (by decide)) (ce10 kp0) rfl 2 (by decide) (wc w_572) (v := .ref (h 12)) rfl dX10_net_33 ?_
        refine lv_aload_n C.1 C.2.1 dX10_net_36 rfl (lv_at hl 0 rfl) ?_
        refine c_get C hw (inC inW10) (kd_lt kp0 (by decide)) (ce10 kp0) rfl 4 (by decide) (wc w_574) (v := .ref (h (u23.2.2 0 4))) rfl dX10_net_37 ?_
        obtain ⟨hk0, hh⟩ := hh
        refine c_Vr C hw (ctX5_exchange l D h cI cL cF cM (u23.2.2 0 4) hk0 u23.1 u23.2.1 u23.2.2 hh) (cwV 1 C.2.2.2.2 (gd_V w_896 w_897 w_898 w_118 w_899) rfl rfl rfl cdX5_exchange ⟨Nat.le_of_ble_eq_true rfl, Nat.le_of_ble_eq_true rfl⟩) rfl (kd_lt kp12 (by decide)) (ce5 kp12) rfl hl.1 (Nat.le_of_ble_eq_true rfl) dX10_net_40 ⟨Nat.zero_le _, Nat.zero_le _⟩ (fun r40 u40 H locs hh hw => ?_) rfl
        refine c_putr (v := r40) C hw (inC inW10) tyX10 tyX10_ok nmX10 (kd_lt kp0 (by decide)) (ce10 kp0) rfl 4 (by decide) (wc w_574) rfl (ty := .object "RelayMouse$Net") (by decide +kernel) rfl rfl (Nat.le_of_ble_eq_true rfl) rfl dX10_net_43 (fun H locs hw => ?_)
        refine lv_aload_n C.1 C.2.1 dX10_net_46 rfl (lv_at hl 0 rfl) ?_
        refine c_get C hw (inC inW10) (kd_lt kp0 (by decide)) (ce10 kp0) rfl 7 (by decide) (wc w_577) (v := .ref (h 43)) rfl dX10_net_47 ?_
        refine c_Vv C hw (ctX0_renew l D h cI cL cF cM 43 kp43 u40.1 u40.2.1 (ptN u40.2.2 0 4 r40) hh) (cwV 0 C.2.2.2.2 (gd_V w_900 w_901 w_902 w_122 w_903) rfl rfl rfl cdX0_renew ⟨Nat.le_of_ble_eq_true rfl, Nat.le_of_ble_eq_true rfl⟩) rfl (kd_lt kp43 (by decide)) (ce0 kp43) rfl hl.1 (Nat.le_of_ble_eq_true rfl) dX10_net_50 ⟨Nat.zero_le _, Nat.zero_le _⟩ (fun u50 H locs hh hw => ?_) rfl
        refine lv_aload_n C.1 C.2.1 dX10_net_53 rfl (lv_at hl 0 rfl) ?_
        refine lv_iconst (v := (0 : Int32)) C.1 C.2.1 dX10_net_54 (by decide) ?_
        refine c_puti C hw (inC inW10) tyX10 tyX10_ok nmX10 (kd_lt kp0 (by decide)) (ce10 kp0) rfl 11 (by decide) (wc w_581) rfl (ty := .int) (by decide +kernel) rfl rfl (Nat.le_of_ble_eq_true rfl) rfl dX10_net_55 (fun H locs hw => ?_)
        refine lv_aload_n C.1 C.2.1 dX10_net_58 rfl (lv_at hl 0 rfl) ?_
        refine c_get C hw (inC inW10) (kd_lt kp0 (by decide)) (ce10 kp0) rfl 4 (by decide) (wc w_574) (v := .ref (h (u50.2.2 0 4))) rfl dX10_net_59 ?_
        obtain ⟨hk1, hh⟩ := hh
        refine c_get C hw (inC inW4) (kd_lt hk1 (by decide)) (ce4 hk1) rfl 0 (by decide) (wc w_279) (v := .int ((pt u50.1 0 11 (0 : Int32)) (u50.2.2 0 4) 0)) rfl dX10_net_62 ?_
        exact hR _ _ _ (pt u50.1 0 11 (0 : Int32), u50.2.1, u50.2.2) _ _ dX10_net_65 rfl hh hw
      · replace hh := hh.2 c26
        refine lv_iconst (v := (-1 : Int32)) C.1 C.2.1 dX10_net_29 (by decide) ?_
        exact hR _ _ _ (u23.1, u23.2.1, u23.2.2) _ _ dX10_net_30 rfl hh hw
    · replace hh := hh.2 c12
      exact tX10_net_b15 C hR hh hw (lv_sub hl [0] rfl)
theorem ctX10_net (l : Launch) (D : va_G) (h : Nat → Nat) (cI cL cF cM : ClassId) (F : Nat → Nat → Int32) (L : Nat → Nat → Int64) (r : Nat → Nat → Nat) (x1 : Int32) {K : Int32 → cS → Prop} (hh : wpX10_net F L r x1 K) : Ci l yX10_net wsX10_net rmX10_net [.ref (h 0), .int x1] D (cT cI cL cF cM) (cWu h cI cL cF cM) (F, L, r) K := by
  refine Ci_of (cc := cX10_net) (maxL := 2) (by decide) rfl (Nat.le_of_ble_eq_true rfl) ?_
  intro p e s m below meth c A Q C hw hR ls hl
  exact tX10_net_b0 C hR hh hw hl
theorem cdX10_net : yX10_net.cls = RX10 ∧ yX10_net.cls ≠ "java/lang/invoke/MethodHandle" ∧ yX10_net.cls ≠ "java/lang/invoke/VarHandle" ∧ (parseMethodDescriptor yX10_net.desc).map (fun d => d.parameters.length) = some 1 := by decide +kernel
abbrev rmX10_fault : Room := { frames := 0, cells := 0, slots := 0, locals := 0 }
set_option maxHeartbeats 4000000 in
set_option maxRecDepth 100000 in
theorem tX10_fault_b0 {K : Int32 → cS → Prop} (C : CallFix p m c cX10_fault 2 s args wsX10_fault RX10) (hR : Rti .int p l e rmX10_fault s m args below meth c cX10_fault D A (cT cI cL cF cM) (cWu h cI cL cF cM) K Q) {F : Nat → Nat → Int32} {L : Nat → Nat → Int64} {r : Nat → Nat → Nat} {x1 : Int32} (hh : wpX10_fault_b0 F L r x1 K) {H : Heap} {locs : List Loc} {ls : Array Slot} (hw : Wd D A s (cT cI cL cF cM) (cW h cI cL cF cM F L r) H locs) (hl : lv_has ls 2 [(0, .ref (h 0)), (1, .int x1)]) : W p l e rmX10_fault s m args below meth c H locs 0 0 Q (F0 m 0 ls []) := by
  unfold wpX10_fault_b0 at hh
  refine lv_iload_n C.1 C.2.1 dX10_fault_0 rfl (lv_at hl 1 rfl) ?_
  rcases Classical.em (x1 = (0 : Int32)) with hq0 | hq0
  · replace hh := hh.1 hq0
    refine lv_lookup (off := 27) (tgt := 28) C.1 C.2.1 dX10_fault_1 (by decide) (by rw [hq0]; decide) (by decide) ?_
    refine lv_aload_n C.1 C.2.1 dX10_fault_28 rfl (lv_at hl 0 rfl) ?_
    refine c_get C hw (inC inW10) (kd_lt kp0 (by decide)) (ce10 kp0) rfl 0 (by decide) (wc w_570) (v := .ref (h 4)) rfl dX10_fault_29 ?_
    refine c_get C hw (inC inW9) (kd_lt kp4 (by decide)) (ce9 kp4) rfl 1 (by decide) (wc w_157) (v := .int (F 4 1)) rfl dX10_fault_32 ?_
    exact hR _ _ _ (F, L, r) _ _ dX10_fault_35 rfl hh hw
  rcases Classical.em (x1 = (1 : Int32)) with hq1 | hq1
  · replace hh := hh.2.1 hq1
    refine lv_lookup (off := 35) (tgt := 36) C.1 C.2.1 dX10_fault_1 (by decide) (by rw [hq1]; decide) (by decide) ?_
    refine lv_aload_n C.1 C.2.1 dX10_fault_36 rfl (lv_at hl 0 rfl) ?_
    refine c_get C hw (inC inW10) (kd_lt kp0 (by decide)) (ce10 kp0) rfl 0 (by decide) (wc w_570) (v := .ref (h 4)) rfl dX10_fault_37 ?_
    refine c_get C hw (inC inW9) (kd_lt kp4 (by decide)) (ce9 kp4) rfl 2 (by decide) (wc w_159) (v := .int (F 4 2)) rfl dX10_fault_40 ?_
    exact hR _ _ _ (F, L, r) _ _ dX10_fault_43 rfl hh hw
  replace hh := hh.2.2 ⟨hq0, hq1⟩
  refine lv_lookup (off := 43) (tgt := 44) C.1 C.2.1 dX10_fault_1 (by decide) (by exact (lv_osw hq0 (by decide)).trans ((lv_osw hq1 (by decide)).trans (rfl))) (by decide) ?_
  refine lv_iconst (v := (-1 : Int32)) C.1 C.2.1 dX10_fault_44 (by decide) ?_
  exact hR _ _ _ (F, L, r) _ _ dX10_fault_45 rfl hh hw
theorem ctX10_fault (l : Launch) (D : va_G) (h : Nat → Nat) (cI cL cF cM : ClassId) (F : Nat → Nat → Int32) (L : Nat → Nat → Int64) (r : Nat → Nat → Nat) (x1 : Int32) {K : Int32 → cS → Prop} (hh : wpX10_fault F L r x1 K) : Ci l yX10_fault wsX10_fault rmX10_fault [.ref (h 0), .int x1] D (cT cI cL cF cM) (cWu h cI cL cF cM) (F, L, r) K := by
  refine Ci_of (cc := cX10_fault) (maxL := 2) (by decide) rfl (Nat.le_of_ble_eq_true rfl) ?_
  intro p e s m below meth c A Q C hw hR ls hl
  exact tX10_fault_b0 C hR hh hw hl
theorem cdX10_fault : yX10_fault.cls = RX10 ∧ yX10_fault.cls ≠ "java/lang/invoke/MethodHandle" ∧ yX10_fault.cls ≠ "java/lang/invoke/VarHandle" ∧ (parseMethodDescriptor yX10_fault.desc).map (fun d => d.parameters.length) = some 1 := by decide +kernel
abbrev rmX3_setDown : Room := { frames := 0, cells := 0, slots := 0, locals := 0 }
set_option maxHeartbeats 4000000 in
set_option maxRecDepth 100000 in
theorem tX3_setDown_b0 {a0 : Nat} {K : cS → Prop} (C : CallFix p m c cX3_setDown 2 s args wsX3_setDown RX3) (hR : Rtv p l e rmX3_setDown s m args below meth c cX3_setDown D A (cT cI cL cF cM) (cWu h cI cL cF cM) K Q) (ha0 : kd a0 = 3) {F : Nat → Nat → Int32} {L : Nat → Nat → Int64} {r : Nat → Nat → Nat} {x1 : Int32} (hh : wpX3_setDown_b0 a0 F L r x1 K) {H : Heap} {locs : List Loc} {ls : Array Slot} (hw : Wd D A s (cT cI cL cF cM) (cW h cI cL cF cM F L r) H locs) (hl : lv_has ls 2 [(0, .ref (h a0)), (1, .int x1)]) : W p l e rmX3_setDown s m args below meth c H locs 0 0 Q (F0 m 0 ls []) := by
  unfold wpX3_setDown_b0 at hh
  refine lv_aload_n C.1 C.2.1 dX3_setDown_0 rfl (lv_at hl 0 rfl) ?_
  refine lv_iload_n C.1 C.2.1 dX3_setDown_1 rfl (lv_at hl 1 rfl) ?_
  refine c_puti C hw (inC inW3) tyX3 tyX3_ok nmX3 (kd_lt ha0 (by decide)) (ce3 ha0) rfl 0 (by decide) (wc w_392) rfl (ty := .int) (by decide +kernel) rfl rfl (Nat.le_of_ble_eq_true rfl) rfl dX3_setDown_2 (fun H locs hw => ?_)
  refine lv_aload_n C.1 C.2.1 dX3_setDown_5 rfl (lv_at hl 0 rfl) ?_
  refine lv_iconst (v := (0 : Int32)) C.1 C.2.1 dX3_setDown_6 (by decide) ?_
  refine c_puti C hw (inC inW3) tyX3 tyX3_ok nmX3 (kd_lt ha0 (by decide)) (ce3 ha0) rfl 1 (by decide) (wc w_396) rfl (ty := .int) (by decide +kernel) rfl rfl (Nat.le_of_ble_eq_true rfl) rfl dX3_setDown_7 (fun H locs hw => ?_)
  refine lv_aload_n C.1 C.2.1 dX3_setDown_10 rfl (lv_at hl 0 rfl) ?_
  refine lv_iconst (v := (0 : Int32)) C.1 C.2.1 dX3_setDown_11 (by decide) ?_
  refine c_puti C hw (inC inW3) tyX3 tyX3_ok nmX3 (kd_lt ha0 (by decide)) (ce3 ha0) rfl 2 (by decide) (wc w_399) rfl (ty := .int) (by decide +kernel) rfl rfl (Nat.le_of_ble_eq_true rfl) rfl dX3_setDown_12 (fun H locs hw => ?_)
  refine lv_aload_n C.1 C.2.1 dX3_setDown_15 rfl (lv_at hl 0 rfl) ?_
  refine lv_iconst (v := (0 : Int32)) C.1 C.2.1 dX3_setDown_16 (by decide) ?_
  refine c_puti C hw (inC inW3) tyX3 tyX3_ok nmX3 (kd_lt ha0 (by decide)) (ce3 ha0) rfl 3 (by decide) (wc w_401) rfl (ty := .int) (by decide +kernel) rfl rfl (Nat.le_of_ble_eq_true rfl) rfl dX3_setDown_17 (fun H locs hw => ?_)
  exact hR _ _ (pt (pt (pt (pt F a0 0 x1) a0 1 (0 : Int32)) a0 2 (0 : Int32)) a0 3 (0 : Int32), L, r) _ _ dX3_setDown_20 hh hw
theorem ctX3_setDown (l : Launch) (D : va_G) (h : Nat → Nat) (cI cL cF cM : ClassId) (a0 : Nat) (ha0 : kd a0 = 3) (F : Nat → Nat → Int32) (L : Nat → Nat → Int64) (r : Nat → Nat → Nat) (x1 : Int32) {K : cS → Prop} (hh : wpX3_setDown a0 F L r x1 K) : Cv l yX3_setDown wsX3_setDown rmX3_setDown [.ref (h a0), .int x1] D (cT cI cL cF cM) (cWu h cI cL cF cM) (F, L, r) K := by
  refine Cv_of (cc := cX3_setDown) (maxL := 2) (by decide) rfl (Nat.le_of_ble_eq_true rfl) ?_
  intro p e s m below meth c A Q C hw hR ls hl
  exact tX3_setDown_b0 C hR ha0 hh hw hl
theorem cdX3_setDown : yX3_setDown.cls = RX3 ∧ yX3_setDown.cls ≠ "java/lang/invoke/MethodHandle" ∧ yX3_setDown.cls ≠ "java/lang/invoke/VarHandle" ∧ (parseMethodDescriptor yX3_setDown.desc).map (fun d => d.parameters.length) = some 1 := by decide +kernel
abbrev rmX3_clearSquares : Room := { frames := 0, cells := 0, slots := 0, locals := 0 }
set_option maxHeartbeats 4000000 in
set_option maxRecDepth 100000 in
theorem tX3_clearSquares_b12_body {a0 : Nat} {B12 : (Nat → Nat → Int32) → (Nat → Nat → Int64) → (Nat → Nat → Nat) → Int32 → Prop} {K : cS → Prop} (C : CallFix p m c cX3_clearSquares 2 s args wsX3_clearSquares RX3) (hR : Rtv p l e rmX3_clearSquares s m args below meth c cX3_clearSquares D A (cT cI cL cF cM) (cWu h cI cL cF cM) K Q) (ha0 : kd a0 = 3) (hB12 : ∀ (F : Nat → Nat → Int32) (L : Nat → Nat → Int64) (r : Nat → Nat → Nat) (x1 : Int32) (H : Heap) (locs : List Loc) (ls : Array Slot), B12 F L r x1 → Wd D A s (cT cI cL cF cM) (cW h cI cL cF cM F L r) H locs → lv_has ls 2 [(0, .ref (h a0)), (1, .int x1)] → W p l e rmX3_clearSquares s m args below meth c H locs 0 0 Q (F0 m 12 ls [])) {F : Nat → Nat → Int32} {L : Nat → Nat → Int64} {r : Nat → Nat → Nat} {x1 : Int32} (hh : wpX3_clearSquares_b12_body B12 a0 F L r x1 K) {H : Heap} {locs : List Loc} {ls : Array Slot} (hw : Wd D A s (cT cI cL cF cM) (cW h cI cL cF cM F L r) H locs) (hl : lv_has ls 2 [(0, .ref (h a0)), (1, .int x1)]) : W p l e rmX3_clearSquares s m args below meth c H locs 0 0 Q (F0 m 12 ls []) := by
  unfold wpX3_clearSquares_b12_body at hh
  refine lv_iload_n C.1 C.2.1 dX3_clearSquares_12 rfl (lv_at hl 1 rfl) ?_
  refine lv_iconst (v := (3 : Int32)) C.1 C.2.1 dX3_clearSquares_13 (by decide) ?_
  refine lv_icmp_ge (tgt := 30) C.1 C.2.1 dX3_clearSquares_14 (by decide) (fun c14 => ?_) (fun c14 => ?_)
  · replace hh := hh.1 c14
    exact hR _ _ (F, L, r) _ _ dX3_clearSquares_30 hh hw
  · replace hh := hh.2 c14
    refine lv_aload_n C.1 C.2.1 dX3_clearSquares_17 rfl (lv_at hl 0 rfl) ?_
    refine c_get C hw (inC inW3) (kd_lt ha0 (by decide)) (ce3 ha0) rfl 9 (by decide) (wc w_411) (v := .ref (h (a0 + 1))) rfl dX3_clearSquares_18 ?_
    refine lv_iload_n C.1 C.2.1 dX3_clearSquares_21 rfl (lv_at hl 1 rfl) ?_
    refine lv_lconst (v := (0 : Int64)) C.1 C.2.1 dX3_clearSquares_22 (by decide) ?_
    obtain ⟨hi23, hh⟩ := hh
    refine c_las C hw (kd_lt (kd3_1 ha0) (by decide)) (ce23 (kd3_1 ha0)) hi23 dX3_clearSquares_23 (fun H locs hw => ?_)
    refine lv_iinc (v := x1 + (1 : Int32)) (lv' := [(1, .int (x1 + (1 : Int32))), (0, .ref (h a0))]) C.1 C.2.1 dX3_clearSquares_24 hl (k := 1) rfl rfl (by decide) rfl (fun ls hl => ?_)
    refine lv_goto (tgt := 12) C.1 C.2.1 dX3_clearSquares_27 (by decide) ?_
    exact hB12 _ _ _ _ _ _ _ hh hw (lv_sub hl [1, 0] rfl)
theorem tX3_clearSquares_b12 {a0 : Nat} {K : cS → Prop} (C : CallFix p m c cX3_clearSquares 2 s args wsX3_clearSquares RX3) (hR : Rtv p l e rmX3_clearSquares s m args below meth c cX3_clearSquares D A (cT cI cL cF cM) (cWu h cI cL cF cM) K Q) (ha0 : kd a0 = 3) (n : Nat) : ∀ (F : Nat → Nat → Int32) (L : Nat → Nat → Int64) (r : Nat → Nat → Nat) (x1 : Int32) (H : Heap) (locs : List Loc) (ls : Array Slot), wpX3_clearSquares_b12 a0 n F L r x1 K → Wd D A s (cT cI cL cF cM) (cW h cI cL cF cM F L r) H locs → lv_has ls 2 [(0, .ref (h a0)), (1, .int x1)] → W p l e rmX3_clearSquares s m args below meth c H locs 0 0 Q (F0 m 12 ls []) := by
  induction n with
  | zero => intro F L r x1 H locs ls hh; exact hh.elim
  | succ n ih => intro F L r x1 H locs ls hh hw hl; exact tX3_clearSquares_b12_body C hR ha0 ih hh hw hl
set_option maxHeartbeats 4000000 in
set_option maxRecDepth 100000 in
theorem tX3_clearSquares_b0 {a0 : Nat} {K : cS → Prop} (C : CallFix p m c cX3_clearSquares 2 s args wsX3_clearSquares RX3) (hR : Rtv p l e rmX3_clearSquares s m args below meth c cX3_clearSquares D A (cT cI cL cF cM) (cWu h cI cL cF cM) K Q) (ha0 : kd a0 = 3) {F : Nat → Nat → Int32} {L : Nat → Nat → Int64} {r : Nat → Nat → Nat} (hh : wpX3_clearSquares_b0 a0 F L r K) {H : Heap} {locs : List Loc} {ls : Array Slot} (hw : Wd D A s (cT cI cL cF cM) (cW h cI cL cF cM F L r) H locs) (hl : lv_has ls 2 [(0, .ref (h a0))]) : W p l e rmX3_clearSquares s m args below meth c H locs 0 0 Q (F0 m 0 ls []) := by
  unfold wpX3_clearSquares_b0 at hh
  refine lv_aload_n C.1 C.2.1 dX3_clearSquares_0 rfl (lv_at hl 0 rfl) ?_
  refine lv_lconst (v := (0 : Int64)) C.1 C.2.1 dX3_clearSquares_1 (by decide) ?_
  refine c_putl C hw (inC inW3) tyX3 tyX3_ok nmX3 (kd_lt ha0 (by decide)) (ce3 ha0) rfl 4 (by decide) (wc w_403) rfl (by decide +kernel) (Nat.le_of_ble_eq_true rfl) rfl dX3_clearSquares_2 (fun H locs hw => ?_)
  refine lv_aload_n C.1 C.2.1 dX3_clearSquares_5 rfl (lv_at hl 0 rfl) ?_
  refine lv_lconst (v := (0 : Int64)) C.1 C.2.1 dX3_clearSquares_6 (by decide) ?_
  refine c_putl C hw (inC inW3) tyX3 tyX3_ok nmX3 (kd_lt ha0 (by decide)) (ce3 ha0) rfl 5 (by decide) (wc w_404) rfl (by decide +kernel) (Nat.le_of_ble_eq_true rfl) rfl dX3_clearSquares_7 (fun H locs hw => ?_)
  refine lv_iconst (v := (0 : Int32)) C.1 C.2.1 dX3_clearSquares_10 (by decide) ?_
  refine lv_istore_n (lv' := [(1, .int (0 : Int32)), (0, .ref (h a0))]) C.1 C.2.1 dX3_clearSquares_11 rfl hl (by decide) rfl (fun ls hl => ?_)
  obtain ⟨n, hh⟩ := hh
  exact tX3_clearSquares_b12 C hR ha0 n _ _ _ _ _ _ _ hh hw (lv_sub hl [1, 0] rfl)
theorem ctX3_clearSquares (l : Launch) (D : va_G) (h : Nat → Nat) (cI cL cF cM : ClassId) (a0 : Nat) (ha0 : kd a0 = 3) (F : Nat → Nat → Int32) (L : Nat → Nat → Int64) (r : Nat → Nat → Nat) {K : cS → Prop} (hh : wpX3_clearSquares a0 F L r K) : Cv l yX3_clearSquares wsX3_clearSquares rmX3_clearSquares [.ref (h a0)] D (cT cI cL cF cM) (cWu h cI cL cF cM) (F, L, r) K := by
  refine Cv_of (cc := cX3_clearSquares) (maxL := 2) (by decide) rfl (Nat.le_of_ble_eq_true rfl) ?_
  intro p e s m below meth c A Q C hw hR ls hl
  exact tX3_clearSquares_b0 C hR ha0 hh hw hl
theorem cdX3_clearSquares : yX3_clearSquares.cls = RX3 ∧ yX3_clearSquares.cls ≠ "java/lang/invoke/MethodHandle" ∧ yX3_clearSquares.cls ≠ "java/lang/invoke/VarHandle" ∧ (parseMethodDescriptor yX3_clearSquares.desc).map (fun d => d.parameters.length) = some 0 := by decide +kernel
abbrev rmX3_setDownWiped : Room := { frames := 1, cells := 0, slots := 0, locals := 21 }
set_option maxHeartbeats 4000000 in
set_option maxRecDepth 100000 in
theorem tX3_setDownWiped_b0 {a0 : Nat} {K : cS → Prop} (C : CallFix p m c cX3_setDownWiped 2 s args wsX3_setDownWiped RX3) (hR : Rtv p l e rmX3_setDownWiped s m args below meth c cX3_setDownWiped D A (cT cI cL cF cM) (cWu h cI cL cF cM) K Q) (ha0 : kd a0 = 3) {F : Nat → Nat → Int32} {L : Nat → Nat → Int64} {r : Nat → Nat → Nat} {x1 : Int32} (hh : wpX3_setDownWiped_b0 a0 F L r x1 K) {H : Heap} {locs : List Loc} {ls : Array Slot} (hw : Wd D A s (cT cI cL cF cM) (cW h cI cL cF cM F L r) H locs) (hl : lv_has ls 2 [(0, .ref (h a0)), (1, .int x1)]) : W p l e rmX3_setDownWiped s m args below meth c H locs 0 0 Q (F0 m 0 ls []) := by
  unfold wpX3_setDownWiped_b0 at hh
  refine lv_aload_n C.1 C.2.1 dX3_setDownWiped_0 rfl (lv_at hl 0 rfl) ?_
  refine lv_iload_n C.1 C.2.1 dX3_setDownWiped_1 rfl (lv_at hl 1 rfl) ?_
  refine c_Vv C hw (ctX3_setDown l D h cI cL cF cM a0 ha0 F L r x1 hh) (cwV 1 C.2.2.2.2 (gd_V w_917 w_918 w_919 w_121 w_920) rfl rfl rfl cdX3_setDown ⟨Nat.le_of_ble_eq_true rfl, Nat.le_of_ble_eq_true rfl⟩) rfl (kd_lt ha0 (by decide)) (ce3 ha0) rfl hl.1 (Nat.le_of_ble_eq_true rfl) dX3_setDownWiped_2 ⟨Nat.zero_le _, Nat.zero_le _⟩ (fun u2 H locs hh hw => ?_) rfl
  refine lv_aload_n C.1 C.2.1 dX3_setDownWiped_5 rfl (lv_at hl 0 rfl) ?_
  refine c_Vv C hw (ctX3_clearSquares l D h cI cL cF cM a0 ha0 u2.1 u2.2.1 u2.2.2 hh) (cwV 0 C.2.2.2.2 (gd_V w_921 w_922 w_923 w_121 w_924) rfl rfl rfl cdX3_clearSquares ⟨Nat.le_of_ble_eq_true rfl, Nat.le_of_ble_eq_true rfl⟩) rfl (kd_lt ha0 (by decide)) (ce3 ha0) rfl hl.1 (Nat.le_of_ble_eq_true rfl) dX3_setDownWiped_6 ⟨Nat.zero_le _, Nat.zero_le _⟩ (fun u6 H locs hh hw => ?_) rfl
  exact hR _ _ (u6.1, u6.2.1, u6.2.2) _ _ dX3_setDownWiped_9 hh hw
theorem ctX3_setDownWiped (l : Launch) (D : va_G) (h : Nat → Nat) (cI cL cF cM : ClassId) (a0 : Nat) (ha0 : kd a0 = 3) (F : Nat → Nat → Int32) (L : Nat → Nat → Int64) (r : Nat → Nat → Nat) (x1 : Int32) {K : cS → Prop} (hh : wpX3_setDownWiped a0 F L r x1 K) : Cv l yX3_setDownWiped wsX3_setDownWiped rmX3_setDownWiped [.ref (h a0), .int x1] D (cT cI cL cF cM) (cWu h cI cL cF cM) (F, L, r) K := by
  refine Cv_of (cc := cX3_setDownWiped) (maxL := 2) (by decide) rfl (Nat.le_of_ble_eq_true rfl) ?_
  intro p e s m below meth c A Q C hw hR ls hl
  exact tX3_setDownWiped_b0 C hR ha0 hh hw hl
theorem cdX3_setDownWiped : yX3_setDownWiped.cls = RX3 ∧ yX3_setDownWiped.cls ≠ "java/lang/invoke/MethodHandle" ∧ yX3_setDownWiped.cls ≠ "java/lang/invoke/VarHandle" ∧ (parseMethodDescriptor yX3_setDownWiped.desc).map (fun d => d.parameters.length) = some 1 := by decide +kernel
abbrev rmX0_settle : Room := { frames := 0, cells := 0, slots := 0, locals := 0 }
set_option maxHeartbeats 4000000 in
set_option maxRecDepth 100000 in
theorem tX0_settle_b0 {a0 : Nat} {K : cS → Prop} (C : CallFix p m c cX0_settle 2 s args wsX0_settle RX0) (hR : Rtv p l e rmX0_settle s m args below meth c cX0_settle D A (cT cI cL cF cM) (cWu h cI cL cF cM) K Q) (ha0 : kd a0 = 0) {F : Nat → Nat → Int32} {L : Nat → Nat → Int64} {r : Nat → Nat → Nat} {x1 : Int32} (hh : wpX0_settle_b0 a0 F L r x1 K) {H : Heap} {locs : List Loc} {ls : Array Slot} (hw : Wd D A s (cT cI cL cF cM) (cW h cI cL cF cM F L r) H locs) (hl : lv_has ls 2 [(0, .ref (h a0)), (1, .int x1)]) : W p l e rmX0_settle s m args below meth c H locs 0 0 Q (F0 m 0 ls []) := by
  unfold wpX0_settle_b0 at hh
  refine lv_aload_n C.1 C.2.1 dX0_settle_0 rfl (lv_at hl 0 rfl) ?_
  refine lv_iload_n C.1 C.2.1 dX0_settle_1 rfl (lv_at hl 1 rfl) ?_
  refine lv_aload_n C.1 C.2.1 dX0_settle_2 rfl (lv_at hl 0 rfl) ?_
  refine c_get C hw (inC inW0) (kd_lt ha0 (by decide)) (ce0 ha0) rfl 1 (by decide) (wc w_441) (v := .int (F a0 1)) rfl dX0_settle_3 ?_
  refine lv_iconst (v := (-1 : Int32)) C.1 C.2.1 dX0_settle_6 (by decide) ?_
  refine lv_ixor C.1 C.2.1 dX0_settle_7 ?_
  refine lv_iand C.1 C.2.1 dX0_settle_8 ?_
  refine lv_aload_n C.1 C.2.1 dX0_settle_9 rfl (lv_at hl 0 rfl) ?_
  refine c_get C hw (inC inW0) (kd_lt ha0 (by decide)) (ce0 ha0) rfl 2 (by decide) (wc w_443) (v := .int (F a0 2)) rfl dX0_settle_10 ?_
  refine lv_ior C.1 C.2.1 dX0_settle_13 ?_
  refine c_puti C hw (inC inW0) tyX0 tyX0_ok nmX0 (kd_lt ha0 (by decide)) (ce0 ha0) rfl 0 (by decide) (wc w_439) rfl (ty := .int) (by decide +kernel) rfl rfl (Nat.le_of_ble_eq_true rfl) rfl dX0_settle_14 (fun H locs hw => ?_)
  exact hR _ _ (pt F a0 0 ((x1 &&& ((F a0 1) ^^^ (-1 : Int32))) ||| (F a0 2)), L, r) _ _ dX0_settle_17 hh hw
theorem ctX0_settle (l : Launch) (D : va_G) (h : Nat → Nat) (cI cL cF cM : ClassId) (a0 : Nat) (ha0 : kd a0 = 0) (F : Nat → Nat → Int32) (L : Nat → Nat → Int64) (r : Nat → Nat → Nat) (x1 : Int32) {K : cS → Prop} (hh : wpX0_settle a0 F L r x1 K) : Cv l yX0_settle wsX0_settle rmX0_settle [.ref (h a0), .int x1] D (cT cI cL cF cM) (cWu h cI cL cF cM) (F, L, r) K := by
  refine Cv_of (cc := cX0_settle) (maxL := 2) (by decide) rfl (Nat.le_of_ble_eq_true rfl) ?_
  intro p e s m below meth c A Q C hw hR ls hl
  exact tX0_settle_b0 C hR ha0 hh hw hl
theorem cdX0_settle : yX0_settle.cls = RX0 ∧ yX0_settle.cls ≠ "java/lang/invoke/MethodHandle" ∧ yX0_settle.cls ≠ "java/lang/invoke/VarHandle" ∧ (parseMethodDescriptor yX0_settle.desc).map (fun d => d.parameters.length) = some 1 := by decide +kernel
abbrev rmX0_release : Room := { frames := 1, cells := 0, slots := 0, locals := 21 }
set_option maxHeartbeats 4000000 in
set_option maxRecDepth 100000 in
theorem tX0_release_b0 {a0 : Nat} {K : cS → Prop} (C : CallFix p m c cX0_release 1 s args wsX0_release RX0) (hR : Rtv p l e rmX0_release s m args below meth c cX0_release D A (cT cI cL cF cM) (cWu h cI cL cF cM) K Q) (ha0 : kd a0 = 0) {F : Nat → Nat → Int32} {L : Nat → Nat → Int64} {r : Nat → Nat → Nat} (hh : wpX0_release_b0 a0 F L r K) {H : Heap} {locs : List Loc} {ls : Array Slot} (hw : Wd D A s (cT cI cL cF cM) (cW h cI cL cF cM F L r) H locs) (hl : lv_has ls 1 [(0, .ref (h a0))]) : W p l e rmX0_release s m args below meth c H locs 0 0 Q (F0 m 0 ls []) := by
  unfold wpX0_release_b0 at hh
  refine lv_aload_n C.1 C.2.1 dX0_release_0 rfl (lv_at hl 0 rfl) ?_
  refine lv_iconst (v := (0 : Int32)) C.1 C.2.1 dX0_release_1 (by decide) ?_
  refine c_Vv C hw (ctX0_settle l D h cI cL cF cM a0 ha0 F L r (0 : Int32) hh) (cwV 1 C.2.2.2.2 (gd_V w_929 w_930 w_931 w_122 w_932) rfl rfl rfl cdX0_settle ⟨Nat.le_of_ble_eq_true rfl, Nat.le_of_ble_eq_true rfl⟩) rfl (kd_lt ha0 (by decide)) (ce0 ha0) rfl hl.1 (Nat.le_of_ble_eq_true rfl) dX0_release_2 ⟨Nat.zero_le _, Nat.zero_le _⟩ (fun u2 H locs hh hw => ?_) rfl
  exact hR _ _ (u2.1, u2.2.1, u2.2.2) _ _ dX0_release_5 hh hw
theorem ctX0_release (l : Launch) (D : va_G) (h : Nat → Nat) (cI cL cF cM : ClassId) (a0 : Nat) (ha0 : kd a0 = 0) (F : Nat → Nat → Int32) (L : Nat → Nat → Int64) (r : Nat → Nat → Nat) {K : cS → Prop} (hh : wpX0_release a0 F L r K) : Cv l yX0_release wsX0_release rmX0_release [.ref (h a0)] D (cT cI cL cF cM) (cWu h cI cL cF cM) (F, L, r) K := by
  refine Cv_of (cc := cX0_release) (maxL := 1) (by decide) rfl (Nat.le_of_ble_eq_true rfl) ?_
  intro p e s m below meth c A Q C hw hR ls hl
  exact tX0_release_b0 C hR ha0 hh hw hl
theorem cdX0_release : yX0_release.cls = RX0 ∧ yX0_release.cls ≠ "java/lang/invoke/MethodHandle" ∧ yX0_release.cls ≠ "java/lang/invoke/VarHandle" ∧ (parseMethodDescriptor yX0_release.desc).map (fun d => d.parameters.length) = some 0 := by decide +kernel
abbrev rmX10_floor : Room := { frames := 2, cells := 0, slots := 0, locals := 46 }
set_option maxHeartbeats 4000000 in
set_option maxRecDepth 100000 in
theorem tX10_floor_b22 {K : Int32 → cS → Prop} (C : CallFix p m c cX10_floor 3 s args wsX10_floor RX10) (hR : Rti .boolean p l e rmX10_floor s m args below meth c cX10_floor D A (cT cI cL cF cM) (cWu h cI cL cF cM) K Q) {F : Nat → Nat → Int32} {L : Nat → Nat → Int64} {r : Nat → Nat → Nat} (hh : wpX10_floor_b22 F L r K) {H : Heap} {locs : List Loc} {ls : Array Slot} (hw : Wd D A s (cT cI cL cF cM) (cW h cI cL cF cM F L r) H locs) (hl : lv_has ls 3 [(0, .ref (h 0))]) : W p l e rmX10_floor s m args below meth c H locs 0 0 Q (F0 m 22 ls []) := by
  unfold wpX10_floor_b22 at hh
  refine lv_iconst (v := (0 : Int32)) C.1 C.2.1 dX10_floor_22 (by decide) ?_
  exact hR _ _ _ (F, L, r) _ _ dX10_floor_23 rfl hh hw
set_option maxHeartbeats 4000000 in
set_option maxRecDepth 100000 in
theorem tX10_floor_b0 {K : Int32 → cS → Prop} (C : CallFix p m c cX10_floor 3 s args wsX10_floor RX10) (hR : Rti .boolean p l e rmX10_floor s m args below meth c cX10_floor D A (cT cI cL cF cM) (cWu h cI cL cF cM) K Q) {F : Nat → Nat → Int32} {L : Nat → Nat → Int64} {r : Nat → Nat → Nat} {x1 : Int32} {x2 : Int32} (hh : wpX10_floor_b0 F L r x1 x2 K) {H : Heap} {locs : List Loc} {ls : Array Slot} (hw : Wd D A s (cT cI cL cF cM) (cW h cI cL cF cM F L r) H locs) (hl : lv_has ls 3 [(0, .ref (h 0)), (1, .int x1), (2, .int x2)]) : W p l e rmX10_floor s m args below meth c H locs 0 0 Q (F0 m 0 ls []) := by
  unfold wpX10_floor_b0 at hh
  refine lv_iload_n C.1 C.2.1 dX10_floor_0 rfl (lv_at hl 1 rfl) ?_
  refine lv_iconst (v := (2 : Int32)) C.1 C.2.1 dX10_floor_1 (by decide) ?_
  refine lv_icmp_lt (tgt := 22) C.1 C.2.1 dX10_floor_2 (by decide) (fun c2 => ?_) (fun c2 => ?_)
  · replace hh := hh.1 c2
    exact tX10_floor_b22 C hR hh hw (lv_sub hl [0] rfl)
  · replace hh := hh.2 c2
    refine lv_iload_n C.1 C.2.1 dX10_floor_5 rfl (lv_at hl 1 rfl) ?_
    refine lv_bipush (v := (6 : Int32)) C.1 C.2.1 dX10_floor_6 (by decide) ?_
    refine lv_icmp_gt (tgt := 22) C.1 C.2.1 dX10_floor_8 (by decide) (fun c8 => ?_) (fun c8 => ?_)
    · replace hh := hh.1 c8
      exact tX10_floor_b22 C hR hh hw (lv_sub hl [0] rfl)
    · replace hh := hh.2 c8
      refine lv_iload_n C.1 C.2.1 dX10_floor_11 rfl (lv_at hl 2 rfl) ?_
      refine lv_iconst (v := (2 : Int32)) C.1 C.2.1 dX10_floor_12 (by decide) ?_
      refine lv_icmp_lt (tgt := 22) C.1 C.2.1 dX10_floor_13 (by decide) (fun c13 => ?_) (fun c13 => ?_)
      · replace hh := hh.1 c13
        exact tX10_floor_b22 C hR hh hw (lv_sub hl [0] rfl)
      · replace hh := hh.2 c13
        refine lv_iload_n C.1 C.2.1 dX10_floor_16 rfl (lv_at hl 2 rfl) ?_
        refine lv_bipush (v := (6 : Int32)) C.1 C.2.1 dX10_floor_17 (by decide) ?_
        refine lv_icmp_le (tgt := 24) C.1 C.2.1 dX10_floor_19 (by decide) (fun c19 => ?_) (fun c19 => ?_)
        · replace hh := hh.1 c19
          refine lv_aload_n C.1 C.2.1 dX10_floor_24 rfl (lv_at hl 0 rfl) ?_
          refine c_get C hw (inC inW10) (kd_lt kp0 (by decide)) (ce10 kp0) rfl 5 (by decide) (wc w_575) (v := .ref (h 46)) rfl dX10_floor_25 ?_
          refine lv_iload_n C.1 C.2.1 dX10_floor_28 rfl (lv_at hl 1 rfl) ?_
          refine lv_iload_n C.1 C.2.1 dX10_floor_29 rfl (lv_at hl 2 rfl) ?_
          refine c_Vv C hw (ctX1_lay l D h cI cL cF cM 46 kp46 F L r x1 x2 hh) (cwV 2 C.2.2.2.2 (gd_V w_912 w_349 w_350 w_120 w_351) rfl rfl rfl cdX1_lay ⟨Nat.le_of_ble_eq_true rfl, Nat.le_of_ble_eq_true rfl⟩) rfl (kd_lt kp46 (by decide)) (ce1 kp46) rfl hl.1 (Nat.le_of_ble_eq_true rfl) dX10_floor_30 ⟨Nat.zero_le _, Nat.zero_le _⟩ (fun u30 H locs hh hw => ?_) rfl
          refine lv_aload_n C.1 C.2.1 dX10_floor_33 rfl (lv_at hl 0 rfl) ?_
          refine c_get C hw (inC inW10) (kd_lt kp0 (by decide)) (ce10 kp0) rfl 6 (by decide) (wc w_576) (v := .ref (h 74)) rfl dX10_floor_34 ?_
          refine lv_iconst (v := (0 : Int32)) C.1 C.2.1 dX10_floor_37 (by decide) ?_
          refine c_Vv C hw (ctX3_setDownWiped l D h cI cL cF cM 74 kp74 u30.1 u30.2.1 u30.2.2 (0 : Int32) hh) (cwV 1 C.2.2.2.2 (gd_V w_913 w_914 w_915 w_121 w_916) rfl rfl rfl cdX3_setDownWiped ⟨Nat.le_of_ble_eq_true rfl, Nat.le_of_ble_eq_true rfl⟩) rfl (kd_lt kp74 (by decide)) (ce3 kp74) rfl hl.1 (Nat.le_of_ble_eq_true rfl) dX10_floor_38 ⟨Nat.zero_le _, Nat.zero_le _⟩ (fun u38 H locs hh hw => ?_) rfl
          refine lv_aload_n C.1 C.2.1 dX10_floor_41 rfl (lv_at hl 0 rfl) ?_
          refine c_get C hw (inC inW10) (kd_lt kp0 (by decide)) (ce10 kp0) rfl 6 (by decide) (wc w_576) (v := .ref (h 74)) rfl dX10_floor_42 ?_
          refine lv_iconst (v := (-1 : Int32)) C.1 C.2.1 dX10_floor_45 (by decide) ?_
          refine c_puti C hw (inC inW3) tyX3 tyX3_ok nmX3 (kd_lt kp74 (by decide)) (ce3 kp74) rfl 6 (by decide) (wc w_406) rfl (ty := .int) (by decide +kernel) rfl rfl (Nat.le_of_ble_eq_true rfl) rfl dX10_floor_46 (fun H locs hw => ?_)
          refine lv_aload_n C.1 C.2.1 dX10_floor_49 rfl (lv_at hl 0 rfl) ?_
          refine c_get C hw (inC inW10) (kd_lt kp0 (by decide)) (ce10 kp0) rfl 7 (by decide) (wc w_577) (v := .ref (h 43)) rfl dX10_floor_50 ?_
          refine c_Vv C hw (ctX0_release l D h cI cL cF cM 43 kp43 (pt u38.1 74 6 (-1 : Int32)) u38.2.1 u38.2.2 hh) (cwV 0 C.2.2.2.2 (gd_V w_925 w_926 w_927 w_122 w_928) rfl rfl rfl cdX0_release ⟨Nat.le_of_ble_eq_true rfl, Nat.le_of_ble_eq_true rfl⟩) rfl (kd_lt kp43 (by decide)) (ce0 kp43) rfl hl.1 (Nat.le_of_ble_eq_true rfl) dX10_floor_53 ⟨Nat.zero_le _, Nat.zero_le _⟩ (fun u53 H locs hh hw => ?_) rfl
          refine lv_aload_n C.1 C.2.1 dX10_floor_56 rfl (lv_at hl 0 rfl) ?_
          refine c_get C hw (inC inW10) (kd_lt kp0 (by decide)) (ce10 kp0) rfl 0 (by decide) (wc w_570) (v := .ref (h 4)) rfl dX10_floor_57 ?_
          refine lv_iconst (v := (0 : Int32)) C.1 C.2.1 dX10_floor_60 (by decide) ?_
          refine c_puti C hw (inC inW9) tyX9 tyX9_ok nmX9 (kd_lt kp4 (by decide)) (ce9 kp4) rfl 0 (by decide) (wc w_153) rfl (ty := .int) (by decide +kernel) rfl rfl (Nat.le_of_ble_eq_true rfl) rfl dX10_floor_61 (fun H locs hw => ?_)
          refine lv_aload_n C.1 C.2.1 dX10_floor_64 rfl (lv_at hl 0 rfl) ?_
          refine lv_iconst (v := (0 : Int32)) C.1 C.2.1 dX10_floor_65 (by decide) ?_
          refine c_puti C hw (inC inW10) tyX10 tyX10_ok nmX10 (kd_lt kp0 (by decide)) (ce10 kp0) rfl 11 (by decide) (wc w_581) rfl (ty := .int) (by decide +kernel) rfl rfl (Nat.le_of_ble_eq_true rfl) rfl dX10_floor_66 (fun H locs hw => ?_)
          refine lv_iconst (v := (1 : Int32)) C.1 C.2.1 dX10_floor_69 (by decide) ?_
          exact hR _ _ _ (pt (pt u53.1 4 0 (0 : Int32)) 0 11 (0 : Int32), u53.2.1, u53.2.2) _ _ dX10_floor_70 rfl hh hw
        · replace hh := hh.2 c19
          exact tX10_floor_b22 C hR hh hw (lv_sub hl [0] rfl)
theorem ctX10_floor (l : Launch) (D : va_G) (h : Nat → Nat) (cI cL cF cM : ClassId) (F : Nat → Nat → Int32) (L : Nat → Nat → Int64) (r : Nat → Nat → Nat) (x1 : Int32) (x2 : Int32) {K : Int32 → cS → Prop} (hh : wpX10_floor F L r x1 x2 K) : Ci l yX10_floor wsX10_floor rmX10_floor [.ref (h 0), .int x1, .int x2] D (cT cI cL cF cM) (cWu h cI cL cF cM) (F, L, r) K := by
  refine Ci_of (cc := cX10_floor) (maxL := 3) (by decide) rfl (Nat.le_of_ble_eq_true rfl) ?_
  intro p e s m below meth c A Q C hw hR ls hl
  exact tX10_floor_b0 C hR hh hw hl
theorem cdX10_floor : yX10_floor.cls = RX10 ∧ yX10_floor.cls ≠ "java/lang/invoke/MethodHandle" ∧ yX10_floor.cls ≠ "java/lang/invoke/VarHandle" ∧ (parseMethodDescriptor yX10_floor.desc).map (fun d => d.parameters.length) = some 2 := by decide +kernel
abbrev rmX1_has : Room := { frames := 0, cells := 0, slots := 0, locals := 0 }
set_option maxHeartbeats 4000000 in
set_option maxRecDepth 100000 in
theorem tX1_has_b17 {a0 : Nat} {K : Int32 → cS → Prop} (C : CallFix p m c cX1_has 2 s args wsX1_has RX1) (hR : Rti .boolean p l e rmX1_has s m args below meth c cX1_has D A (cT cI cL cF cM) (cWu h cI cL cF cM) K Q) (ha0 : kd a0 = 1) {F : Nat → Nat → Int32} {L : Nat → Nat → Int64} {r : Nat → Nat → Nat} {k0 : Int32} (hh : wpX1_has_b17 a0 F L r k0 K) {H : Heap} {locs : List Loc} {ls : Array Slot} (hw : Wd D A s (cT cI cL cF cM) (cW h cI cL cF cM F L r) H locs) (hl : lv_has ls 2 [(0, .ref (h a0))]) : W p l e rmX1_has s m args below meth c H locs 0 0 Q (F0 m 17 ls [.int k0]) := by
  unfold wpX1_has_b17 at hh
  obtain ⟨hb17, hh⟩ := hh
  exact hR _ _ _ (F, L, r) _ _ dX1_has_17 (isB_nar hb17) hh hw
set_option maxHeartbeats 4000000 in
set_option maxRecDepth 100000 in
theorem tX1_has_b16 {a0 : Nat} {K : Int32 → cS → Prop} (C : CallFix p m c cX1_has 2 s args wsX1_has RX1) (hR : Rti .boolean p l e rmX1_has s m args below meth c cX1_has D A (cT cI cL cF cM) (cWu h cI cL cF cM) K Q) (ha0 : kd a0 = 1) {F : Nat → Nat → Int32} {L : Nat → Nat → Int64} {r : Nat → Nat → Nat} (hh : wpX1_has_b16 a0 F L r K) {H : Heap} {locs : List Loc} {ls : Array Slot} (hw : Wd D A s (cT cI cL cF cM) (cW h cI cL cF cM F L r) H locs) (hl : lv_has ls 2 [(0, .ref (h a0))]) : W p l e rmX1_has s m args below meth c H locs 0 0 Q (F0 m 16 ls []) := by
  unfold wpX1_has_b16 at hh
  refine lv_iconst (v := (0 : Int32)) C.1 C.2.1 dX1_has_16 (by decide) ?_
  exact tX1_has_b17 C hR ha0 hh hw hl
set_option maxHeartbeats 4000000 in
set_option maxRecDepth 100000 in
theorem tX1_has_b0 {a0 : Nat} {K : Int32 → cS → Prop} (C : CallFix p m c cX1_has 2 s args wsX1_has RX1) (hR : Rti .boolean p l e rmX1_has s m args below meth c cX1_has D A (cT cI cL cF cM) (cWu h cI cL cF cM) K Q) (ha0 : kd a0 = 1) {F : Nat → Nat → Int32} {L : Nat → Nat → Int64} {r : Nat → Nat → Nat} {x1 : Int32} (hh : wpX1_has_b0 a0 F L r x1 K) {H : Heap} {locs : List Loc} {ls : Array Slot} (hw : Wd D A s (cT cI cL cF cM) (cW h cI cL cF cM F L r) H locs) (hl : lv_has ls 2 [(0, .ref (h a0)), (1, .int x1)]) : W p l e rmX1_has s m args below meth c H locs 0 0 Q (F0 m 0 ls []) := by
  unfold wpX1_has_b0 at hh
  refine lv_iload_n C.1 C.2.1 dX1_has_0 rfl (lv_at hl 1 rfl) ?_
  refine lv_if_lt (tgt := 16) C.1 C.2.1 dX1_has_1 (by decide) (fun c1 => ?_) (fun c1 => ?_)
  · replace hh := hh.1 c1
    exact tX1_has_b16 C hR ha0 hh hw (lv_sub hl [0] rfl)
  · replace hh := hh.2 c1
    refine lv_iload_n C.1 C.2.1 dX1_has_4 rfl (lv_at hl 1 rfl) ?_
    refine lv_aload_n C.1 C.2.1 dX1_has_5 rfl (lv_at hl 0 rfl) ?_
    refine c_get C hw (inC inW1) (kd_lt ha0 (by decide)) (ce1 ha0) rfl 2 (by decide) (wc w_358) (v := .int (F a0 2)) rfl dX1_has_6 ?_
    refine lv_icmp_ge (tgt := 16) C.1 C.2.1 dX1_has_9 (by decide) (fun c9 => ?_) (fun c9 => ?_)
    · replace hh := hh.1 c9
      exact tX1_has_b16 C hR ha0 hh hw (lv_sub hl [0] rfl)
    · replace hh := hh.2 c9
      refine lv_iconst (v := (1 : Int32)) C.1 C.2.1 dX1_has_12 (by decide) ?_
      refine lv_goto (tgt := 17) C.1 C.2.1 dX1_has_13 (by decide) ?_
      exact tX1_has_b17 C hR ha0 hh hw (lv_sub hl [0] rfl)
theorem ctX1_has (l : Launch) (D : va_G) (h : Nat → Nat) (cI cL cF cM : ClassId) (a0 : Nat) (ha0 : kd a0 = 1) (F : Nat → Nat → Int32) (L : Nat → Nat → Int64) (r : Nat → Nat → Nat) (x1 : Int32) {K : Int32 → cS → Prop} (hh : wpX1_has a0 F L r x1 K) : Ci l yX1_has wsX1_has rmX1_has [.ref (h a0), .int x1] D (cT cI cL cF cM) (cWu h cI cL cF cM) (F, L, r) K := by
  refine Ci_of (cc := cX1_has) (maxL := 2) (by decide) rfl (Nat.le_of_ble_eq_true rfl) ?_
  intro p e s m below meth c A Q C hw hR ls hl
  exact tX1_has_b0 C hR ha0 hh hw hl
theorem cdX1_has : yX1_has.cls = RX1 ∧ yX1_has.cls ≠ "java/lang/invoke/MethodHandle" ∧ yX1_has.cls ≠ "java/lang/invoke/VarHandle" ∧ (parseMethodDescriptor yX1_has.desc).map (fun d => d.parameters.length) = some 1 := by decide +kernel
abbrev rmX10_isSide : Room := { frames := 0, cells := 0, slots := 0, locals := 0 }
set_option maxHeartbeats 4000000 in
set_option maxRecDepth 100000 in
theorem tX10_isSide_b14 {K : Int32 → Unit → Prop} (C : CallFix p m c cX10_isSide 1 s args wsX10_isSide RX10) (hR : Rti .boolean p l e rmX10_isSide s m args below meth c cX10_isSide D A [] (fun _ : Unit => []) K Q) {k0 : Int32} (hh : wpX10_isSide_b14 k0 K) {H : Heap} {locs : List Loc} {ls : Array Slot} (hw : Wd D A s [] [] H locs) (hl : lv_has ls 1 []) : W p l e rmX10_isSide s m args below meth c H locs 0 0 Q (F0 m 14 ls [.int k0]) := by
  unfold wpX10_isSide_b14 at hh
  obtain ⟨hb14, hh⟩ := hh
  exact hR _ _ _ () _ _ dX10_isSide_14 (isB_nar hb14) hh hw
set_option maxHeartbeats 4000000 in
set_option maxRecDepth 100000 in
theorem tX10_isSide_b13 {K : Int32 → Unit → Prop} (C : CallFix p m c cX10_isSide 1 s args wsX10_isSide RX10) (hR : Rti .boolean p l e rmX10_isSide s m args below meth c cX10_isSide D A [] (fun _ : Unit => []) K Q) (hh : wpX10_isSide_b13  K) {H : Heap} {locs : List Loc} {ls : Array Slot} (hw : Wd D A s [] [] H locs) (hl : lv_has ls 1 []) : W p l e rmX10_isSide s m args below meth c H locs 0 0 Q (F0 m 13 ls []) := by
  unfold wpX10_isSide_b13 at hh
  refine lv_iconst (v := (0 : Int32)) C.1 C.2.1 dX10_isSide_13 (by decide) ?_
  exact tX10_isSide_b14 C hR hh hw hl
set_option maxHeartbeats 4000000 in
set_option maxRecDepth 100000 in
theorem tX10_isSide_b0 {K : Int32 → Unit → Prop} (C : CallFix p m c cX10_isSide 1 s args wsX10_isSide RX10) (hR : Rti .boolean p l e rmX10_isSide s m args below meth c cX10_isSide D A [] (fun _ : Unit => []) K Q) {x0 : Int32} (hh : wpX10_isSide_b0 x0 K) {H : Heap} {locs : List Loc} {ls : Array Slot} (hw : Wd D A s [] [] H locs) (hl : lv_has ls 1 [(0, .int x0)]) : W p l e rmX10_isSide s m args below meth c H locs 0 0 Q (F0 m 0 ls []) := by
  unfold wpX10_isSide_b0 at hh
  refine lv_iload_n C.1 C.2.1 dX10_isSide_0 rfl (lv_at hl 0 rfl) ?_
  refine lv_if_lt (tgt := 13) C.1 C.2.1 dX10_isSide_1 (by decide) (fun c1 => ?_) (fun c1 => ?_)
  · replace hh := hh.1 c1
    exact tX10_isSide_b13 C hR hh hw (lv_sub hl [] rfl)
  · replace hh := hh.2 c1
    refine lv_iload_n C.1 C.2.1 dX10_isSide_4 rfl (lv_at hl 0 rfl) ?_
    refine lv_iconst (v := (4 : Int32)) C.1 C.2.1 dX10_isSide_5 (by decide) ?_
    refine lv_icmp_ge (tgt := 13) C.1 C.2.1 dX10_isSide_6 (by decide) (fun c6 => ?_) (fun c6 => ?_)
    · replace hh := hh.1 c6
      exact tX10_isSide_b13 C hR hh hw (lv_sub hl [] rfl)
    · replace hh := hh.2 c6
      refine lv_iconst (v := (1 : Int32)) C.1 C.2.1 dX10_isSide_9 (by decide) ?_
      refine lv_goto (tgt := 14) C.1 C.2.1 dX10_isSide_10 (by decide) ?_
      exact tX10_isSide_b14 C hR hh hw (lv_sub hl [] rfl)
theorem ctX10_isSide (l : Launch) (D : va_G) (x0 : Int32) {K : Int32 → Unit → Prop} (hh : wpX10_isSide x0 K) : Ci l yX10_isSide wsX10_isSide rmX10_isSide [.int x0] D [] (fun _ : Unit => []) () K := by
  refine Ci_of (cc := cX10_isSide) (maxL := 1) (by decide) rfl (Nat.le_of_ble_eq_true rfl) ?_
  intro p e s m below meth c A Q C hw hR ls hl
  exact tX10_isSide_b0 C hR hh hw hl
theorem cdX10_isSide : yX10_isSide.cls ≠ "java/lang/invoke/MethodHandle" ∧ yX10_isSide.cls ≠ "java/lang/invoke/VarHandle" ∧ (parseMethodDescriptor yX10_isSide.desc).map (fun d => d.parameters.length) = some 1 := by decide +kernel
abbrev rmX1_isRim : Room := { frames := 0, cells := 0, slots := 0, locals := 0 }
set_option maxHeartbeats 4000000 in
set_option maxRecDepth 100000 in
theorem tX1_isRim_b22 {a0 : Nat} {K : Int32 → cS → Prop} (C : CallFix p m c cX1_isRim 3 s args wsX1_isRim RX1) (hR : Rti .boolean p l e rmX1_isRim s m args below meth c cX1_isRim D A (cT cI cL cF cM) (cWu h cI cL cF cM) K Q) (ha0 : kd a0 = 1) {F : Nat → Nat → Int32} {L : Nat → Nat → Int64} {r : Nat → Nat → Nat} {k0 : Int32} (hh : wpX1_isRim_b22 a0 F L r k0 K) {H : Heap} {locs : List Loc} {ls : Array Slot} (hw : Wd D A s (cT cI cL cF cM) (cW h cI cL cF cM F L r) H locs) (hl : lv_has ls 3 [(0, .ref (h a0))]) : W p l e rmX1_isRim s m args below meth c H locs 0 0 Q (F0 m 22 ls [.int k0]) := by
  unfold wpX1_isRim_b22 at hh
  obtain ⟨hb22, hh⟩ := hh
  exact hR _ _ _ (F, L, r) _ _ dX1_isRim_22 (isB_nar hb22) hh hw
set_option maxHeartbeats 4000000 in
set_option maxRecDepth 100000 in
theorem tX1_isRim_b0 {a0 : Nat} {K : Int32 → cS → Prop} (C : CallFix p m c cX1_isRim 3 s args wsX1_isRim RX1) (hR : Rti .boolean p l e rmX1_isRim s m args below meth c cX1_isRim D A (cT cI cL cF cM) (cWu h cI cL cF cM) K Q) (ha0 : kd a0 = 1) {F : Nat → Nat → Int32} {L : Nat → Nat → Int64} {r : Nat → Nat → Nat} {x1 : Int32} {x2 : Int32} (hh : wpX1_isRim_b0 a0 F L r x1 x2 K) {H : Heap} {locs : List Loc} {ls : Array Slot} (hw : Wd D A s (cT cI cL cF cM) (cW h cI cL cF cM F L r) H locs) (hl : lv_has ls 3 [(0, .ref (h a0)), (1, .int x1), (2, .int x2)]) : W p l e rmX1_isRim s m args below meth c H locs 0 0 Q (F0 m 0 ls []) := by
  unfold wpX1_isRim_b0 at hh
  refine lv_aload_n C.1 C.2.1 dX1_isRim_0 rfl (lv_at hl 0 rfl) ?_
  refine c_get C hw (inC inW1) (kd_lt ha0 (by decide)) (ce1 ha0) rfl 6 (by decide) (wc w_369) (v := .ref (h (a0 + 3))) rfl dX1_isRim_1 ?_
  refine lv_iload_n C.1 C.2.1 dX1_isRim_4 rfl (lv_at hl 2 rfl) ?_
  refine lv_iconst (v := (3 : Int32)) C.1 C.2.1 dX1_isRim_5 (by decide) ?_
  refine lv_iand C.1 C.2.1 dX1_isRim_6 ?_
  obtain ⟨hi7, hh⟩ := hh
  refine c_lal C hw (kd_lt (kd1_3 ha0) (by decide)) (ce22 (kd1_3 ha0)) hi7 dX1_isRim_7 ?_
  refine lv_iload_n C.1 C.2.1 dX1_isRim_8 rfl (lv_at hl 1 rfl) ?_
  refine lv_lushr (v := jlushr (L (a0 + 3) (ix (x2 &&& (3 : Int32)))) x1) C.1 C.2.1 dX1_isRim_9 rfl ?_
  refine lv_lconst (v := (1 : Int64)) C.1 C.2.1 dX1_isRim_10 (by decide) ?_
  refine lv_land C.1 C.2.1 dX1_isRim_11 ?_
  refine lv_lconst (v := (0 : Int64)) C.1 C.2.1 dX1_isRim_12 (by decide) ?_
  refine W.lcmp C.1 C.2.1 dX1_isRim_13 ?_
  refine lv_if_eq (tgt := 21) C.1 C.2.1 dX1_isRim_14 (by decide) (fun c14 => ?_) (fun c14 => ?_)
  · replace hh := hh.1 c14
    refine lv_iconst (v := (0 : Int32)) C.1 C.2.1 dX1_isRim_21 (by decide) ?_
    exact tX1_isRim_b22 C hR ha0 hh hw (lv_sub hl [0] rfl)
  · replace hh := hh.2 c14
    refine lv_iconst (v := (1 : Int32)) C.1 C.2.1 dX1_isRim_17 (by decide) ?_
    refine lv_goto (tgt := 22) C.1 C.2.1 dX1_isRim_18 (by decide) ?_
    exact tX1_isRim_b22 C hR ha0 hh hw (lv_sub hl [0] rfl)
theorem ctX1_isRim (l : Launch) (D : va_G) (h : Nat → Nat) (cI cL cF cM : ClassId) (a0 : Nat) (ha0 : kd a0 = 1) (F : Nat → Nat → Int32) (L : Nat → Nat → Int64) (r : Nat → Nat → Nat) (x1 : Int32) (x2 : Int32) {K : Int32 → cS → Prop} (hh : wpX1_isRim a0 F L r x1 x2 K) : Ci l yX1_isRim wsX1_isRim rmX1_isRim [.ref (h a0), .int x1, .int x2] D (cT cI cL cF cM) (cWu h cI cL cF cM) (F, L, r) K := by
  refine Ci_of (cc := cX1_isRim) (maxL := 3) (by decide) rfl (Nat.le_of_ble_eq_true rfl) ?_
  intro p e s m below meth c A Q C hw hR ls hl
  exact tX1_isRim_b0 C hR ha0 hh hw hl
theorem cdX1_isRim : yX1_isRim.cls = RX1 ∧ yX1_isRim.cls ≠ "java/lang/invoke/MethodHandle" ∧ yX1_isRim.cls ≠ "java/lang/invoke/VarHandle" ∧ (parseMethodDescriptor yX1_isRim.desc).map (fun d => d.parameters.length) = some 2 := by decide +kernel
abbrev rmX1_isWalled : Room := { frames := 0, cells := 0, slots := 0, locals := 0 }
set_option maxHeartbeats 4000000 in
set_option maxRecDepth 100000 in
theorem tX1_isWalled_b22 {a0 : Nat} {K : Int32 → cS → Prop} (C : CallFix p m c cX1_isWalled 3 s args wsX1_isWalled RX1) (hR : Rti .boolean p l e rmX1_isWalled s m args below meth c cX1_isWalled D A (cT cI cL cF cM) (cWu h cI cL cF cM) K Q) (ha0 : kd a0 = 1) {F : Nat → Nat → Int32} {L : Nat → Nat → Int64} {r : Nat → Nat → Nat} {k0 : Int32} (hh : wpX1_isWalled_b22 a0 F L r k0 K) {H : Heap} {locs : List Loc} {ls : Array Slot} (hw : Wd D A s (cT cI cL cF cM) (cW h cI cL cF cM F L r) H locs) (hl : lv_has ls 3 [(0, .ref (h a0))]) : W p l e rmX1_isWalled s m args below meth c H locs 0 0 Q (F0 m 22 ls [.int k0]) := by
  unfold wpX1_isWalled_b22 at hh
  obtain ⟨hb22, hh⟩ := hh
  exact hR _ _ _ (F, L, r) _ _ dX1_isWalled_22 (isB_nar hb22) hh hw
set_option maxHeartbeats 4000000 in
set_option maxRecDepth 100000 in
theorem tX1_isWalled_b0 {a0 : Nat} {K : Int32 → cS → Prop} (C : CallFix p m c cX1_isWalled 3 s args wsX1_isWalled RX1) (hR : Rti .boolean p l e rmX1_isWalled s m args below meth c cX1_isWalled D A (cT cI cL cF cM) (cWu h cI cL cF cM) K Q) (ha0 : kd a0 = 1) {F : Nat → Nat → Int32} {L : Nat → Nat → Int64} {r : Nat → Nat → Nat} {x1 : Int32} {x2 : Int32} (hh : wpX1_isWalled_b0 a0 F L r x1 x2 K) {H : Heap} {locs : List Loc} {ls : Array Slot} (hw : Wd D A s (cT cI cL cF cM) (cW h cI cL cF cM F L r) H locs) (hl : lv_has ls 3 [(0, .ref (h a0)), (1, .int x1), (2, .int x2)]) : W p l e rmX1_isWalled s m args below meth c H locs 0 0 Q (F0 m 0 ls []) := by
  unfold wpX1_isWalled_b0 at hh
  refine lv_aload_n C.1 C.2.1 dX1_isWalled_0 rfl (lv_at hl 0 rfl) ?_
  refine c_get C hw (inC inW1) (kd_lt ha0 (by decide)) (ce1 ha0) rfl 4 (by decide) (wc w_365) (v := .ref (h (a0 + 1))) rfl dX1_isWalled_1 ?_
  refine lv_iload_n C.1 C.2.1 dX1_isWalled_4 rfl (lv_at hl 2 rfl) ?_
  refine lv_iconst (v := (3 : Int32)) C.1 C.2.1 dX1_isWalled_5 (by decide) ?_
  refine lv_iand C.1 C.2.1 dX1_isWalled_6 ?_
  obtain ⟨hi7, hh⟩ := hh
  refine c_lal C hw (kd_lt (kd1_1 ha0) (by decide)) (ce22 (kd1_1 ha0)) hi7 dX1_isWalled_7 ?_
  refine lv_iload_n C.1 C.2.1 dX1_isWalled_8 rfl (lv_at hl 1 rfl) ?_
  refine lv_lushr (v := jlushr (L (a0 + 1) (ix (x2 &&& (3 : Int32)))) x1) C.1 C.2.1 dX1_isWalled_9 rfl ?_
  refine lv_lconst (v := (1 : Int64)) C.1 C.2.1 dX1_isWalled_10 (by decide) ?_
  refine lv_land C.1 C.2.1 dX1_isWalled_11 ?_
  refine lv_lconst (v := (0 : Int64)) C.1 C.2.1 dX1_isWalled_12 (by decide) ?_
  refine W.lcmp C.1 C.2.1 dX1_isWalled_13 ?_
  refine lv_if_eq (tgt := 21) C.1 C.2.1 dX1_isWalled_14 (by decide) (fun c14 => ?_) (fun c14 => ?_)
  · replace hh := hh.1 c14
    refine lv_iconst (v := (0 : Int32)) C.1 C.2.1 dX1_isWalled_21 (by decide) ?_
    exact tX1_isWalled_b22 C hR ha0 hh hw (lv_sub hl [0] rfl)
  · replace hh := hh.2 c14
    refine lv_iconst (v := (1 : Int32)) C.1 C.2.1 dX1_isWalled_17 (by decide) ?_
    refine lv_goto (tgt := 22) C.1 C.2.1 dX1_isWalled_18 (by decide) ?_
    exact tX1_isWalled_b22 C hR ha0 hh hw (lv_sub hl [0] rfl)
theorem ctX1_isWalled (l : Launch) (D : va_G) (h : Nat → Nat) (cI cL cF cM : ClassId) (a0 : Nat) (ha0 : kd a0 = 1) (F : Nat → Nat → Int32) (L : Nat → Nat → Int64) (r : Nat → Nat → Nat) (x1 : Int32) (x2 : Int32) {K : Int32 → cS → Prop} (hh : wpX1_isWalled a0 F L r x1 x2 K) : Ci l yX1_isWalled wsX1_isWalled rmX1_isWalled [.ref (h a0), .int x1, .int x2] D (cT cI cL cF cM) (cWu h cI cL cF cM) (F, L, r) K := by
  refine Ci_of (cc := cX1_isWalled) (maxL := 3) (by decide) rfl (Nat.le_of_ble_eq_true rfl) ?_
  intro p e s m below meth c A Q C hw hR ls hl
  exact tX1_isWalled_b0 C hR ha0 hh hw hl
theorem cdX1_isWalled : yX1_isWalled.cls = RX1 ∧ yX1_isWalled.cls ≠ "java/lang/invoke/MethodHandle" ∧ yX1_isWalled.cls ≠ "java/lang/invoke/VarHandle" ∧ (parseMethodDescriptor yX1_isWalled.desc).map (fun d => d.parameters.length) = some 2 := by decide +kernel
abbrev rmX1_markWall : Room := { frames := 0, cells := 0, slots := 0, locals := 0 }
set_option maxHeartbeats 4000000 in
set_option maxRecDepth 100000 in
theorem tX1_markWall_b39 {a0 : Nat} {K : cS → Prop} (C : CallFix p m c cX1_markWall 4 s args wsX1_markWall RX1) (hR : Rtv p l e rmX1_markWall s m args below meth c cX1_markWall D A (cT cI cL cF cM) (cWu h cI cL cF cM) K Q) (ha0 : kd a0 = 1) {F : Nat → Nat → Int32} {L : Nat → Nat → Int64} {r : Nat → Nat → Nat} (hh : wpX1_markWall_b39 a0 F L r K) {H : Heap} {locs : List Loc} {ls : Array Slot} (hw : Wd D A s (cT cI cL cF cM) (cW h cI cL cF cM F L r) H locs) (hl : lv_has ls 4 [(0, .ref (h a0))]) : W p l e rmX1_markWall s m args below meth c H locs 0 0 Q (F0 m 39 ls []) := by
  unfold wpX1_markWall_b39 at hh
  exact hR _ _ (F, L, r) _ _ dX1_markWall_39 hh hw
set_option maxHeartbeats 4000000 in
set_option maxRecDepth 100000 in
theorem tX1_markWall_b0 {a0 : Nat} {K : cS → Prop} (C : CallFix p m c cX1_markWall 4 s args wsX1_markWall RX1) (hR : Rtv p l e rmX1_markWall s m args below meth c cX1_markWall D A (cT cI cL cF cM) (cWu h cI cL cF cM) K Q) (ha0 : kd a0 = 1) {F : Nat → Nat → Int32} {L : Nat → Nat → Int64} {r : Nat → Nat → Nat} {x1 : Int32} {x2 : Int32} {x3 : Int32} (hh : wpX1_markWall_b0 a0 F L r x1 x2 x3 K) {H : Heap} {locs : List Loc} {ls : Array Slot} (hw : Wd D A s (cT cI cL cF cM) (cW h cI cL cF cM F L r) H locs) (hl : lv_has ls 4 [(0, .ref (h a0)), (1, .int x1), (2, .int x2), (3, .int x3)]) : W p l e rmX1_markWall s m args below meth c H locs 0 0 Q (F0 m 0 ls []) := by
  unfold wpX1_markWall_b0 at hh
  refine lv_iload_n C.1 C.2.1 dX1_markWall_0 rfl (lv_at hl 3 rfl) ?_
  refine lv_if_eq (tgt := 21) C.1 C.2.1 dX1_markWall_1 (by decide) (fun c1 => ?_) (fun c1 => ?_)
  · replace hh := hh.1 c1
    refine lv_aload_n C.1 C.2.1 dX1_markWall_21 rfl (lv_at hl 0 rfl) ?_
    refine c_get C hw (inC inW1) (kd_lt ha0 (by decide)) (ce1 ha0) rfl 4 (by decide) (wc w_365) (v := .ref (h (a0 + 1))) rfl dX1_markWall_22 ?_
    refine lv_iload_n C.1 C.2.1 dX1_markWall_25 rfl (lv_at hl 2 rfl) ?_
    refine lv_iconst (v := (3 : Int32)) C.1 C.2.1 dX1_markWall_26 (by decide) ?_
    refine lv_iand C.1 C.2.1 dX1_markWall_27 ?_
    refine lv_dup2_11 C.1 C.2.1 dX1_markWall_28 rfl rfl ?_
    obtain ⟨hi29, hh⟩ := hh
    refine c_lal C hw (kd_lt (kd1_1 ha0) (by decide)) (ce22 (kd1_1 ha0)) hi29 dX1_markWall_29 ?_
    refine lv_lconst (v := (1 : Int64)) C.1 C.2.1 dX1_markWall_30 (by decide) ?_
    refine lv_iload_n C.1 C.2.1 dX1_markWall_31 rfl (lv_at hl 1 rfl) ?_
    refine lv_lshl (v := jlshl (1 : Int64) x1) C.1 C.2.1 dX1_markWall_32 rfl ?_
    refine lv_ldc2 C.1 C.2.1 C.2.2.2.1 (C.2.2.2.2 _ (wc w_960)) dX1_markWall_33 ?_
    refine lv_lxor C.1 C.2.1 dX1_markWall_36 ?_
    refine lv_land C.1 C.2.1 dX1_markWall_37 ?_
    obtain ⟨hi38, hh⟩ := hh
    refine c_las C hw (kd_lt (kd1_1 ha0) (by decide)) (ce22 (kd1_1 ha0)) hi38 dX1_markWall_38 (fun H locs hw => ?_)
    exact tX1_markWall_b39 C hR ha0 hh hw (lv_sub hl [0] rfl)
  · replace hh := hh.2 c1
    refine lv_aload_n C.1 C.2.1 dX1_markWall_4 rfl (lv_at hl 0 rfl) ?_
    refine c_get C hw (inC inW1) (kd_lt ha0 (by decide)) (ce1 ha0) rfl 4 (by decide) (wc w_365) (v := .ref (h (a0 + 1))) rfl dX1_markWall_5 ?_
    refine lv_iload_n C.1 C.2.1 dX1_markWall_8 rfl (lv_at hl 2 rfl) ?_
    refine lv_iconst (v := (3 : Int32)) C.1 C.2.1 dX1_markWall_9 (by decide) ?_
    refine lv_iand C.1 C.2.1 dX1_markWall_10 ?_
    refine lv_dup2_11 C.1 C.2.1 dX1_markWall_11 rfl rfl ?_
    obtain ⟨hi12, hh⟩ := hh
    refine c_lal C hw (kd_lt (kd1_1 ha0) (by decide)) (ce22 (kd1_1 ha0)) hi12 dX1_markWall_12 ?_
    refine lv_lconst (v := (1 : Int64)) C.1 C.2.1 dX1_markWall_13 (by decide) ?_
    refine lv_iload_n C.1 C.2.1 dX1_markWall_14 rfl (lv_at hl 1 rfl) ?_
    refine lv_lshl (v := jlshl (1 : Int64) x1) C.1 C.2.1 dX1_markWall_15 rfl ?_
    refine lv_lor C.1 C.2.1 dX1_markWall_16 ?_
    obtain ⟨hi17, hh⟩ := hh
    refine c_las C hw (kd_lt (kd1_1 ha0) (by decide)) (ce22 (kd1_1 ha0)) hi17 dX1_markWall_17 (fun H locs hw => ?_)
    refine lv_goto (tgt := 39) C.1 C.2.1 dX1_markWall_18 (by decide) ?_
    exact tX1_markWall_b39 C hR ha0 hh hw (lv_sub hl [0] rfl)
theorem ctX1_markWall (l : Launch) (D : va_G) (h : Nat → Nat) (cI cL cF cM : ClassId) (a0 : Nat) (ha0 : kd a0 = 1) (F : Nat → Nat → Int32) (L : Nat → Nat → Int64) (r : Nat → Nat → Nat) (x1 : Int32) (x2 : Int32) (x3 : Int32) {K : cS → Prop} (hh : wpX1_markWall a0 F L r x1 x2 x3 K) : Cv l yX1_markWall wsX1_markWall rmX1_markWall [.ref (h a0), .int x1, .int x2, .int x3] D (cT cI cL cF cM) (cWu h cI cL cF cM) (F, L, r) K := by
  refine Cv_of (cc := cX1_markWall) (maxL := 4) (by decide) rfl (Nat.le_of_ble_eq_true rfl) ?_
  intro p e s m below meth c A Q C hw hR ls hl
  exact tX1_markWall_b0 C hR ha0 hh hw hl
theorem cdX1_markWall : yX1_markWall.cls = RX1 ∧ yX1_markWall.cls ≠ "java/lang/invoke/MethodHandle" ∧ yX1_markWall.cls ≠ "java/lang/invoke/VarHandle" ∧ (parseMethodDescriptor yX1_markWall.desc).map (fun d => d.parameters.length) = some 3 := by decide +kernel
abbrev rmX1_ahead : Room := { frames := 0, cells := 0, slots := 0, locals := 0 }
set_option maxHeartbeats 4000000 in
set_option maxRecDepth 100000 in
theorem tX1_ahead_b0 {a0 : Nat} {K : Int32 → cS → Prop} (C : CallFix p m c cX1_ahead 3 s args wsX1_ahead RX1) (hR : Rti .int p l e rmX1_ahead s m args below meth c cX1_ahead D A (cT cI cL cF cM) (cWu h cI cL cF cM) K Q) (ha0 : kd a0 = 1) {F : Nat → Nat → Int32} {L : Nat → Nat → Int64} {r : Nat → Nat → Nat} {x1 : Int32} {x2 : Int32} (hh : wpX1_ahead_b0 a0 F L r x1 x2 K) {H : Heap} {locs : List Loc} {ls : Array Slot} (hw : Wd D A s (cT cI cL cF cM) (cW h cI cL cF cM F L r) H locs) (hl : lv_has ls 3 [(0, .ref (h a0)), (1, .int x1), (2, .int x2)]) : W p l e rmX1_ahead s m args below meth c H locs 0 0 Q (F0 m 0 ls []) := by
  unfold wpX1_ahead_b0 at hh
  refine lv_iload_n C.1 C.2.1 dX1_ahead_0 rfl (lv_at hl 1 rfl) ?_
  refine lv_aload_n C.1 C.2.1 dX1_ahead_1 rfl (lv_at hl 0 rfl) ?_
  refine c_get C hw (inC inW1) (kd_lt ha0 (by decide)) (ce1 ha0) rfl 5 (by decide) (wc w_367) (v := .ref (h (a0 + 2))) rfl dX1_ahead_2 ?_
  refine lv_iload_n C.1 C.2.1 dX1_ahead_5 rfl (lv_at hl 2 rfl) ?_
  refine lv_iconst (v := (3 : Int32)) C.1 C.2.1 dX1_ahead_6 (by decide) ?_
  refine lv_iand C.1 C.2.1 dX1_ahead_7 ?_
  obtain ⟨hi8, hh⟩ := hh
  refine c_ial C hw (kd_lt (kd1_2 ha0) (by decide)) (ce12 (kd1_2 ha0)) hi8 dX1_ahead_8 ?_
  refine lv_iadd C.1 C.2.1 dX1_ahead_9 ?_
  exact hR _ _ _ (F, L, r) _ _ dX1_ahead_10 rfl hh hw
theorem ctX1_ahead (l : Launch) (D : va_G) (h : Nat → Nat) (cI cL cF cM : ClassId) (a0 : Nat) (ha0 : kd a0 = 1) (F : Nat → Nat → Int32) (L : Nat → Nat → Int64) (r : Nat → Nat → Nat) (x1 : Int32) (x2 : Int32) {K : Int32 → cS → Prop} (hh : wpX1_ahead a0 F L r x1 x2 K) : Ci l yX1_ahead wsX1_ahead rmX1_ahead [.ref (h a0), .int x1, .int x2] D (cT cI cL cF cM) (cWu h cI cL cF cM) (F, L, r) K := by
  refine Ci_of (cc := cX1_ahead) (maxL := 3) (by decide) rfl (Nat.le_of_ble_eq_true rfl) ?_
  intro p e s m below meth c A Q C hw hR ls hl
  exact tX1_ahead_b0 C hR ha0 hh hw hl
theorem cdX1_ahead : yX1_ahead.cls = RX1 ∧ yX1_ahead.cls ≠ "java/lang/invoke/MethodHandle" ∧ yX1_ahead.cls ≠ "java/lang/invoke/VarHandle" ∧ (parseMethodDescriptor yX1_ahead.desc).map (fun d => d.parameters.length) = some 2 := by decide +kernel
abbrev rmX1_putWall : Room := { frames := 1, cells := 0, slots := 0, locals := 23 }
set_option maxHeartbeats 4000000 in
set_option maxRecDepth 100000 in
theorem tX1_putWall_b0 {a0 : Nat} {K : cS → Prop} (C : CallFix p m c cX1_putWall 4 s args wsX1_putWall RX1) (hR : Rtv p l e rmX1_putWall s m args below meth c cX1_putWall D A (cT cI cL cF cM) (cWu h cI cL cF cM) K Q) (ha0 : kd a0 = 1) {F : Nat → Nat → Int32} {L : Nat → Nat → Int64} {r : Nat → Nat → Nat} {x1 : Int32} {x2 : Int32} {x3 : Int32} (hh : wpX1_putWall_b0 a0 F L r x1 x2 x3 K) {H : Heap} {locs : List Loc} {ls : Array Slot} (hw : Wd D A s (cT cI cL cF cM) (cW h cI cL cF cM F L r) H locs) (hl : lv_has ls 4 [(0, .ref (h a0)), (1, .int x1), (2, .int x2), (3, .int x3)]) : W p l e rmX1_putWall s m args below meth c H locs 0 0 Q (F0 m 0 ls []) := by
  unfold wpX1_putWall_b0 at hh
  refine lv_aload_n C.1 C.2.1 dX1_putWall_0 rfl (lv_at hl 0 rfl) ?_
  refine lv_iload_n C.1 C.2.1 dX1_putWall_1 rfl (lv_at hl 1 rfl) ?_
  refine lv_iload_n C.1 C.2.1 dX1_putWall_2 rfl (lv_at hl 2 rfl) ?_
  refine lv_iload_n C.1 C.2.1 dX1_putWall_3 rfl (lv_at hl 3 rfl) ?_
  refine c_Vv C hw (ctX1_markWall l D h cI cL cF cM a0 ha0 F L r x1 x2 x3 hh) (cwV 3 C.2.2.2.2 (gd_V w_956 w_958 w_29 w_120 w_959) rfl rfl rfl cdX1_markWall ⟨Nat.le_of_ble_eq_true rfl, Nat.le_of_ble_eq_true rfl⟩) rfl (kd_lt ha0 (by decide)) (ce1 ha0) rfl hl.1 (Nat.le_of_ble_eq_true rfl) dX1_putWall_4 ⟨Nat.zero_le _, Nat.zero_le _⟩ (fun u4 H locs hh hw => ?_) rfl
  refine lv_aload_n C.1 C.2.1 dX1_putWall_7 rfl (lv_at hl 0 rfl) ?_
  refine lv_aload_n C.1 C.2.1 dX1_putWall_8 rfl (lv_at hl 0 rfl) ?_
  refine lv_iload_n C.1 C.2.1 dX1_putWall_9 rfl (lv_at hl 1 rfl) ?_
  refine lv_iload_n C.1 C.2.1 dX1_putWall_10 rfl (lv_at hl 2 rfl) ?_
  refine c_Vi C hw (ctX1_ahead l D h cI cL cF cM a0 ha0 u4.1 u4.2.1 u4.2.2 x1 x2 hh) (cwV 2 C.2.2.2.2 (gd_V w_961 w_962 w_963 w_120 w_964) rfl rfl rfl cdX1_ahead ⟨Nat.le_of_ble_eq_true rfl, Nat.le_of_ble_eq_true rfl⟩) rfl (kd_lt ha0 (by decide)) (ce1 ha0) rfl hl.1 (Nat.le_of_ble_eq_true rfl) dX1_putWall_11 ⟨Nat.zero_le _, Nat.zero_le _⟩ (fun r11 u11 H locs hh hw => ?_) rfl
  refine lv_iload_n C.1 C.2.1 dX1_putWall_14 rfl (lv_at hl 2 rfl) ?_
  refine lv_iconst (v := (2 : Int32)) C.1 C.2.1 dX1_putWall_15 (by decide) ?_
  refine lv_iadd C.1 C.2.1 dX1_putWall_16 ?_
  refine lv_iload_n C.1 C.2.1 dX1_putWall_17 rfl (lv_at hl 3 rfl) ?_
  refine c_Vv C hw (ctX1_markWall l D h cI cL cF cM a0 ha0 u11.1 u11.2.1 u11.2.2 r11 (x2 + (2 : Int32)) x3 hh) (cwV 3 C.2.2.2.2 (gd_V w_956 w_958 w_29 w_120 w_959) rfl rfl rfl cdX1_markWall ⟨Nat.le_of_ble_eq_true rfl, Nat.le_of_ble_eq_true rfl⟩) rfl (kd_lt ha0 (by decide)) (ce1 ha0) rfl hl.1 (Nat.le_of_ble_eq_true rfl) dX1_putWall_18 ⟨Nat.zero_le _, Nat.zero_le _⟩ (fun u18 H locs hh hw => ?_) rfl
  exact hR _ _ (u18.1, u18.2.1, u18.2.2) _ _ dX1_putWall_21 hh hw
theorem ctX1_putWall (l : Launch) (D : va_G) (h : Nat → Nat) (cI cL cF cM : ClassId) (a0 : Nat) (ha0 : kd a0 = 1) (F : Nat → Nat → Int32) (L : Nat → Nat → Int64) (r : Nat → Nat → Nat) (x1 : Int32) (x2 : Int32) (x3 : Int32) {K : cS → Prop} (hh : wpX1_putWall a0 F L r x1 x2 x3 K) : Cv l yX1_putWall wsX1_putWall rmX1_putWall [.ref (h a0), .int x1, .int x2, .int x3] D (cT cI cL cF cM) (cWu h cI cL cF cM) (F, L, r) K := by
  refine Cv_of (cc := cX1_putWall) (maxL := 4) (by decide) rfl (Nat.le_of_ble_eq_true rfl) ?_
  intro p e s m below meth c A Q C hw hR ls hl
  exact tX1_putWall_b0 C hR ha0 hh hw hl
theorem cdX1_putWall : yX1_putWall.cls = RX1 ∧ yX1_putWall.cls ≠ "java/lang/invoke/MethodHandle" ∧ yX1_putWall.cls ≠ "java/lang/invoke/VarHandle" ∧ (parseMethodDescriptor yX1_putWall.desc).map (fun d => d.parameters.length) = some 3 := by decide +kernel
abbrev rmX10_wall : Room := { frames := 2, cells := 0, slots := 0, locals := 46 }
set_option maxHeartbeats 4000000 in
set_option maxRecDepth 100000 in
theorem tX10_wall_b30 {K : Int32 → cS → Prop} (C : CallFix p m c cX10_wall 4 s args wsX10_wall RX10) (hR : Rti .boolean p l e rmX10_wall s m args below meth c cX10_wall D A (cT cI cL cF cM) (cWu h cI cL cF cM) K Q) {F : Nat → Nat → Int32} {L : Nat → Nat → Int64} {r : Nat → Nat → Nat} (hh : wpX10_wall_b30 F L r K) {H : Heap} {locs : List Loc} {ls : Array Slot} (hw : Wd D A s (cT cI cL cF cM) (cW h cI cL cF cM F L r) H locs) (hl : lv_has ls 4 [(0, .ref (h 0))]) : W p l e rmX10_wall s m args below meth c H locs 0 0 Q (F0 m 30 ls []) := by
  unfold wpX10_wall_b30 at hh
  refine lv_iconst (v := (0 : Int32)) C.1 C.2.1 dX10_wall_30 (by decide) ?_
  exact hR _ _ _ (F, L, r) _ _ dX10_wall_31 rfl hh hw
set_option maxHeartbeats 4000000 in
set_option maxRecDepth 100000 in
theorem tX10_wall_b0 {K : Int32 → cS → Prop} (C : CallFix p m c cX10_wall 4 s args wsX10_wall RX10) (hR : Rti .boolean p l e rmX10_wall s m args below meth c cX10_wall D A (cT cI cL cF cM) (cWu h cI cL cF cM) K Q) {F : Nat → Nat → Int32} {L : Nat → Nat → Int64} {r : Nat → Nat → Nat} {x1 : Int32} {x2 : Int32} {x3 : Int32} (hh : wpX10_wall_b0 F L r x1 x2 x3 K) {H : Heap} {locs : List Loc} {ls : Array Slot} (hw : Wd D A s (cT cI cL cF cM) (cW h cI cL cF cM F L r) H locs) (hl : lv_has ls 4 [(0, .ref (h 0)), (1, .int x1), (2, .int x2), (3, .int x3)]) : W p l e rmX10_wall s m args below meth c H locs 0 0 Q (F0 m 0 ls []) := by
  unfold wpX10_wall_b0 at hh
  refine lv_aload_n C.1 C.2.1 dX10_wall_0 rfl (lv_at hl 0 rfl) ?_
  refine c_get C hw (inC inW10) (kd_lt kp0 (by decide)) (ce10 kp0) rfl 5 (by decide) (wc w_575) (v := .ref (h 46)) rfl dX10_wall_1 ?_
  refine lv_iload_n C.1 C.2.1 dX10_wall_4 rfl (lv_at hl 1 rfl) ?_
  refine c_Vi C hw (ctX1_has l D h cI cL cF cM 46 kp46 F L r x1 hh) (cwV 1 C.2.2.2.2 (gd_V w_937 w_938 w_939 w_120 w_940) rfl rfl rfl cdX1_has ⟨Nat.le_of_ble_eq_true rfl, Nat.le_of_ble_eq_true rfl⟩) rfl (kd_lt kp46 (by decide)) (ce1 kp46) rfl hl.1 (Nat.le_of_ble_eq_true rfl) dX10_wall_5 ⟨Nat.zero_le _, Nat.zero_le _⟩ (fun r5 u5 H locs hh hw => ?_) rfl
  refine lv_if_eq (tgt := 30) C.1 C.2.1 dX10_wall_8 (by decide) (fun c8 => ?_) (fun c8 => ?_)
  · replace hh := hh.1 c8
    exact tX10_wall_b30 C hR hh hw (lv_sub hl [0] rfl)
  · replace hh := hh.2 c8
    refine lv_iload_n C.1 C.2.1 dX10_wall_11 rfl (lv_at hl 2 rfl) ?_
    refine wd_Si C hw (ctX10_isSide l D x2 hh) (va_cwS 1 C.2.2.2.2 (gd_S w_941 w_942 (ini_cls rfl w_114) w_943) rfl rfl rfl cdX10_isSide ⟨Nat.le_of_ble_eq_true rfl, Nat.le_of_ble_eq_true rfl⟩) rfl hl.1 (Nat.le_of_ble_eq_true rfl) dX10_wall_12 ⟨Nat.zero_le _, Nat.zero_le _⟩ (fun r12 H locs hh hw => ?_) rfl
    refine lv_if_eq (tgt := 30) C.1 C.2.1 dX10_wall_15 (by decide) (fun c15 => ?_) (fun c15 => ?_)
    · replace hh := hh.1 c15
      exact tX10_wall_b30 C hR hh hw (lv_sub hl [0] rfl)
    · replace hh := hh.2 c15
      refine lv_aload_n C.1 C.2.1 dX10_wall_18 rfl (lv_at hl 0 rfl) ?_
      refine c_get C hw (inC inW10) (kd_lt kp0 (by decide)) (ce10 kp0) rfl 5 (by decide) (wc w_575) (v := .ref (h 46)) rfl dX10_wall_19 ?_
      refine lv_iload_n C.1 C.2.1 dX10_wall_22 rfl (lv_at hl 1 rfl) ?_
      refine lv_iload_n C.1 C.2.1 dX10_wall_23 rfl (lv_at hl 2 rfl) ?_
      refine c_Vi C hw (ctX1_isRim l D h cI cL cF cM 46 kp46 u5.1 u5.2.1 u5.2.2 x1 x2 hh) (cwV 2 C.2.2.2.2 (gd_V w_944 w_945 w_946 w_120 w_947) rfl rfl rfl cdX1_isRim ⟨Nat.le_of_ble_eq_true rfl, Nat.le_of_ble_eq_true rfl⟩) rfl (kd_lt kp46 (by decide)) (ce1 kp46) rfl hl.1 (Nat.le_of_ble_eq_true rfl) dX10_wall_24 ⟨Nat.zero_le _, Nat.zero_le _⟩ (fun r24 u24 H locs hh hw => ?_) rfl
      refine lv_if_eq (tgt := 32) C.1 C.2.1 dX10_wall_27 (by decide) (fun c27 => ?_) (fun c27 => ?_)
      · replace hh := hh.1 c27
        refine lv_aload_n C.1 C.2.1 dX10_wall_32 rfl (lv_at hl 0 rfl) ?_
        refine c_get C hw (inC inW10) (kd_lt kp0 (by decide)) (ce10 kp0) rfl 5 (by decide) (wc w_575) (v := .ref (h 46)) rfl dX10_wall_33 ?_
        refine lv_iload_n C.1 C.2.1 dX10_wall_36 rfl (lv_at hl 1 rfl) ?_
        refine lv_iload_n C.1 C.2.1 dX10_wall_37 rfl (lv_at hl 2 rfl) ?_
        refine c_Vi C hw (ctX1_isWalled l D h cI cL cF cM 46 kp46 u24.1 u24.2.1 u24.2.2 x1 x2 hh) (cwV 2 C.2.2.2.2 (gd_V w_948 w_949 w_950 w_120 w_951) rfl rfl rfl cdX1_isWalled ⟨Nat.le_of_ble_eq_true rfl, Nat.le_of_ble_eq_true rfl⟩) rfl (kd_lt kp46 (by decide)) (ce1 kp46) rfl hl.1 (Nat.le_of_ble_eq_true rfl) dX10_wall_38 ⟨Nat.zero_le _, Nat.zero_le _⟩ (fun r38 u38 H locs hh hw => ?_) rfl
        refine lv_iload_n C.1 C.2.1 dX10_wall_41 rfl (lv_at hl 3 rfl) ?_
        refine lv_icmp_ne (tgt := 47) C.1 C.2.1 dX10_wall_42 (by decide) (fun c42 => ?_) (fun c42 => ?_)
        · replace hh := hh.1 c42
          refine lv_aload_n C.1 C.2.1 dX10_wall_47 rfl (lv_at hl 0 rfl) ?_
          refine c_get C hw (inC inW10) (kd_lt kp0 (by decide)) (ce10 kp0) rfl 5 (by decide) (wc w_575) (v := .ref (h 46)) rfl dX10_wall_48 ?_
          refine lv_iload_n C.1 C.2.1 dX10_wall_51 rfl (lv_at hl 1 rfl) ?_
          refine lv_iload_n C.1 C.2.1 dX10_wall_52 rfl (lv_at hl 2 rfl) ?_
          refine lv_iload_n C.1 C.2.1 dX10_wall_53 rfl (lv_at hl 3 rfl) ?_
          refine c_Vv C hw (ctX1_putWall l D h cI cL cF cM 46 kp46 u38.1 u38.2.1 u38.2.2 x1 x2 x3 hh) (cwV 3 C.2.2.2.2 (gd_V w_952 w_953 w_954 w_120 w_955) rfl rfl rfl cdX1_putWall ⟨Nat.le_of_ble_eq_true rfl, Nat.le_of_ble_eq_true rfl⟩) rfl (kd_lt kp46 (by decide)) (ce1 kp46) rfl hl.1 (Nat.le_of_ble_eq_true rfl) dX10_wall_54 ⟨Nat.zero_le _, Nat.zero_le _⟩ (fun u54 H locs hh hw => ?_) rfl
          refine lv_iconst (v := (1 : Int32)) C.1 C.2.1 dX10_wall_57 (by decide) ?_
          exact hR _ _ _ (u54.1, u54.2.1, u54.2.2) _ _ dX10_wall_58 rfl hh hw
        · replace hh := hh.2 c42
          refine lv_iconst (v := (0 : Int32)) C.1 C.2.1 dX10_wall_45 (by decide) ?_
          exact hR _ _ _ (u38.1, u38.2.1, u38.2.2) _ _ dX10_wall_46 rfl hh hw
      · replace hh := hh.2 c27
        exact tX10_wall_b30 C hR hh hw (lv_sub hl [0] rfl)
theorem ctX10_wall (l : Launch) (D : va_G) (h : Nat → Nat) (cI cL cF cM : ClassId) (F : Nat → Nat → Int32) (L : Nat → Nat → Int64) (r : Nat → Nat → Nat) (x1 : Int32) (x2 : Int32) (x3 : Int32) {K : Int32 → cS → Prop} (hh : wpX10_wall F L r x1 x2 x3 K) : Ci l yX10_wall wsX10_wall rmX10_wall [.ref (h 0), .int x1, .int x2, .int x3] D (cT cI cL cF cM) (cWu h cI cL cF cM) (F, L, r) K := by
  refine Ci_of (cc := cX10_wall) (maxL := 4) (by decide) rfl (Nat.le_of_ble_eq_true rfl) ?_
  intro p e s m below meth c A Q C hw hR ls hl
  exact tX10_wall_b0 C hR hh hw hl
theorem cdX10_wall : yX10_wall.cls = RX10 ∧ yX10_wall.cls ≠ "java/lang/invoke/MethodHandle" ∧ yX10_wall.cls ≠ "java/lang/invoke/VarHandle" ∧ (parseMethodDescriptor yX10_wall.desc).map (fun d => d.parameters.length) = some 3 := by decide +kernel
abbrev rmX10_bell : Room := { frames := 1, cells := 0, slots := 0, locals := 21 }
set_option maxHeartbeats 4000000 in
set_option maxRecDepth 100000 in
theorem tX10_bell_b0 {K : Int32 → cS → Prop} (C : CallFix p m c cX10_bell 2 s args wsX10_bell RX10) (hR : Rti .boolean p l e rmX10_bell s m args below meth c cX10_bell D A (cT cI cL cF cM) (cWu h cI cL cF cM) K Q) {F : Nat → Nat → Int32} {L : Nat → Nat → Int64} {r : Nat → Nat → Nat} {x1 : Int32} (hh : wpX10_bell_b0 F L r x1 K) {H : Heap} {locs : List Loc} {ls : Array Slot} (hw : Wd D A s (cT cI cL cF cM) (cW h cI cL cF cM F L r) H locs) (hl : lv_has ls 2 [(0, .ref (h 0)), (1, .int x1)]) : W p l e rmX10_bell s m args below meth c H locs 0 0 Q (F0 m 0 ls []) := by
  unfold wpX10_bell_b0 at hh
  refine lv_aload_n C.1 C.2.1 dX10_bell_0 rfl (lv_at hl 0 rfl) ?_
  refine c_get C hw (inC inW10) (kd_lt kp0 (by decide)) (ce10 kp0) rfl 5 (by decide) (wc w_575) (v := .ref (h 46)) rfl dX10_bell_1 ?_
  refine lv_iload_n C.1 C.2.1 dX10_bell_4 rfl (lv_at hl 1 rfl) ?_
  refine c_Vi C hw (ctX1_has l D h cI cL cF cM 46 kp46 F L r x1 hh) (cwV 1 C.2.2.2.2 (gd_V w_937 w_938 w_939 w_120 w_940) rfl rfl rfl cdX1_has ⟨Nat.le_of_ble_eq_true rfl, Nat.le_of_ble_eq_true rfl⟩) rfl (kd_lt kp46 (by decide)) (ce1 kp46) rfl hl.1 (Nat.le_of_ble_eq_true rfl) dX10_bell_5 ⟨Nat.zero_le _, Nat.zero_le _⟩ (fun r5 u5 H locs hh hw => ?_) rfl
  refine lv_if_ne (tgt := 13) C.1 C.2.1 dX10_bell_8 (by decide) (fun c8 => ?_) (fun c8 => ?_)
  · replace hh := hh.1 c8
    refine lv_aload_n C.1 C.2.1 dX10_bell_13 rfl (lv_at hl 0 rfl) ?_
    refine c_get C hw (inC inW10) (kd_lt kp0 (by decide)) (ce10 kp0) rfl 5 (by decide) (wc w_575) (v := .ref (h 46)) rfl dX10_bell_14 ?_
    refine lv_iload_n C.1 C.2.1 dX10_bell_17 rfl (lv_at hl 1 rfl) ?_
    refine c_puti C hw (inC inW1) tyX1 tyX1_ok nmX1 (kd_lt kp46 (by decide)) (ce1 kp46) rfl 3 (by decide) (wc w_362) rfl (ty := .int) (by decide +kernel) rfl rfl (Nat.le_of_ble_eq_true rfl) rfl dX10_bell_18 (fun H locs hw => ?_)
    refine lv_iconst (v := (1 : Int32)) C.1 C.2.1 dX10_bell_21 (by decide) ?_
    exact hR _ _ _ (pt u5.1 46 3 x1, u5.2.1, u5.2.2) _ _ dX10_bell_22 rfl hh hw
  · replace hh := hh.2 c8
    refine lv_iconst (v := (0 : Int32)) C.1 C.2.1 dX10_bell_11 (by decide) ?_
    exact hR _ _ _ (u5.1, u5.2.1, u5.2.2) _ _ dX10_bell_12 rfl hh hw
theorem ctX10_bell (l : Launch) (D : va_G) (h : Nat → Nat) (cI cL cF cM : ClassId) (F : Nat → Nat → Int32) (L : Nat → Nat → Int64) (r : Nat → Nat → Nat) (x1 : Int32) {K : Int32 → cS → Prop} (hh : wpX10_bell F L r x1 K) : Ci l yX10_bell wsX10_bell rmX10_bell [.ref (h 0), .int x1] D (cT cI cL cF cM) (cWu h cI cL cF cM) (F, L, r) K := by
  refine Ci_of (cc := cX10_bell) (maxL := 2) (by decide) rfl (Nat.le_of_ble_eq_true rfl) ?_
  intro p e s m below meth c A Q C hw hR ls hl
  exact tX10_bell_b0 C hR hh hw hl
theorem cdX10_bell : yX10_bell.cls = RX10 ∧ yX10_bell.cls ≠ "java/lang/invoke/MethodHandle" ∧ yX10_bell.cls ≠ "java/lang/invoke/VarHandle" ∧ (parseMethodDescriptor yX10_bell.desc).map (fun d => d.parameters.length) = some 1 := by decide +kernel
abbrev rmX10_lift : Room := { frames := 1, cells := 0, slots := 0, locals := 21 }
set_option maxHeartbeats 4000000 in
set_option maxRecDepth 100000 in
theorem tX10_lift_b18 {K : Int32 → cS → Prop} (C : CallFix p m c cX10_lift 3 s args wsX10_lift RX10) (hR : Rti .boolean p l e rmX10_lift s m args below meth c cX10_lift D A (cT cI cL cF cM) (cWu h cI cL cF cM) K Q) {F : Nat → Nat → Int32} {L : Nat → Nat → Int64} {r : Nat → Nat → Nat} (hh : wpX10_lift_b18 F L r K) {H : Heap} {locs : List Loc} {ls : Array Slot} (hw : Wd D A s (cT cI cL cF cM) (cW h cI cL cF cM F L r) H locs) (hl : lv_has ls 3 [(0, .ref (h 0))]) : W p l e rmX10_lift s m args below meth c H locs 0 0 Q (F0 m 18 ls []) := by
  unfold wpX10_lift_b18 at hh
  refine lv_iconst (v := (0 : Int32)) C.1 C.2.1 dX10_lift_18 (by decide) ?_
  exact hR _ _ _ (F, L, r) _ _ dX10_lift_19 rfl hh hw
set_option maxHeartbeats 4000000 in
set_option maxRecDepth 100000 in
theorem tX10_lift_b0 {K : Int32 → cS → Prop} (C : CallFix p m c cX10_lift 3 s args wsX10_lift RX10) (hR : Rti .boolean p l e rmX10_lift s m args below meth c cX10_lift D A (cT cI cL cF cM) (cWu h cI cL cF cM) K Q) {F : Nat → Nat → Int32} {L : Nat → Nat → Int64} {r : Nat → Nat → Nat} {x1 : Int32} {x2 : Int32} (hh : wpX10_lift_b0 F L r x1 x2 K) {H : Heap} {locs : List Loc} {ls : Array Slot} (hw : Wd D A s (cT cI cL cF cM) (cW h cI cL cF cM F L r) H locs) (hl : lv_has ls 3 [(0, .ref (h 0)), (1, .int x1), (2, .int x2)]) : W p l e rmX10_lift s m args below meth c H locs 0 0 Q (F0 m 0 ls []) := by
  unfold wpX10_lift_b0 at hh
  refine lv_aload_n C.1 C.2.1 dX10_lift_0 rfl (lv_at hl 0 rfl) ?_
  refine c_get C hw (inC inW10) (kd_lt kp0 (by decide)) (ce10 kp0) rfl 5 (by decide) (wc w_575) (v := .ref (h 46)) rfl dX10_lift_1 ?_
  refine lv_iload_n C.1 C.2.1 dX10_lift_4 rfl (lv_at hl 1 rfl) ?_
  refine c_Vi C hw (ctX1_has l D h cI cL cF cM 46 kp46 F L r x1 hh) (cwV 1 C.2.2.2.2 (gd_V w_937 w_938 w_939 w_120 w_940) rfl rfl rfl cdX1_has ⟨Nat.le_of_ble_eq_true rfl, Nat.le_of_ble_eq_true rfl⟩) rfl (kd_lt kp46 (by decide)) (ce1 kp46) rfl hl.1 (Nat.le_of_ble_eq_true rfl) dX10_lift_5 ⟨Nat.zero_le _, Nat.zero_le _⟩ (fun r5 u5 H locs hh hw => ?_) rfl
  refine lv_if_eq (tgt := 18) C.1 C.2.1 dX10_lift_8 (by decide) (fun c8 => ?_) (fun c8 => ?_)
  · replace hh := hh.1 c8
    exact tX10_lift_b18 C hR hh hw (lv_sub hl [0] rfl)
  · replace hh := hh.2 c8
    refine lv_iload_n C.1 C.2.1 dX10_lift_11 rfl (lv_at hl 2 rfl) ?_
    refine wd_Si C hw (ctX10_isSide l D x2 hh) (va_cwS 1 C.2.2.2.2 (gd_S w_941 w_942 (ini_cls rfl w_114) w_943) rfl rfl rfl cdX10_isSide ⟨Nat.le_of_ble_eq_true rfl, Nat.le_of_ble_eq_true rfl⟩) rfl hl.1 (Nat.le_of_ble_eq_true rfl) dX10_lift_12 ⟨Nat.zero_le _, Nat.zero_le _⟩ (fun r12 H locs hh hw => ?_) rfl
    refine lv_if_ne (tgt := 20) C.1 C.2.1 dX10_lift_15 (by decide) (fun c15 => ?_) (fun c15 => ?_)
    · replace hh := hh.1 c15
      refine lv_aload_n C.1 C.2.1 dX10_lift_20 rfl (lv_at hl 0 rfl) ?_
      refine c_get C hw (inC inW10) (kd_lt kp0 (by decide)) (ce10 kp0) rfl 6 (by decide) (wc w_576) (v := .ref (h 74)) rfl dX10_lift_21 ?_
      refine lv_iload_n C.1 C.2.1 dX10_lift_24 rfl (lv_at hl 1 rfl) ?_
      refine c_puti C hw (inC inW3) tyX3 tyX3_ok nmX3 (kd_lt kp74 (by decide)) (ce3 kp74) rfl 0 (by decide) (wc w_393) rfl (ty := .int) (by decide +kernel) rfl rfl (Nat.le_of_ble_eq_true rfl) rfl dX10_lift_25 (fun H locs hw => ?_)
      refine lv_aload_n C.1 C.2.1 dX10_lift_28 rfl (lv_at hl 0 rfl) ?_
      refine c_get C hw (inC inW10) (kd_lt kp0 (by decide)) (ce10 kp0) rfl 6 (by decide) (wc w_576) (v := .ref (h 74)) rfl dX10_lift_29 ?_
      refine lv_iload_n C.1 C.2.1 dX10_lift_32 rfl (lv_at hl 2 rfl) ?_
      refine c_puti C hw (inC inW3) tyX3 tyX3_ok nmX3 (kd_lt kp74 (by decide)) (ce3 kp74) rfl 1 (by decide) (wc w_397) rfl (ty := .int) (by decide +kernel) rfl rfl (Nat.le_of_ble_eq_true rfl) rfl dX10_lift_33 (fun H locs hw => ?_)
      refine lv_iconst (v := (1 : Int32)) C.1 C.2.1 dX10_lift_36 (by decide) ?_
      exact hR _ _ _ (pt (pt u5.1 74 0 x1) 74 1 x2, u5.2.1, u5.2.2) _ _ dX10_lift_37 rfl hh hw
    · replace hh := hh.2 c15
      exact tX10_lift_b18 C hR hh hw (lv_sub hl [0] rfl)
theorem ctX10_lift (l : Launch) (D : va_G) (h : Nat → Nat) (cI cL cF cM : ClassId) (F : Nat → Nat → Int32) (L : Nat → Nat → Int64) (r : Nat → Nat → Nat) (x1 : Int32) (x2 : Int32) {K : Int32 → cS → Prop} (hh : wpX10_lift F L r x1 x2 K) : Ci l yX10_lift wsX10_lift rmX10_lift [.ref (h 0), .int x1, .int x2] D (cT cI cL cF cM) (cWu h cI cL cF cM) (F, L, r) K := by
  refine Ci_of (cc := cX10_lift) (maxL := 3) (by decide) rfl (Nat.le_of_ble_eq_true rfl) ?_
  intro p e s m below meth c A Q C hw hR ls hl
  exact tX10_lift_b0 C hR hh hw hl
theorem cdX10_lift : yX10_lift.cls = RX10 ∧ yX10_lift.cls ≠ "java/lang/invoke/MethodHandle" ∧ yX10_lift.cls ≠ "java/lang/invoke/VarHandle" ∧ (parseMethodDescriptor yX10_lift.desc).map (fun d => d.parameters.length) = some 2 := by decide +kernel
abbrev rmJ13_bitCount_95d88 : Room := { frames := 0, cells := 0, slots := 0, locals := 0 }
set_option maxHeartbeats 4000000 in
set_option maxRecDepth 100000 in
theorem tJ13_bitCount_95d88_b0 {K : Int32 → Unit → Prop} (C : CallFix p m c cJ13_bitCount_95d88 2 s args wsJ13_bitCount_95d88 RJ13) (hR : Rti .int p l e rmJ13_bitCount_95d88 s m args below meth c cJ13_bitCount_95d88 D A [] (fun _ : Unit => []) K Q) {x0 : Int64} (hh : wpJ13_bitCount_95d88_b0 x0 K) {H : Heap} {locs : List Loc} {ls : Array Slot} (hw : Wd D A s [] [] H locs) (hl : lv_has ls 2 [(0, .long x0)]) : W p l e rmJ13_bitCount_95d88 s m args below meth c H locs 0 0 Q (F0 m 0 ls []) := by
  unfold wpJ13_bitCount_95d88_b0 at hh
  refine lv_lload_n C.1 C.2.1 dJ13_bitCount_95d88_0 rfl (lv_at hl 0 rfl) ?_
  refine lv_lload_n C.1 C.2.1 dJ13_bitCount_95d88_1 rfl (lv_at hl 0 rfl) ?_
  refine lv_iconst (v := (1 : Int32)) C.1 C.2.1 dJ13_bitCount_95d88_2 (by decide) ?_
  refine lv_lushr (v := jlushr x0 (1 : Int32)) C.1 C.2.1 dJ13_bitCount_95d88_3 rfl ?_
  refine lv_ldc2 C.1 C.2.1 C.2.2.2.1 (C.2.2.2.2 _ (wc w_984)) dJ13_bitCount_95d88_4 ?_
  refine lv_land C.1 C.2.1 dJ13_bitCount_95d88_7 ?_
  refine lv_lsub C.1 C.2.1 dJ13_bitCount_95d88_8 ?_
  refine lv_topl (fun y9 ey9 => ?_)
  replace hh := hh y9 ey9
  refine lv_lstore_n (lv' := [(0, .long y9)]) C.1 C.2.1 dJ13_bitCount_95d88_9 rfl hl (by decide) rfl (fun ls hl => ?_)
  refine lv_lload_n C.1 C.2.1 dJ13_bitCount_95d88_10 rfl (lv_at hl 0 rfl) ?_
  refine lv_ldc2 C.1 C.2.1 C.2.2.2.1 (C.2.2.2.2 _ (wc w_985)) dJ13_bitCount_95d88_11 ?_
  refine lv_land C.1 C.2.1 dJ13_bitCount_95d88_14 ?_
  refine lv_lload_n C.1 C.2.1 dJ13_bitCount_95d88_15 rfl (lv_at hl 0 rfl) ?_
  refine lv_iconst (v := (2 : Int32)) C.1 C.2.1 dJ13_bitCount_95d88_16 (by decide) ?_
  refine lv_lushr (v := jlushr y9 (2 : Int32)) C.1 C.2.1 dJ13_bitCount_95d88_17 rfl ?_
  refine lv_ldc2 C.1 C.2.1 C.2.2.2.1 (C.2.2.2.2 _ (wc w_985)) dJ13_bitCount_95d88_18 ?_
  refine lv_land C.1 C.2.1 dJ13_bitCount_95d88_21 ?_
  refine lv_ladd C.1 C.2.1 dJ13_bitCount_95d88_22 ?_
  refine lv_topl (fun y23 ey23 => ?_)
  replace hh := hh y23 ey23
  refine lv_lstore_n (lv' := [(0, .long y23)]) C.1 C.2.1 dJ13_bitCount_95d88_23 rfl hl (by decide) rfl (fun ls hl => ?_)
  refine lv_lload_n C.1 C.2.1 dJ13_bitCount_95d88_24 rfl (lv_at hl 0 rfl) ?_
  refine lv_lload_n C.1 C.2.1 dJ13_bitCount_95d88_25 rfl (lv_at hl 0 rfl) ?_
  refine lv_iconst (v := (4 : Int32)) C.1 C.2.1 dJ13_bitCount_95d88_26 (by decide) ?_
  refine lv_lushr (v := jlushr y23 (4 : Int32)) C.1 C.2.1 dJ13_bitCount_95d88_27 rfl ?_
  refine lv_ladd C.1 C.2.1 dJ13_bitCount_95d88_28 ?_
  refine lv_ldc2 C.1 C.2.1 C.2.2.2.1 (C.2.2.2.2 _ (wc w_986)) dJ13_bitCount_95d88_29 ?_
  refine lv_land C.1 C.2.1 dJ13_bitCount_95d88_32 ?_
  refine lv_topl (fun y33 ey33 => ?_)
  replace hh := hh y33 ey33
  refine lv_lstore_n (lv' := [(0, .long y33)]) C.1 C.2.1 dJ13_bitCount_95d88_33 rfl hl (by decide) rfl (fun ls hl => ?_)
  refine lv_lload_n C.1 C.2.1 dJ13_bitCount_95d88_34 rfl (lv_at hl 0 rfl) ?_
  refine lv_lload_n C.1 C.2.1 dJ13_bitCount_95d88_35 rfl (lv_at hl 0 rfl) ?_
  refine lv_bipush (v := (8 : Int32)) C.1 C.2.1 dJ13_bitCount_95d88_36 (by decide) ?_
  refine lv_lushr (v := jlushr y33 (8 : Int32)) C.1 C.2.1 dJ13_bitCount_95d88_38 rfl ?_
  refine lv_ladd C.1 C.2.1 dJ13_bitCount_95d88_39 ?_
  refine lv_lstore_n (lv' := [(0, .long (y33 + (jlushr y33 (8 : Int32))))]) C.1 C.2.1 dJ13_bitCount_95d88_40 rfl hl (by decide) rfl (fun ls hl => ?_)
  refine lv_lload_n C.1 C.2.1 dJ13_bitCount_95d88_41 rfl (lv_at hl 0 rfl) ?_
  refine lv_lload_n C.1 C.2.1 dJ13_bitCount_95d88_42 rfl (lv_at hl 0 rfl) ?_
  refine lv_bipush (v := (16 : Int32)) C.1 C.2.1 dJ13_bitCount_95d88_43 (by decide) ?_
  refine lv_lushr (v := jlushr (y33 + (jlushr y33 (8 : Int32))) (16 : Int32)) C.1 C.2.1 dJ13_bitCount_95d88_45 rfl ?_
  refine lv_ladd C.1 C.2.1 dJ13_bitCount_95d88_46 ?_
  refine lv_topl (fun y47 ey47 => ?_)
  replace hh := hh y47 ey47
  refine lv_lstore_n (lv' := [(0, .long y47)]) C.1 C.2.1 dJ13_bitCount_95d88_47 rfl hl (by decide) rfl (fun ls hl => ?_)
  refine lv_lload_n C.1 C.2.1 dJ13_bitCount_95d88_48 rfl (lv_at hl 0 rfl) ?_
  refine lv_lload_n C.1 C.2.1 dJ13_bitCount_95d88_49 rfl (lv_at hl 0 rfl) ?_
  refine lv_bipush (v := (32 : Int32)) C.1 C.2.1 dJ13_bitCount_95d88_50 (by decide) ?_
  refine lv_lushr (v := jlushr y47 (32 : Int32)) C.1 C.2.1 dJ13_bitCount_95d88_52 rfl ?_
  refine lv_ladd C.1 C.2.1 dJ13_bitCount_95d88_53 ?_
  refine lv_lstore_n (lv' := [(0, .long (y47 + (jlushr y47 (32 : Int32))))]) C.1 C.2.1 dJ13_bitCount_95d88_54 rfl hl (by decide) rfl (fun ls hl => ?_)
  refine lv_lload_n C.1 C.2.1 dJ13_bitCount_95d88_55 rfl (lv_at hl 0 rfl) ?_
  refine lv_l2i (v := Int64.toInt32 (y47 + (jlushr y47 (32 : Int32)))) C.1 C.2.1 dJ13_bitCount_95d88_56 rfl ?_
  refine lv_bipush (v := (127 : Int32)) C.1 C.2.1 dJ13_bitCount_95d88_57 (by decide) ?_
  refine lv_iand C.1 C.2.1 dJ13_bitCount_95d88_59 ?_
  exact hR _ _ _ () _ _ dJ13_bitCount_95d88_60 rfl hh hw
theorem ctJ13_bitCount_95d88 (l : Launch) (D : va_G) (x0 : Int64) {K : Int32 → Unit → Prop} (hh : wpJ13_bitCount_95d88 x0 K) : Ci l yJ13_bitCount_95d88 wsJ13_bitCount_95d88 rmJ13_bitCount_95d88 [.long x0] D [] (fun _ : Unit => []) () K := by
  refine Ci_of (cc := cJ13_bitCount_95d88) (maxL := 2) (by decide) rfl (Nat.le_of_ble_eq_true rfl) ?_
  intro p e s m below meth c A Q C hw hR ls hl
  exact tJ13_bitCount_95d88_b0 C hR hh hw hl
theorem cdJ13_bitCount_95d88 : yJ13_bitCount_95d88.cls ≠ "java/lang/invoke/MethodHandle" ∧ yJ13_bitCount_95d88.cls ≠ "java/lang/invoke/VarHandle" ∧ (parseMethodDescriptor yJ13_bitCount_95d88.desc).map (fun d => d.parameters.length) = some 1 := by decide +kernel
abbrev rmX3_markedSquares : Room := { frames := 1, cells := 0, slots := 0, locals := 21 }
set_option maxHeartbeats 4000000 in
set_option maxRecDepth 100000 in
theorem tX3_markedSquares_b12_body {a0 : Nat} {B12 : (Nat → Nat → Int32) → (Nat → Nat → Int64) → (Nat → Nat → Nat) → Int64 → Int32 → Prop} {K : Int32 → cS → Prop} (C : CallFix p m c cX3_markedSquares 4 s args wsX3_markedSquares RX3) (hR : Rti .int p l e rmX3_markedSquares s m args below meth c cX3_markedSquares D A (cT cI cL cF cM) (cWu h cI cL cF cM) K Q) (ha0 : kd a0 = 3) (hB12 : ∀ (F : Nat → Nat → Int32) (L : Nat → Nat → Int64) (r : Nat → Nat → Nat) (x1 : Int64) (x3 : Int32) (H : Heap) (locs : List Loc) (ls : Array Slot), B12 F L r x1 x3 → Wd D A s (cT cI cL cF cM) (cW h cI cL cF cM F L r) H locs → lv_has ls 4 [(0, .ref (h a0)), (1, .long x1), (3, .int x3)] → W p l e rmX3_markedSquares s m args below meth c H locs 0 0 Q (F0 m 12 ls [])) {F : Nat → Nat → Int32} {L : Nat → Nat → Int64} {r : Nat → Nat → Nat} {x1 : Int64} {x3 : Int32} (hh : wpX3_markedSquares_b12_body B12 a0 F L r x1 x3 K) {H : Heap} {locs : List Loc} {ls : Array Slot} (hw : Wd D A s (cT cI cL cF cM) (cW h cI cL cF cM F L r) H locs) (hl : lv_has ls 4 [(0, .ref (h a0)), (1, .long x1), (3, .int x3)]) : W p l e rmX3_markedSquares s m args below meth c H locs 0 0 Q (F0 m 12 ls []) := by
  unfold wpX3_markedSquares_b12_body at hh
  refine lv_iload_n C.1 C.2.1 dX3_markedSquares_12 rfl (lv_at hl 2 rfl) ?_
  refine lv_iconst (v := (3 : Int32)) C.1 C.2.1 dX3_markedSquares_13 (by decide) ?_
  refine lv_icmp_ge (tgt := 32) C.1 C.2.1 dX3_markedSquares_14 (by decide) (fun c14 => ?_) (fun c14 => ?_)
  · replace hh := hh.1 c14
    refine lv_lload_n C.1 C.2.1 dX3_markedSquares_32 rfl (lv_at hl 1 rfl) ?_
    refine wd_Si C hw (ctJ13_bitCount_95d88 l D x1 hh) (va_cwS 1 C.2.2.2.2 (gd_S w_981 w_982 (ini_cls rfl w_131) w_983) rfl rfl rfl cdJ13_bitCount_95d88 ⟨Nat.le_of_ble_eq_true rfl, Nat.le_of_ble_eq_true rfl⟩) rfl hl.1 (Nat.le_of_ble_eq_true rfl) dX3_markedSquares_33 ⟨Nat.zero_le _, Nat.zero_le _⟩ (fun r33 H locs hh hw => ?_) rfl
    exact hR _ _ _ (F, L, r) _ _ dX3_markedSquares_36 rfl hh hw
  · replace hh := hh.2 c14
    refine lv_lload_n C.1 C.2.1 dX3_markedSquares_17 rfl (lv_at hl 1 rfl) ?_
    refine lv_aload_n C.1 C.2.1 dX3_markedSquares_18 rfl (lv_at hl 0 rfl) ?_
    refine c_get C hw (inC inW3) (kd_lt ha0 (by decide)) (ce3 ha0) rfl 9 (by decide) (wc w_411) (v := .ref (h (a0 + 1))) rfl dX3_markedSquares_19 ?_
    refine lv_iload_n C.1 C.2.1 dX3_markedSquares_22 rfl (lv_at hl 2 rfl) ?_
    obtain ⟨hi23, hh⟩ := hh
    refine c_lal C hw (kd_lt (kd3_1 ha0) (by decide)) (ce23 (kd3_1 ha0)) hi23 dX3_markedSquares_23 ?_
    refine lv_lor C.1 C.2.1 dX3_markedSquares_24 ?_
    refine lv_lstore_n (lv' := [(1, .long (x1 ||| (L (a0 + 1) (ix x3)))), (0, .ref (h a0)), (3, .int x3)]) C.1 C.2.1 dX3_markedSquares_25 rfl hl (by decide) rfl (fun ls hl => ?_)
    refine lv_iinc (v := x3 + (1 : Int32)) (lv' := [(3, .int (x3 + (1 : Int32))), (1, .long (x1 ||| (L (a0 + 1) (ix x3)))), (0, .ref (h a0))]) C.1 C.2.1 dX3_markedSquares_26 hl (k := 2) rfl rfl (by decide) rfl (fun ls hl => ?_)
    refine lv_goto (tgt := 12) C.1 C.2.1 dX3_markedSquares_29 (by decide) ?_
    exact hB12 _ _ _ _ _ _ _ _ hh hw (lv_sub hl [2, 1, 0] rfl)
theorem tX3_markedSquares_b12 {a0 : Nat} {K : Int32 → cS → Prop} (C : CallFix p m c cX3_markedSquares 4 s args wsX3_markedSquares RX3) (hR : Rti .int p l e rmX3_markedSquares s m args below meth c cX3_markedSquares D A (cT cI cL cF cM) (cWu h cI cL cF cM) K Q) (ha0 : kd a0 = 3) (n : Nat) : ∀ (F : Nat → Nat → Int32) (L : Nat → Nat → Int64) (r : Nat → Nat → Nat) (x1 : Int64) (x3 : Int32) (H : Heap) (locs : List Loc) (ls : Array Slot), wpX3_markedSquares_b12 a0 n F L r x1 x3 K → Wd D A s (cT cI cL cF cM) (cW h cI cL cF cM F L r) H locs → lv_has ls 4 [(0, .ref (h a0)), (1, .long x1), (3, .int x3)] → W p l e rmX3_markedSquares s m args below meth c H locs 0 0 Q (F0 m 12 ls []) := by
  induction n with
  | zero => intro F L r x1 x3 H locs ls hh; exact hh.elim
  | succ n ih => intro F L r x1 x3 H locs ls hh hw hl; exact tX3_markedSquares_b12_body C hR ha0 ih hh hw hl
set_option maxHeartbeats 4000000 in
set_option maxRecDepth 100000 in
theorem tX3_markedSquares_b0 {a0 : Nat} {K : Int32 → cS → Prop} (C : CallFix p m c cX3_markedSquares 4 s args wsX3_markedSquares RX3) (hR : Rti .int p l e rmX3_markedSquares s m args below meth c cX3_markedSquares D A (cT cI cL cF cM) (cWu h cI cL cF cM) K Q) (ha0 : kd a0 = 3) {F : Nat → Nat → Int32} {L : Nat → Nat → Int64} {r : Nat → Nat → Nat} (hh : wpX3_markedSquares_b0 a0 F L r K) {H : Heap} {locs : List Loc} {ls : Array Slot} (hw : Wd D A s (cT cI cL cF cM) (cW h cI cL cF cM F L r) H locs) (hl : lv_has ls 4 [(0, .ref (h a0))]) : W p l e rmX3_markedSquares s m args below meth c H locs 0 0 Q (F0 m 0 ls []) := by
  unfold wpX3_markedSquares_b0 at hh
  refine lv_aload_n C.1 C.2.1 dX3_markedSquares_0 rfl (lv_at hl 0 rfl) ?_
  refine c_get C hw (inC inW3) (kd_lt ha0 (by decide)) (ce3 ha0) rfl 4 (by decide) (wc w_403) (v := .long (L a0 4)) rfl dX3_markedSquares_1 ?_
  refine lv_aload_n C.1 C.2.1 dX3_markedSquares_4 rfl (lv_at hl 0 rfl) ?_
  refine c_get C hw (inC inW3) (kd_lt ha0 (by decide)) (ce3 ha0) rfl 5 (by decide) (wc w_404) (v := .long (L a0 5)) rfl dX3_markedSquares_5 ?_
  refine lv_lor C.1 C.2.1 dX3_markedSquares_8 ?_
  refine lv_lstore_n (lv' := [(1, .long ((L a0 4) ||| (L a0 5))), (0, .ref (h a0))]) C.1 C.2.1 dX3_markedSquares_9 rfl hl (by decide) rfl (fun ls hl => ?_)
  refine lv_iconst (v := (0 : Int32)) C.1 C.2.1 dX3_markedSquares_10 (by decide) ?_
  refine lv_istore_n (lv' := [(3, .int (0 : Int32)), (1, .long ((L a0 4) ||| (L a0 5))), (0, .ref (h a0))]) C.1 C.2.1 dX3_markedSquares_11 rfl hl (by decide) rfl (fun ls hl => ?_)
  obtain ⟨n, hh⟩ := hh
  exact tX3_markedSquares_b12 C hR ha0 n _ _ _ _ _ _ _ _ hh hw (lv_sub hl [2, 1, 0] rfl)
theorem ctX3_markedSquares (l : Launch) (D : va_G) (h : Nat → Nat) (cI cL cF cM : ClassId) (a0 : Nat) (ha0 : kd a0 = 3) (F : Nat → Nat → Int32) (L : Nat → Nat → Int64) (r : Nat → Nat → Nat) {K : Int32 → cS → Prop} (hh : wpX3_markedSquares a0 F L r K) : Ci l yX3_markedSquares wsX3_markedSquares rmX3_markedSquares [.ref (h a0)] D (cT cI cL cF cM) (cWu h cI cL cF cM) (F, L, r) K := by
  refine Ci_of (cc := cX3_markedSquares) (maxL := 4) (by decide) rfl (Nat.le_of_ble_eq_true rfl) ?_
  intro p e s m below meth c A Q C hw hR ls hl
  exact tX3_markedSquares_b0 C hR ha0 hh hw hl
theorem cdX3_markedSquares : yX3_markedSquares.cls = RX3 ∧ yX3_markedSquares.cls ≠ "java/lang/invoke/MethodHandle" ∧ yX3_markedSquares.cls ≠ "java/lang/invoke/VarHandle" ∧ (parseMethodDescriptor yX3_markedSquares.desc).map (fun d => d.parameters.length) = some 0 := by decide +kernel
abbrev rmX10_wipe : Room := { frames := 2, cells := 0, slots := 0, locals := 44 }
set_option maxHeartbeats 4000000 in
set_option maxRecDepth 100000 in
theorem tX10_wipe_b0 {K : Int32 → cS → Prop} (C : CallFix p m c cX10_wipe 2 s args wsX10_wipe RX10) (hR : Rti .int p l e rmX10_wipe s m args below meth c cX10_wipe D A (cT cI cL cF cM) (cWu h cI cL cF cM) K Q) {F : Nat → Nat → Int32} {L : Nat → Nat → Int64} {r : Nat → Nat → Nat} (hh : wpX10_wipe_b0 F L r K) {H : Heap} {locs : List Loc} {ls : Array Slot} (hw : Wd D A s (cT cI cL cF cM) (cW h cI cL cF cM F L r) H locs) (hl : lv_has ls 2 [(0, .ref (h 0))]) : W p l e rmX10_wipe s m args below meth c H locs 0 0 Q (F0 m 0 ls []) := by
  unfold wpX10_wipe_b0 at hh
  refine lv_aload_n C.1 C.2.1 dX10_wipe_0 rfl (lv_at hl 0 rfl) ?_
  refine c_get C hw (inC inW10) (kd_lt kp0 (by decide)) (ce10 kp0) rfl 6 (by decide) (wc w_576) (v := .ref (h 74)) rfl dX10_wipe_1 ?_
  refine c_Vi C hw (ctX3_markedSquares l D h cI cL cF cM 74 kp74 F L r hh) (cwV 0 C.2.2.2.2 (gd_V w_977 w_978 w_979 w_121 w_980) rfl rfl rfl cdX3_markedSquares ⟨Nat.le_of_ble_eq_true rfl, Nat.le_of_ble_eq_true rfl⟩) rfl (kd_lt kp74 (by decide)) (ce3 kp74) rfl hl.1 (Nat.le_of_ble_eq_true rfl) dX10_wipe_4 ⟨Nat.zero_le _, Nat.zero_le _⟩ (fun r4 u4 H locs hh hw => ?_) rfl
  refine lv_istore_n (lv' := [(1, .int r4), (0, .ref (h 0))]) C.1 C.2.1 dX10_wipe_7 rfl hl (by decide) rfl (fun ls hl => ?_)
  refine lv_aload_n C.1 C.2.1 dX10_wipe_8 rfl (lv_at hl 1 rfl) ?_
  refine c_get C hw (inC inW10) (kd_lt kp0 (by decide)) (ce10 kp0) rfl 6 (by decide) (wc w_576) (v := .ref (h 74)) rfl dX10_wipe_9 ?_
  refine c_Vv C hw (ctX3_clearSquares l D h cI cL cF cM 74 kp74 u4.1 u4.2.1 u4.2.2 hh) (cwV 0 C.2.2.2.2 (gd_V w_987 w_922 w_923 w_121 w_924) rfl rfl rfl cdX3_clearSquares ⟨Nat.le_of_ble_eq_true rfl, Nat.le_of_ble_eq_true rfl⟩) rfl (kd_lt kp74 (by decide)) (ce3 kp74) rfl hl.1 (Nat.le_of_ble_eq_true rfl) dX10_wipe_12 ⟨Nat.zero_le _, Nat.zero_le _⟩ (fun u12 H locs hh hw => ?_) rfl
  refine lv_aload_n C.1 C.2.1 dX10_wipe_15 rfl (lv_at hl 1 rfl) ?_
  refine c_get C hw (inC inW10) (kd_lt kp0 (by decide)) (ce10 kp0) rfl 6 (by decide) (wc w_576) (v := .ref (h 74)) rfl dX10_wipe_16 ?_
  refine lv_iconst (v := (0 : Int32)) C.1 C.2.1 dX10_wipe_19 (by decide) ?_
  refine c_puti C hw (inC inW3) tyX3 tyX3_ok nmX3 (kd_lt kp74 (by decide)) (ce3 kp74) rfl 2 (by decide) (wc w_400) rfl (ty := .int) (by decide +kernel) rfl rfl (Nat.le_of_ble_eq_true rfl) rfl dX10_wipe_20 (fun H locs hw => ?_)
  refine lv_aload_n C.1 C.2.1 dX10_wipe_23 rfl (lv_at hl 1 rfl) ?_
  refine c_get C hw (inC inW10) (kd_lt kp0 (by decide)) (ce10 kp0) rfl 6 (by decide) (wc w_576) (v := .ref (h 74)) rfl dX10_wipe_24 ?_
  refine lv_iconst (v := (0 : Int32)) C.1 C.2.1 dX10_wipe_27 (by decide) ?_
  refine c_puti C hw (inC inW3) tyX3 tyX3_ok nmX3 (kd_lt kp74 (by decide)) (ce3 kp74) rfl 3 (by decide) (wc w_402) rfl (ty := .int) (by decide +kernel) rfl rfl (Nat.le_of_ble_eq_true rfl) rfl dX10_wipe_28 (fun H locs hw => ?_)
  refine lv_aload_n C.1 C.2.1 dX10_wipe_31 rfl (lv_at hl 1 rfl) ?_
  refine c_get C hw (inC inW10) (kd_lt kp0 (by decide)) (ce10 kp0) rfl 7 (by decide) (wc w_577) (v := .ref (h 43)) rfl dX10_wipe_32 ?_
  refine c_Vv C hw (ctX0_release l D h cI cL cF cM 43 kp43 (pt (pt u12.1 74 2 (0 : Int32)) 74 3 (0 : Int32)) u12.2.1 u12.2.2 hh) (cwV 0 C.2.2.2.2 (gd_V w_925 w_926 w_927 w_122 w_928) rfl rfl rfl cdX0_release ⟨Nat.le_of_ble_eq_true rfl, Nat.le_of_ble_eq_true rfl⟩) rfl (kd_lt kp43 (by decide)) (ce0 kp43) rfl hl.1 (Nat.le_of_ble_eq_true rfl) dX10_wipe_35 ⟨Nat.zero_le _, Nat.zero_le _⟩ (fun u35 H locs hh hw => ?_) rfl
  refine lv_iload_n C.1 C.2.1 dX10_wipe_38 rfl (lv_at hl 0 rfl) ?_
  exact hR _ _ _ (u35.1, u35.2.1, u35.2.2) _ _ dX10_wipe_39 rfl hh hw
theorem ctX10_wipe (l : Launch) (D : va_G) (h : Nat → Nat) (cI cL cF cM : ClassId) (F : Nat → Nat → Int32) (L : Nat → Nat → Int64) (r : Nat → Nat → Nat) {K : Int32 → cS → Prop} (hh : wpX10_wipe F L r K) : Ci l yX10_wipe wsX10_wipe rmX10_wipe [.ref (h 0)] D (cT cI cL cF cM) (cWu h cI cL cF cM) (F, L, r) K := by
  refine Ci_of (cc := cX10_wipe) (maxL := 2) (by decide) rfl (Nat.le_of_ble_eq_true rfl) ?_
  intro p e s m below meth c A Q C hw hR ls hl
  exact tX10_wipe_b0 C hR hh hw hl
theorem cdX10_wipe : yX10_wipe.cls = RX10 ∧ yX10_wipe.cls ≠ "java/lang/invoke/MethodHandle" ∧ yX10_wipe.cls ≠ "java/lang/invoke/VarHandle" ∧ (parseMethodDescriptor yX10_wipe.desc).map (fun d => d.parameters.length) = some 0 := by decide +kernel
abbrev rmX3_yesesOf : Room := { frames := 0, cells := 0, slots := 0, locals := 0 }
set_option maxHeartbeats 4000000 in
set_option maxRecDepth 100000 in
theorem tX3_yesesOf_b4_body {a0 : Nat} {B4 : (Nat → Nat → Int32) → (Nat → Nat → Int64) → (Nat → Nat → Nat) → Int32 → Int32 → Int32 → Prop} {K : Int32 → cS → Prop} (C : CallFix p m c cX3_yesesOf 4 s args wsX3_yesesOf RX3) (hR : Rti .int p l e rmX3_yesesOf s m args below meth c cX3_yesesOf D A (cT cI cL cF cM) (cWu h cI cL cF cM) K Q) (ha0 : kd a0 = 3) (hB4 : ∀ (F : Nat → Nat → Int32) (L : Nat → Nat → Int64) (r : Nat → Nat → Nat) (x1 : Int32) (x2 : Int32) (x3 : Int32) (H : Heap) (locs : List Loc) (ls : Array Slot), B4 F L r x1 x2 x3 → Wd D A s (cT cI cL cF cM) (cW h cI cL cF cM F L r) H locs → lv_has ls 4 [(0, .ref (h a0)), (1, .int x1), (2, .int x2), (3, .int x3)] → W p l e rmX3_yesesOf s m args below meth c H locs 0 0 Q (F0 m 4 ls [])) {F : Nat → Nat → Int32} {L : Nat → Nat → Int64} {r : Nat → Nat → Nat} {x1 : Int32} {x2 : Int32} {x3 : Int32} (hh : wpX3_yesesOf_b4_body B4 a0 F L r x1 x2 x3 K) {H : Heap} {locs : List Loc} {ls : Array Slot} (hw : Wd D A s (cT cI cL cF cM) (cW h cI cL cF cM F L r) H locs) (hl : lv_has ls 4 [(0, .ref (h a0)), (1, .int x1), (2, .int x2), (3, .int x3)]) : W p l e rmX3_yesesOf s m args below meth c H locs 0 0 Q (F0 m 4 ls []) := by
  unfold wpX3_yesesOf_b4_body at hh
  refine lv_iload_n C.1 C.2.1 dX3_yesesOf_4 rfl (lv_at hl 3 rfl) ?_
  refine lv_iconst (v := (3 : Int32)) C.1 C.2.1 dX3_yesesOf_5 (by decide) ?_
  refine lv_icmp_ge (tgt := 31) C.1 C.2.1 dX3_yesesOf_6 (by decide) (fun c6 => ?_) (fun c6 => ?_)
  · replace hh := hh.1 c6
    refine lv_iload_n C.1 C.2.1 dX3_yesesOf_31 rfl (lv_at hl 2 rfl) ?_
    exact hR _ _ _ (F, L, r) _ _ dX3_yesesOf_32 rfl hh hw
  · replace hh := hh.2 c6
    refine lv_iload_n C.1 C.2.1 dX3_yesesOf_9 rfl (lv_at hl 2 rfl) ?_
    refine lv_aload_n C.1 C.2.1 dX3_yesesOf_10 rfl (lv_at hl 0 rfl) ?_
    refine c_get C hw (inC inW3) (kd_lt ha0 (by decide)) (ce3 ha0) rfl 9 (by decide) (wc w_411) (v := .ref (h (a0 + 1))) rfl dX3_yesesOf_11 ?_
    refine lv_iload_n C.1 C.2.1 dX3_yesesOf_14 rfl (lv_at hl 3 rfl) ?_
    obtain ⟨hi15, hh⟩ := hh
    refine c_lal C hw (kd_lt (kd3_1 ha0) (by decide)) (ce23 (kd3_1 ha0)) hi15 dX3_yesesOf_15 ?_
    refine lv_iload_n C.1 C.2.1 dX3_yesesOf_16 rfl (lv_at hl 1 rfl) ?_
    refine lv_lushr (v := jlushr (L (a0 + 1) (ix x3)) x1) C.1 C.2.1 dX3_yesesOf_17 rfl ?_
    refine lv_lconst (v := (1 : Int64)) C.1 C.2.1 dX3_yesesOf_18 (by decide) ?_
    refine lv_land C.1 C.2.1 dX3_yesesOf_19 ?_
    refine lv_l2i (v := Int64.toInt32 ((jlushr (L (a0 + 1) (ix x3)) x1) &&& (1 : Int64))) C.1 C.2.1 dX3_yesesOf_20 rfl ?_
    refine lv_iload_n C.1 C.2.1 dX3_yesesOf_21 rfl (lv_at hl 3 rfl) ?_
    refine g_ishl C dX3_yesesOf_22 ?_
    refine lv_ior C.1 C.2.1 dX3_yesesOf_23 ?_
    refine lv_topi (fun y24 ey24 => ?_)
    replace hh := hh y24 ey24
    refine lv_istore_n (lv' := [(2, .int y24), (0, .ref (h a0)), (1, .int x1), (3, .int x3)]) C.1 C.2.1 dX3_yesesOf_24 rfl hl (by decide) rfl (fun ls hl => ?_)
    refine lv_iinc (v := x3 + (1 : Int32)) (lv' := [(3, .int (x3 + (1 : Int32))), (2, .int y24), (0, .ref (h a0)), (1, .int x1)]) C.1 C.2.1 dX3_yesesOf_25 hl (k := 3) rfl rfl (by decide) rfl (fun ls hl => ?_)
    refine lv_goto (tgt := 4) C.1 C.2.1 dX3_yesesOf_28 (by decide) ?_
    exact hB4 _ _ _ _ _ _ _ _ _ hh hw (lv_sub hl [2, 3, 1, 0] rfl)
theorem tX3_yesesOf_b4 {a0 : Nat} {K : Int32 → cS → Prop} (C : CallFix p m c cX3_yesesOf 4 s args wsX3_yesesOf RX3) (hR : Rti .int p l e rmX3_yesesOf s m args below meth c cX3_yesesOf D A (cT cI cL cF cM) (cWu h cI cL cF cM) K Q) (ha0 : kd a0 = 3) (n : Nat) : ∀ (F : Nat → Nat → Int32) (L : Nat → Nat → Int64) (r : Nat → Nat → Nat) (x1 : Int32) (x2 : Int32) (x3 : Int32) (H : Heap) (locs : List Loc) (ls : Array Slot), wpX3_yesesOf_b4 a0 n F L r x1 x2 x3 K → Wd D A s (cT cI cL cF cM) (cW h cI cL cF cM F L r) H locs → lv_has ls 4 [(0, .ref (h a0)), (1, .int x1), (2, .int x2), (3, .int x3)] → W p l e rmX3_yesesOf s m args below meth c H locs 0 0 Q (F0 m 4 ls []) := by
  induction n with
  | zero => intro F L r x1 x2 x3 H locs ls hh; exact hh.elim
  | succ n ih => intro F L r x1 x2 x3 H locs ls hh hw hl; exact tX3_yesesOf_b4_body C hR ha0 ih hh hw hl
set_option maxHeartbeats 4000000 in
set_option maxRecDepth 100000 in
theorem tX3_yesesOf_b0 {a0 : Nat} {K : Int32 → cS → Prop} (C : CallFix p m c cX3_yesesOf 4 s args wsX3_yesesOf RX3) (hR : Rti .int p l e rmX3_yesesOf s m args below meth c cX3_yesesOf D A (cT cI cL cF cM) (cWu h cI cL cF cM) K Q) (ha0 : kd a0 = 3) {F : Nat → Nat → Int32} {L : Nat → Nat → Int64} {r : Nat → Nat → Nat} {x1 : Int32} (hh : wpX3_yesesOf_b0 a0 F L r x1 K) {H : Heap} {locs : List Loc} {ls : Array Slot} (hw : Wd D A s (cT cI cL cF cM) (cW h cI cL cF cM F L r) H locs) (hl : lv_has ls 4 [(0, .ref (h a0)), (1, .int x1)]) : W p l e rmX3_yesesOf s m args below meth c H locs 0 0 Q (F0 m 0 ls []) := by
  unfold wpX3_yesesOf_b0 at hh
  refine lv_iconst (v := (0 : Int32)) C.1 C.2.1 dX3_yesesOf_0 (by decide) ?_
  refine lv_istore_n (lv' := [(2, .int (0 : Int32)), (0, .ref (h a0)), (1, .int x1)]) C.1 C.2.1 dX3_yesesOf_1 rfl hl (by decide) rfl (fun ls hl => ?_)
  refine lv_iconst (v := (0 : Int32)) C.1 C.2.1 dX3_yesesOf_2 (by decide) ?_
  refine lv_istore_n (lv' := [(3, .int (0 : Int32)), (2, .int (0 : Int32)), (0, .ref (h a0)), (1, .int x1)]) C.1 C.2.1 dX3_yesesOf_3 rfl hl (by decide) rfl (fun ls hl => ?_)
  obtain ⟨n, hh⟩ := hh
  exact tX3_yesesOf_b4 C hR ha0 n _ _ _ _ _ _ _ _ _ hh hw (lv_sub hl [2, 3, 1, 0] rfl)
theorem ctX3_yesesOf (l : Launch) (D : va_G) (h : Nat → Nat) (cI cL cF cM : ClassId) (a0 : Nat) (ha0 : kd a0 = 3) (F : Nat → Nat → Int32) (L : Nat → Nat → Int64) (r : Nat → Nat → Nat) (x1 : Int32) {K : Int32 → cS → Prop} (hh : wpX3_yesesOf a0 F L r x1 K) : Ci l yX3_yesesOf wsX3_yesesOf rmX3_yesesOf [.ref (h a0), .int x1] D (cT cI cL cF cM) (cWu h cI cL cF cM) (F, L, r) K := by
  refine Ci_of (cc := cX3_yesesOf) (maxL := 4) (by decide) rfl (Nat.le_of_ble_eq_true rfl) ?_
  intro p e s m below meth c A Q C hw hR ls hl
  exact tX3_yesesOf_b0 C hR ha0 hh hw hl
theorem cdX3_yesesOf : yX3_yesesOf.cls = RX3 ∧ yX3_yesesOf.cls ≠ "java/lang/invoke/MethodHandle" ∧ yX3_yesesOf.cls ≠ "java/lang/invoke/VarHandle" ∧ (parseMethodDescriptor yX3_yesesOf.desc).map (fun d => d.parameters.length) = some 1 := by decide +kernel
abbrev rmX3_wayOf : Room := { frames := 0, cells := 0, slots := 0, locals := 0 }
set_option maxHeartbeats 4000000 in
set_option maxRecDepth 100000 in
theorem tX3_wayOf_b0 {a0 : Nat} {K : Int32 → cS → Prop} (C : CallFix p m c cX3_wayOf 2 s args wsX3_wayOf RX3) (hR : Rti .int p l e rmX3_wayOf s m args below meth c cX3_wayOf D A (cT cI cL cF cM) (cWu h cI cL cF cM) K Q) (ha0 : kd a0 = 3) {F : Nat → Nat → Int32} {L : Nat → Nat → Int64} {r : Nat → Nat → Nat} {x1 : Int32} (hh : wpX3_wayOf_b0 a0 F L r x1 K) {H : Heap} {locs : List Loc} {ls : Array Slot} (hw : Wd D A s (cT cI cL cF cM) (cW h cI cL cF cM F L r) H locs) (hl : lv_has ls 2 [(0, .ref (h a0)), (1, .int x1)]) : W p l e rmX3_wayOf s m args below meth c H locs 0 0 Q (F0 m 0 ls []) := by
  unfold wpX3_wayOf_b0 at hh
  refine lv_aload_n C.1 C.2.1 dX3_wayOf_0 rfl (lv_at hl 0 rfl) ?_
  refine c_get C hw (inC inW3) (kd_lt ha0 (by decide)) (ce3 ha0) rfl 4 (by decide) (wc w_403) (v := .long (L a0 4)) rfl dX3_wayOf_1 ?_
  refine lv_iload_n C.1 C.2.1 dX3_wayOf_4 rfl (lv_at hl 1 rfl) ?_
  refine lv_lushr (v := jlushr (L a0 4) x1) C.1 C.2.1 dX3_wayOf_5 rfl ?_
  refine lv_lconst (v := (1 : Int64)) C.1 C.2.1 dX3_wayOf_6 (by decide) ?_
  refine lv_land C.1 C.2.1 dX3_wayOf_7 ?_
  refine lv_l2i (v := Int64.toInt32 ((jlushr (L a0 4) x1) &&& (1 : Int64))) C.1 C.2.1 dX3_wayOf_8 rfl ?_
  refine lv_iconst (v := (2 : Int32)) C.1 C.2.1 dX3_wayOf_9 (by decide) ?_
  refine lv_aload_n C.1 C.2.1 dX3_wayOf_10 rfl (lv_at hl 0 rfl) ?_
  refine c_get C hw (inC inW3) (kd_lt ha0 (by decide)) (ce3 ha0) rfl 5 (by decide) (wc w_404) (v := .long (L a0 5)) rfl dX3_wayOf_11 ?_
  refine lv_iload_n C.1 C.2.1 dX3_wayOf_14 rfl (lv_at hl 1 rfl) ?_
  refine lv_lushr (v := jlushr (L a0 5) x1) C.1 C.2.1 dX3_wayOf_15 rfl ?_
  refine lv_lconst (v := (1 : Int64)) C.1 C.2.1 dX3_wayOf_16 (by decide) ?_
  refine lv_land C.1 C.2.1 dX3_wayOf_17 ?_
  refine lv_l2i (v := Int64.toInt32 ((jlushr (L a0 5) x1) &&& (1 : Int64))) C.1 C.2.1 dX3_wayOf_18 rfl ?_
  refine lv_imul C.1 C.2.1 dX3_wayOf_19 ?_
  refine lv_iadd C.1 C.2.1 dX3_wayOf_20 ?_
  exact hR _ _ _ (F, L, r) _ _ dX3_wayOf_21 rfl hh hw
theorem ctX3_wayOf (l : Launch) (D : va_G) (h : Nat → Nat) (cI cL cF cM : ClassId) (a0 : Nat) (ha0 : kd a0 = 3) (F : Nat → Nat → Int32) (L : Nat → Nat → Int64) (r : Nat → Nat → Nat) (x1 : Int32) {K : Int32 → cS → Prop} (hh : wpX3_wayOf a0 F L r x1 K) : Ci l yX3_wayOf wsX3_wayOf rmX3_wayOf [.ref (h a0), .int x1] D (cT cI cL cF cM) (cWu h cI cL cF cM) (F, L, r) K := by
  refine Ci_of (cc := cX3_wayOf) (maxL := 2) (by decide) rfl (Nat.le_of_ble_eq_true rfl) ?_
  intro p e s m below meth c A Q C hw hR ls hl
  exact tX3_wayOf_b0 C hR ha0 hh hw hl
theorem cdX3_wayOf : yX3_wayOf.cls = RX3 ∧ yX3_wayOf.cls ≠ "java/lang/invoke/MethodHandle" ∧ yX3_wayOf.cls ≠ "java/lang/invoke/VarHandle" ∧ (parseMethodDescriptor yX3_wayOf.desc).map (fun d => d.parameters.length) = some 1 := by decide +kernel
abbrev rmX3_signs : Room := { frames := 1, cells := 0, slots := 0, locals := 23 }
set_option maxHeartbeats 4000000 in
set_option maxRecDepth 100000 in
theorem tX3_signs_b78 {a0 : Nat} {a1 : Nat} {K : Int32 → cS → Prop} (C : CallFix p m c cX3_signs 3 s args wsX3_signs RX3) (hR : Rti .int p l e rmX3_signs s m args below meth c cX3_signs D A (cT cI cL cF cM) (cWu h cI cL cF cM) K Q) (ha0 : kd a0 = 3) (ha1 : kd a1 = 1) {F : Nat → Nat → Int32} {L : Nat → Nat → Int64} {r : Nat → Nat → Nat} {x2 : Int32} (hh : wpX3_signs_b78 a0 a1 F L r x2 K) {H : Heap} {locs : List Loc} {ls : Array Slot} (hw : Wd D A s (cT cI cL cF cM) (cW h cI cL cF cM F L r) H locs) (hl : lv_has ls 3 [(0, .ref (h a0)), (2, .int x2)]) : W p l e rmX3_signs s m args below meth c H locs 0 0 Q (F0 m 78 ls []) := by
  unfold wpX3_signs_b78 at hh
  refine lv_iload_n C.1 C.2.1 dX3_signs_78 rfl (lv_at hl 1 rfl) ?_
  exact hR _ _ _ (F, L, r) _ _ dX3_signs_79 rfl hh hw
set_option maxHeartbeats 4000000 in
set_option maxRecDepth 100000 in
theorem tX3_signs_b57 {a0 : Nat} {a1 : Nat} {K : Int32 → cS → Prop} (C : CallFix p m c cX3_signs 3 s args wsX3_signs RX3) (hR : Rti .int p l e rmX3_signs s m args below meth c cX3_signs D A (cT cI cL cF cM) (cWu h cI cL cF cM) K Q) (ha0 : kd a0 = 3) (ha1 : kd a1 = 1) {F : Nat → Nat → Int32} {L : Nat → Nat → Int64} {r : Nat → Nat → Nat} {x2 : Int32} (hh : wpX3_signs_b57 a0 a1 F L r x2 K) {H : Heap} {locs : List Loc} {ls : Array Slot} (hw : Wd D A s (cT cI cL cF cM) (cW h cI cL cF cM F L r) H locs) (hl : lv_has ls 3 [(0, .ref (h a0)), (2, .int x2)]) : W p l e rmX3_signs s m args below meth c H locs 0 0 Q (F0 m 57 ls []) := by
  unfold wpX3_signs_b57 at hh
  refine lv_aload_n C.1 C.2.1 dX3_signs_57 rfl (lv_at hl 0 rfl) ?_
  refine c_get C hw (inC inW3) (kd_lt ha0 (by decide)) (ce3 ha0) rfl 1 (by decide) (wc w_396) (v := .int (F a0 1)) rfl dX3_signs_58 ?_
  refine lv_aload_n C.1 C.2.1 dX3_signs_61 rfl (lv_at hl 0 rfl) ?_
  refine lv_aload_n C.1 C.2.1 dX3_signs_62 rfl (lv_at hl 0 rfl) ?_
  refine c_get C hw (inC inW3) (kd_lt ha0 (by decide)) (ce3 ha0) rfl 0 (by decide) (wc w_392) (v := .int (F a0 0)) rfl dX3_signs_63 ?_
  refine c_Vi C hw (ctX3_wayOf l D h cI cL cF cM a0 ha0 F L r (F a0 0) hh) (cwV 1 C.2.2.2.2 (gd_V w_1005 w_1006 w_1007 w_121 w_1008) rfl rfl rfl cdX3_wayOf ⟨Nat.le_of_ble_eq_true rfl, Nat.le_of_ble_eq_true rfl⟩) rfl (kd_lt ha0 (by decide)) (ce3 ha0) rfl hl.1 (Nat.le_of_ble_eq_true rfl) dX3_signs_66 ⟨Nat.zero_le _, Nat.zero_le _⟩ (fun r66 u66 H locs hh hw => ?_) rfl
  refine lv_icmp_ne (tgt := 78) C.1 C.2.1 dX3_signs_69 (by decide) (fun c69 => ?_) (fun c69 => ?_)
  · replace hh := hh.1 c69
    exact tX3_signs_b78 C hR ha0 ha1 hh hw hl
  · replace hh := hh.2 c69
    refine lv_iload_n C.1 C.2.1 dX3_signs_72 rfl (lv_at hl 1 rfl) ?_
    refine lv_sipush (v := (4096 : Int32)) C.1 C.2.1 dX3_signs_73 (by decide) ?_
    refine lv_ior C.1 C.2.1 dX3_signs_76 ?_
    refine lv_istore_n (lv' := [(2, .int (x2 ||| (4096 : Int32))), (0, .ref (h a0))]) C.1 C.2.1 dX3_signs_77 rfl hl (by decide) rfl (fun ls hl => ?_)
    exact tX3_signs_b78 C hR ha0 ha1 hh hw (lv_sub hl [1, 0] rfl)
set_option maxHeartbeats 4000000 in
set_option maxRecDepth 100000 in
theorem tX3_signs_b40 {a0 : Nat} {a1 : Nat} {K : Int32 → cS → Prop} (C : CallFix p m c cX3_signs 3 s args wsX3_signs RX3) (hR : Rti .int p l e rmX3_signs s m args below meth c cX3_signs D A (cT cI cL cF cM) (cWu h cI cL cF cM) K Q) (ha0 : kd a0 = 3) (ha1 : kd a1 = 1) {F : Nat → Nat → Int32} {L : Nat → Nat → Int64} {r : Nat → Nat → Nat} {x2 : Int32} (hh : wpX3_signs_b40 a0 a1 F L r x2 K) {H : Heap} {locs : List Loc} {ls : Array Slot} (hw : Wd D A s (cT cI cL cF cM) (cW h cI cL cF cM F L r) H locs) (hl : lv_has ls 3 [(0, .ref (h a0)), (1, .ref (h a1)), (2, .int x2)]) : W p l e rmX3_signs s m args below meth c H locs 0 0 Q (F0 m 40 ls []) := by
  unfold wpX3_signs_b40 at hh
  refine lv_aload_n C.1 C.2.1 dX3_signs_40 rfl (lv_at hl 0 rfl) ?_
  refine c_get C hw (inC inW3) (kd_lt ha0 (by decide)) (ce3 ha0) rfl 0 (by decide) (wc w_392) (v := .int (F a0 0)) rfl dX3_signs_41 ?_
  refine lv_aload_n C.1 C.2.1 dX3_signs_44 rfl (lv_at hl 1 rfl) ?_
  refine c_get C hw (inC inW1) (kd_lt ha1 (by decide)) (ce1 ha1) rfl 3 (by decide) (wc w_364) (v := .int (F a1 3)) rfl dX3_signs_45 ?_
  refine lv_icmp_ne (tgt := 57) C.1 C.2.1 dX3_signs_48 (by decide) (fun c48 => ?_) (fun c48 => ?_)
  · replace hh := hh.1 c48
    exact tX3_signs_b57 C hR ha0 ha1 hh hw (lv_sub hl [0, 2] rfl)
  · replace hh := hh.2 c48
    refine lv_iload_n C.1 C.2.1 dX3_signs_51 rfl (lv_at hl 2 rfl) ?_
    refine lv_sipush (v := (2048 : Int32)) C.1 C.2.1 dX3_signs_52 (by decide) ?_
    refine lv_ior C.1 C.2.1 dX3_signs_55 ?_
    refine lv_istore_n (lv' := [(2, .int (x2 ||| (2048 : Int32))), (0, .ref (h a0)), (1, .ref (h a1))]) C.1 C.2.1 dX3_signs_56 rfl hl (by decide) rfl (fun ls hl => ?_)
    exact tX3_signs_b57 C hR ha0 ha1 hh hw (lv_sub hl [1, 0] rfl)
set_option maxHeartbeats 4000000 in
set_option maxRecDepth 100000 in
theorem tX3_signs_b0 {a0 : Nat} {a1 : Nat} {K : Int32 → cS → Prop} (C : CallFix p m c cX3_signs 3 s args wsX3_signs RX3) (hR : Rti .int p l e rmX3_signs s m args below meth c cX3_signs D A (cT cI cL cF cM) (cWu h cI cL cF cM) K Q) (ha0 : kd a0 = 3) (ha1 : kd a1 = 1) {F : Nat → Nat → Int32} {L : Nat → Nat → Int64} {r : Nat → Nat → Nat} (hh : wpX3_signs_b0 a0 a1 F L r K) {H : Heap} {locs : List Loc} {ls : Array Slot} (hw : Wd D A s (cT cI cL cF cM) (cW h cI cL cF cM F L r) H locs) (hl : lv_has ls 3 [(0, .ref (h a0)), (1, .ref (h a1))]) : W p l e rmX3_signs s m args below meth c H locs 0 0 Q (F0 m 0 ls []) := by
  unfold wpX3_signs_b0 at hh
  refine lv_iconst (v := (1 : Int32)) C.1 C.2.1 dX3_signs_0 (by decide) ?_
  refine lv_aload_n C.1 C.2.1 dX3_signs_1 rfl (lv_at hl 0 rfl) ?_
  refine c_get C hw (inC inW3) (kd_lt ha0 (by decide)) (ce3 ha0) rfl 2 (by decide) (wc w_399) (v := .int (F a0 2)) rfl dX3_signs_2 ?_
  refine g_ishl C dX3_signs_5 ?_
  refine lv_aload_n C.1 C.2.1 dX3_signs_6 rfl (lv_at hl 0 rfl) ?_
  refine lv_aload_n C.1 C.2.1 dX3_signs_7 rfl (lv_at hl 0 rfl) ?_
  refine c_get C hw (inC inW3) (kd_lt ha0 (by decide)) (ce3 ha0) rfl 0 (by decide) (wc w_392) (v := .int (F a0 0)) rfl dX3_signs_8 ?_
  refine c_Vi C hw (ctX3_yesesOf l D h cI cL cF cM a0 ha0 F L r (F a0 0) hh) (cwV 1 C.2.2.2.2 (gd_V w_1000 w_1001 w_1002 w_121 w_1003) rfl rfl rfl cdX3_yesesOf ⟨Nat.le_of_ble_eq_true rfl, Nat.le_of_ble_eq_true rfl⟩) rfl (kd_lt ha0 (by decide)) (ce3 ha0) rfl hl.1 (Nat.le_of_ble_eq_true rfl) dX3_signs_11 ⟨Nat.zero_le _, Nat.zero_le _⟩ (fun r11 u11 H locs hh hw => ?_) rfl
  refine lv_bipush (v := (13 : Int32)) C.1 C.2.1 dX3_signs_14 (by decide) ?_
  refine g_ishl C dX3_signs_16 ?_
  refine lv_ior C.1 C.2.1 dX3_signs_17 ?_
  refine lv_topi (fun y18 ey18 => ?_)
  replace hh := hh y18 ey18
  refine lv_istore_n (lv' := [(2, .int y18), (0, .ref (h a0)), (1, .ref (h a1))]) C.1 C.2.1 dX3_signs_18 rfl hl (by decide) rfl (fun ls hl => ?_)
  refine lv_aload_n C.1 C.2.1 dX3_signs_19 rfl (lv_at hl 2 rfl) ?_
  refine lv_aload_n C.1 C.2.1 dX3_signs_20 rfl (lv_at hl 1 rfl) ?_
  refine c_get C hw (inC inW3) (kd_lt ha0 (by decide)) (ce3 ha0) rfl 0 (by decide) (wc w_392) (v := .int (u11.1 a0 0)) rfl dX3_signs_21 ?_
  refine lv_aload_n C.1 C.2.1 dX3_signs_24 rfl (lv_at hl 1 rfl) ?_
  refine c_get C hw (inC inW3) (kd_lt ha0 (by decide)) (ce3 ha0) rfl 1 (by decide) (wc w_396) (v := .int (u11.1 a0 1)) rfl dX3_signs_25 ?_
  refine c_Vi C hw (ctX1_isWalled l D h cI cL cF cM a1 ha1 u11.1 u11.2.1 u11.2.2 (u11.1 a0 0) (u11.1 a0 1) hh) (cwV 2 C.2.2.2.2 (gd_V w_1004 w_949 w_950 w_120 w_951) rfl rfl rfl cdX1_isWalled ⟨Nat.le_of_ble_eq_true rfl, Nat.le_of_ble_eq_true rfl⟩) rfl (kd_lt ha1 (by decide)) (ce1 ha1) rfl hl.1 (Nat.le_of_ble_eq_true rfl) dX3_signs_28 ⟨Nat.zero_le _, Nat.zero_le _⟩ (fun r28 u28 H locs hh hw => ?_) rfl
  refine lv_if_eq (tgt := 40) C.1 C.2.1 dX3_signs_31 (by decide) (fun c31 => ?_) (fun c31 => ?_)
  · replace hh := hh.1 c31
    exact tX3_signs_b40 C hR ha0 ha1 hh hw (lv_sub hl [1, 2, 0] rfl)
  · replace hh := hh.2 c31
    refine lv_iload_n C.1 C.2.1 dX3_signs_34 rfl (lv_at hl 0 rfl) ?_
    refine lv_sipush (v := (1024 : Int32)) C.1 C.2.1 dX3_signs_35 (by decide) ?_
    refine lv_ior C.1 C.2.1 dX3_signs_38 ?_
    refine lv_istore_n (lv' := [(2, .int (y18 ||| (1024 : Int32))), (0, .ref (h a0)), (1, .ref (h a1))]) C.1 C.2.1 dX3_signs_39 rfl hl (by decide) rfl (fun ls hl => ?_)
    exact tX3_signs_b40 C hR ha0 ha1 hh hw (lv_sub hl [1, 2, 0] rfl)
theorem ctX3_signs (l : Launch) (D : va_G) (h : Nat → Nat) (cI cL cF cM : ClassId) (a0 : Nat) (a1 : Nat) (ha0 : kd a0 = 3) (ha1 : kd a1 = 1) (F : Nat → Nat → Int32) (L : Nat → Nat → Int64) (r : Nat → Nat → Nat) {K : Int32 → cS → Prop} (hh : wpX3_signs a0 a1 F L r K) : Ci l yX3_signs wsX3_signs rmX3_signs [.ref (h a0), .ref (h a1)] D (cT cI cL cF cM) (cWu h cI cL cF cM) (F, L, r) K := by
  refine Ci_of (cc := cX3_signs) (maxL := 3) (by decide) rfl (Nat.le_of_ble_eq_true rfl) ?_
  intro p e s m below meth c A Q C hw hR ls hl
  exact tX3_signs_b0 C hR ha0 ha1 hh hw hl
theorem cdX3_signs : yX3_signs.cls = RX3 ∧ yX3_signs.cls ≠ "java/lang/invoke/MethodHandle" ∧ yX3_signs.cls ≠ "java/lang/invoke/VarHandle" ∧ (parseMethodDescriptor yX3_signs.desc).map (fun d => d.parameters.length) = some 1 := by decide +kernel
abbrev rmX6_lineFor : Room := { frames := 0, cells := 0, slots := 0, locals := 0 }
set_option maxHeartbeats 4000000 in
set_option maxRecDepth 100000 in
theorem tX6_lineFor_b50 {a0 : Nat} {B2 : (Nat → Nat → Int32) → (Nat → Nat → Int64) → (Nat → Nat → Nat) → Int32 → Int32 → Int32 → Prop} {K : Int32 → cS → Prop} (C : CallFix p m c cX6_lineFor 4 s args wsX6_lineFor RX6) (hR : Rti .int p l e rmX6_lineFor s m args below meth c cX6_lineFor D A (cT cI cL cF cM) (cWu h cI cL cF cM) K Q) (ha0 : kd a0 = 6) (hB2 : ∀ (F : Nat → Nat → Int32) (L : Nat → Nat → Int64) (r : Nat → Nat → Nat) (x1 : Int32) (x2 : Int32) (x3 : Int32) (H : Heap) (locs : List Loc) (ls : Array Slot), B2 F L r x1 x2 x3 → Wd D A s (cT cI cL cF cM) (cW h cI cL cF cM F L r) H locs → lv_has ls 4 [(0, .ref (h a0)), (1, .int x1), (2, .int x2), (3, .int x3)] → W p l e rmX6_lineFor s m args below meth c H locs 0 0 Q (F0 m 2 ls [])) {F : Nat → Nat → Int32} {L : Nat → Nat → Int64} {r : Nat → Nat → Nat} {x1 : Int32} {x2 : Int32} {x3 : Int32} (hh : wpX6_lineFor_b50 B2 a0 F L r x1 x2 x3 K) {H : Heap} {locs : List Loc} {ls : Array Slot} (hw : Wd D A s (cT cI cL cF cM) (cW h cI cL cF cM F L r) H locs) (hl : lv_has ls 4 [(0, .ref (h a0)), (1, .int x1), (2, .int x2), (3, .int x3)]) : W p l e rmX6_lineFor s m args below meth c H locs 0 0 Q (F0 m 50 ls []) := by
  unfold wpX6_lineFor_b50 at hh
  refine lv_iinc (v := x3 + (1 : Int32)) (lv' := [(3, .int (x3 + (1 : Int32))), (0, .ref (h a0)), (1, .int x1), (2, .int x2)]) C.1 C.2.1 dX6_lineFor_50 hl (k := 3) rfl rfl (by decide) rfl (fun ls hl => ?_)
  refine lv_goto (tgt := 2) C.1 C.2.1 dX6_lineFor_53 (by decide) ?_
  exact hB2 _ _ _ _ _ _ _ _ _ hh hw (lv_sub hl [1, 2, 3, 0] rfl)
set_option maxHeartbeats 4000000 in
set_option maxRecDepth 100000 in
theorem tX6_lineFor_b2_body {a0 : Nat} {B2 : (Nat → Nat → Int32) → (Nat → Nat → Int64) → (Nat → Nat → Nat) → Int32 → Int32 → Int32 → Prop} {K : Int32 → cS → Prop} (C : CallFix p m c cX6_lineFor 4 s args wsX6_lineFor RX6) (hR : Rti .int p l e rmX6_lineFor s m args below meth c cX6_lineFor D A (cT cI cL cF cM) (cWu h cI cL cF cM) K Q) (ha0 : kd a0 = 6) (hB2 : ∀ (F : Nat → Nat → Int32) (L : Nat → Nat → Int64) (r : Nat → Nat → Nat) (x1 : Int32) (x2 : Int32) (x3 : Int32) (H : Heap) (locs : List Loc) (ls : Array Slot), B2 F L r x1 x2 x3 → Wd D A s (cT cI cL cF cM) (cW h cI cL cF cM F L r) H locs → lv_has ls 4 [(0, .ref (h a0)), (1, .int x1), (2, .int x2), (3, .int x3)] → W p l e rmX6_lineFor s m args below meth c H locs 0 0 Q (F0 m 2 ls [])) {F : Nat → Nat → Int32} {L : Nat → Nat → Int64} {r : Nat → Nat → Nat} {x1 : Int32} {x2 : Int32} {x3 : Int32} (hh : wpX6_lineFor_b2_body B2 a0 F L r x1 x2 x3 K) {H : Heap} {locs : List Loc} {ls : Array Slot} (hw : Wd D A s (cT cI cL cF cM) (cW h cI cL cF cM F L r) H locs) (hl : lv_has ls 4 [(0, .ref (h a0)), (1, .int x1), (2, .int x2), (3, .int x3)]) : W p l e rmX6_lineFor s m args below meth c H locs 0 0 Q (F0 m 2 ls []) := by
  unfold wpX6_lineFor_b2_body at hh
  refine lv_iload_n C.1 C.2.1 dX6_lineFor_2 rfl (lv_at hl 3 rfl) ?_
  refine lv_aload_n C.1 C.2.1 dX6_lineFor_3 rfl (lv_at hl 0 rfl) ?_
  refine c_get C hw (inC inW6) (kd_lt ha0 (by decide)) (ce6 ha0) rfl 0 (by decide) (wc w_227) (v := .int (F a0 0)) rfl dX6_lineFor_4 ?_
  refine lv_icmp_ge (tgt := 56) C.1 C.2.1 dX6_lineFor_7 (by decide) (fun c7 => ?_) (fun c7 => ?_)
  · replace hh := hh.1 c7
    refine lv_iconst (v := (-1 : Int32)) C.1 C.2.1 dX6_lineFor_56 (by decide) ?_
    exact hR _ _ _ (F, L, r) _ _ dX6_lineFor_57 rfl hh hw
  · replace hh := hh.2 c7
    refine lv_iload_n C.1 C.2.1 dX6_lineFor_10 rfl (lv_at hl 1 rfl) ?_
    refine lv_aload_n C.1 C.2.1 dX6_lineFor_11 rfl (lv_at hl 0 rfl) ?_
    refine c_get C hw (inC inW6) (kd_lt ha0 (by decide)) (ce6 ha0) rfl 4 (by decide) (wc w_235) (v := .ref (h (a0 + 4))) rfl dX6_lineFor_12 ?_
    refine lv_iload_n C.1 C.2.1 dX6_lineFor_15 rfl (lv_at hl 3 rfl) ?_
    obtain ⟨hi16, hh⟩ := hh
    refine c_ial C hw (kd_lt (kd6_4 ha0) (by decide)) (ce20 (kd6_4 ha0)) hi16 dX6_lineFor_16 ?_
    refine lv_ixor C.1 C.2.1 dX6_lineFor_17 ?_
    refine lv_aload_n C.1 C.2.1 dX6_lineFor_18 rfl (lv_at hl 0 rfl) ?_
    refine c_get C hw (inC inW6) (kd_lt ha0 (by decide)) (ce6 ha0) rfl 3 (by decide) (wc w_234) (v := .ref (h (a0 + 3))) rfl dX6_lineFor_19 ?_
    refine lv_iload_n C.1 C.2.1 dX6_lineFor_22 rfl (lv_at hl 3 rfl) ?_
    obtain ⟨hi23, hh⟩ := hh
    refine c_ial C hw (kd_lt (kd6_3 ha0) (by decide)) (ce20 (kd6_3 ha0)) hi23 dX6_lineFor_23 ?_
    refine lv_iand C.1 C.2.1 dX6_lineFor_24 ?_
    refine lv_if_ne (tgt := 50) C.1 C.2.1 dX6_lineFor_25 (by decide) (fun c25 => ?_) (fun c25 => ?_)
    · replace hh := hh.1 c25
      exact tX6_lineFor_b50 C hR ha0 hB2 hh hw hl
    · replace hh := hh.2 c25
      refine lv_iload_n C.1 C.2.1 dX6_lineFor_28 rfl (lv_at hl 2 rfl) ?_
      refine lv_aload_n C.1 C.2.1 dX6_lineFor_29 rfl (lv_at hl 0 rfl) ?_
      refine c_get C hw (inC inW6) (kd_lt ha0 (by decide)) (ce6 ha0) rfl 5 (by decide) (wc w_236) (v := .ref (h (a0 + 5))) rfl dX6_lineFor_30 ?_
      refine lv_iload_n C.1 C.2.1 dX6_lineFor_33 rfl (lv_at hl 3 rfl) ?_
      obtain ⟨hi34, hh⟩ := hh
      refine c_ial C hw (kd_lt (kd6_5 ha0) (by decide)) (ce20 (kd6_5 ha0)) hi34 dX6_lineFor_34 ?_
      refine lv_icmp_lt (tgt := 50) C.1 C.2.1 dX6_lineFor_35 (by decide) (fun c35 => ?_) (fun c35 => ?_)
      · replace hh := hh.1 c35
        exact tX6_lineFor_b50 C hR ha0 hB2 hh hw hl
      · replace hh := hh.2 c35
        refine lv_iload_n C.1 C.2.1 dX6_lineFor_38 rfl (lv_at hl 2 rfl) ?_
        refine lv_aload_n C.1 C.2.1 dX6_lineFor_39 rfl (lv_at hl 0 rfl) ?_
        refine c_get C hw (inC inW6) (kd_lt ha0 (by decide)) (ce6 ha0) rfl 6 (by decide) (wc w_237) (v := .ref (h (a0 + 6))) rfl dX6_lineFor_40 ?_
        refine lv_iload_n C.1 C.2.1 dX6_lineFor_43 rfl (lv_at hl 3 rfl) ?_
        obtain ⟨hi44, hh⟩ := hh
        refine c_ial C hw (kd_lt (kd6_6 ha0) (by decide)) (ce20 (kd6_6 ha0)) hi44 dX6_lineFor_44 ?_
        refine lv_icmp_ge (tgt := 50) C.1 C.2.1 dX6_lineFor_45 (by decide) (fun c45 => ?_) (fun c45 => ?_)
        · replace hh := hh.1 c45
          exact tX6_lineFor_b50 C hR ha0 hB2 hh hw hl
        · replace hh := hh.2 c45
          refine lv_iload_n C.1 C.2.1 dX6_lineFor_48 rfl (lv_at hl 3 rfl) ?_
          exact hR _ _ _ (F, L, r) _ _ dX6_lineFor_49 rfl hh hw
theorem tX6_lineFor_b2 {a0 : Nat} {K : Int32 → cS → Prop} (C : CallFix p m c cX6_lineFor 4 s args wsX6_lineFor RX6) (hR : Rti .int p l e rmX6_lineFor s m args below meth c cX6_lineFor D A (cT cI cL cF cM) (cWu h cI cL cF cM) K Q) (ha0 : kd a0 = 6) (n : Nat) : ∀ (F : Nat → Nat → Int32) (L : Nat → Nat → Int64) (r : Nat → Nat → Nat) (x1 : Int32) (x2 : Int32) (x3 : Int32) (H : Heap) (locs : List Loc) (ls : Array Slot), wpX6_lineFor_b2 a0 n F L r x1 x2 x3 K → Wd D A s (cT cI cL cF cM) (cW h cI cL cF cM F L r) H locs → lv_has ls 4 [(0, .ref (h a0)), (1, .int x1), (2, .int x2), (3, .int x3)] → W p l e rmX6_lineFor s m args below meth c H locs 0 0 Q (F0 m 2 ls []) := by
  induction n with
  | zero => intro F L r x1 x2 x3 H locs ls hh; exact hh.elim
  | succ n ih => intro F L r x1 x2 x3 H locs ls hh hw hl; exact tX6_lineFor_b2_body C hR ha0 ih hh hw hl
set_option maxHeartbeats 4000000 in
set_option maxRecDepth 100000 in
theorem tX6_lineFor_b0 {a0 : Nat} {K : Int32 → cS → Prop} (C : CallFix p m c cX6_lineFor 4 s args wsX6_lineFor RX6) (hR : Rti .int p l e rmX6_lineFor s m args below meth c cX6_lineFor D A (cT cI cL cF cM) (cWu h cI cL cF cM) K Q) (ha0 : kd a0 = 6) {F : Nat → Nat → Int32} {L : Nat → Nat → Int64} {r : Nat → Nat → Nat} {x1 : Int32} {x2 : Int32} (hh : wpX6_lineFor_b0 a0 F L r x1 x2 K) {H : Heap} {locs : List Loc} {ls : Array Slot} (hw : Wd D A s (cT cI cL cF cM) (cW h cI cL cF cM F L r) H locs) (hl : lv_has ls 4 [(0, .ref (h a0)), (1, .int x1), (2, .int x2)]) : W p l e rmX6_lineFor s m args below meth c H locs 0 0 Q (F0 m 0 ls []) := by
  unfold wpX6_lineFor_b0 at hh
  refine lv_iconst (v := (0 : Int32)) C.1 C.2.1 dX6_lineFor_0 (by decide) ?_
  refine lv_istore_n (lv' := [(3, .int (0 : Int32)), (0, .ref (h a0)), (1, .int x1), (2, .int x2)]) C.1 C.2.1 dX6_lineFor_1 rfl hl (by decide) rfl (fun ls hl => ?_)
  obtain ⟨n, hh⟩ := hh
  exact tX6_lineFor_b2 C hR ha0 n _ _ _ _ _ _ _ _ _ hh hw (lv_sub hl [1, 2, 3, 0] rfl)
theorem ctX6_lineFor (l : Launch) (D : va_G) (h : Nat → Nat) (cI cL cF cM : ClassId) (a0 : Nat) (ha0 : kd a0 = 6) (F : Nat → Nat → Int32) (L : Nat → Nat → Int64) (r : Nat → Nat → Nat) (x1 : Int32) (x2 : Int32) {K : Int32 → cS → Prop} (hh : wpX6_lineFor a0 F L r x1 x2 K) : Ci l yX6_lineFor wsX6_lineFor rmX6_lineFor [.ref (h a0), .int x1, .int x2] D (cT cI cL cF cM) (cWu h cI cL cF cM) (F, L, r) K := by
  refine Ci_of (cc := cX6_lineFor) (maxL := 4) (by decide) rfl (Nat.le_of_ble_eq_true rfl) ?_
  intro p e s m below meth c A Q C hw hR ls hl
  exact tX6_lineFor_b0 C hR ha0 hh hw hl
theorem cdX6_lineFor : yX6_lineFor.cls = RX6 ∧ yX6_lineFor.cls ≠ "java/lang/invoke/MethodHandle" ∧ yX6_lineFor.cls ≠ "java/lang/invoke/VarHandle" ∧ (parseMethodDescriptor yX6_lineFor.desc).map (fun d => d.parameters.length) = some 2 := by decide +kernel
abbrev rmX3_turn : Room := { frames := 0, cells := 0, slots := 0, locals := 0 }
set_option maxHeartbeats 4000000 in
set_option maxRecDepth 100000 in
theorem tX3_turn_b0 {a0 : Nat} {K : cS → Prop} (C : CallFix p m c cX3_turn 2 s args wsX3_turn RX3) (hR : Rtv p l e rmX3_turn s m args below meth c cX3_turn D A (cT cI cL cF cM) (cWu h cI cL cF cM) K Q) (ha0 : kd a0 = 3) {F : Nat → Nat → Int32} {L : Nat → Nat → Int64} {r : Nat → Nat → Nat} {x1 : Int32} (hh : wpX3_turn_b0 a0 F L r x1 K) {H : Heap} {locs : List Loc} {ls : Array Slot} (hw : Wd D A s (cT cI cL cF cM) (cW h cI cL cF cM F L r) H locs) (hl : lv_has ls 2 [(0, .ref (h a0)), (1, .int x1)]) : W p l e rmX3_turn s m args below meth c H locs 0 0 Q (F0 m 0 ls []) := by
  unfold wpX3_turn_b0 at hh
  refine lv_aload_n C.1 C.2.1 dX3_turn_0 rfl (lv_at hl 0 rfl) ?_
  refine lv_aload_n C.1 C.2.1 dX3_turn_1 rfl (lv_at hl 0 rfl) ?_
  refine c_get C hw (inC inW3) (kd_lt ha0 (by decide)) (ce3 ha0) rfl 1 (by decide) (wc w_396) (v := .int (F a0 1)) rfl dX3_turn_2 ?_
  refine lv_iload_n C.1 C.2.1 dX3_turn_5 rfl (lv_at hl 1 rfl) ?_
  refine lv_iadd C.1 C.2.1 dX3_turn_6 ?_
  refine lv_iconst (v := (3 : Int32)) C.1 C.2.1 dX3_turn_7 (by decide) ?_
  refine lv_iand C.1 C.2.1 dX3_turn_8 ?_
  refine c_puti C hw (inC inW3) tyX3 tyX3_ok nmX3 (kd_lt ha0 (by decide)) (ce3 ha0) rfl 1 (by decide) (wc w_396) rfl (ty := .int) (by decide +kernel) rfl rfl (Nat.le_of_ble_eq_true rfl) rfl dX3_turn_9 (fun H locs hw => ?_)
  exact hR _ _ (pt F a0 1 (((F a0 1) + x1) &&& (3 : Int32)), L, r) _ _ dX3_turn_12 hh hw
theorem ctX3_turn (l : Launch) (D : va_G) (h : Nat → Nat) (cI cL cF cM : ClassId) (a0 : Nat) (ha0 : kd a0 = 3) (F : Nat → Nat → Int32) (L : Nat → Nat → Int64) (r : Nat → Nat → Nat) (x1 : Int32) {K : cS → Prop} (hh : wpX3_turn a0 F L r x1 K) : Cv l yX3_turn wsX3_turn rmX3_turn [.ref (h a0), .int x1] D (cT cI cL cF cM) (cWu h cI cL cF cM) (F, L, r) K := by
  refine Cv_of (cc := cX3_turn) (maxL := 2) (by decide) rfl (Nat.le_of_ble_eq_true rfl) ?_
  intro p e s m below meth c A Q C hw hR ls hl
  exact tX3_turn_b0 C hR ha0 hh hw hl
theorem cdX3_turn : yX3_turn.cls = RX3 ∧ yX3_turn.cls ≠ "java/lang/invoke/MethodHandle" ∧ yX3_turn.cls ≠ "java/lang/invoke/VarHandle" ∧ (parseMethodDescriptor yX3_turn.desc).map (fun d => d.parameters.length) = some 1 := by decide +kernel
abbrev rmX3_markWay : Room := { frames := 0, cells := 0, slots := 0, locals := 0 }
set_option maxHeartbeats 4000000 in
set_option maxRecDepth 100000 in
theorem tX3_markWay_b68 {a0 : Nat} {K : cS → Prop} (C : CallFix p m c cX3_markWay 3 s args wsX3_markWay RX3) (hR : Rtv p l e rmX3_markWay s m args below meth c cX3_markWay D A (cT cI cL cF cM) (cWu h cI cL cF cM) K Q) (ha0 : kd a0 = 3) {F : Nat → Nat → Int32} {L : Nat → Nat → Int64} {r : Nat → Nat → Nat} {k1 : Int64} (hh : wpX3_markWay_b68 a0 F L r k1 K) {H : Heap} {locs : List Loc} {ls : Array Slot} (hw : Wd D A s (cT cI cL cF cM) (cW h cI cL cF cM F L r) H locs) (hl : lv_has ls 3 [(0, .ref (h a0))]) : W p l e rmX3_markWay s m args below meth c H locs 0 0 Q (F0 m 68 ls [.long k1, .ref (h a0)]) := by
  unfold wpX3_markWay_b68 at hh
  refine c_putl C hw (inC inW3) tyX3 tyX3_ok nmX3 (kd_lt ha0 (by decide)) (ce3 ha0) rfl 5 (by decide) (wc w_404) rfl (by decide +kernel) (Nat.le_of_ble_eq_true rfl) rfl dX3_markWay_68 (fun H locs hw => ?_)
  exact hR _ _ (F, ptL L a0 5 k1, r) _ _ dX3_markWay_71 hh hw
set_option maxHeartbeats 4000000 in
set_option maxRecDepth 100000 in
theorem tX3_markWay_b36 {a0 : Nat} {K : cS → Prop} (C : CallFix p m c cX3_markWay 3 s args wsX3_markWay RX3) (hR : Rtv p l e rmX3_markWay s m args below meth c cX3_markWay D A (cT cI cL cF cM) (cWu h cI cL cF cM) K Q) (ha0 : kd a0 = 3) {F : Nat → Nat → Int32} {L : Nat → Nat → Int64} {r : Nat → Nat → Nat} {k1 : Int64} {x1 : Int64} (hh : wpX3_markWay_b36 a0 F L r k1 x1 K) {H : Heap} {locs : List Loc} {ls : Array Slot} (hw : Wd D A s (cT cI cL cF cM) (cW h cI cL cF cM F L r) H locs) (hl : lv_has ls 3 [(0, .ref (h a0)), (1, .long x1)]) : W p l e rmX3_markWay s m args below meth c H locs 0 0 Q (F0 m 36 ls [.long k1, .ref (h a0)]) := by
  unfold wpX3_markWay_b36 at hh
  refine c_putl C hw (inC inW3) tyX3 tyX3_ok nmX3 (kd_lt ha0 (by decide)) (ce3 ha0) rfl 4 (by decide) (wc w_403) rfl (by decide +kernel) (Nat.le_of_ble_eq_true rfl) rfl dX3_markWay_36 (fun H locs hw => ?_)
  refine lv_aload_n C.1 C.2.1 dX3_markWay_39 rfl (lv_at hl 0 rfl) ?_
  refine lv_aload_n C.1 C.2.1 dX3_markWay_40 rfl (lv_at hl 0 rfl) ?_
  refine c_get C hw (inC inW3) (kd_lt ha0 (by decide)) (ce3 ha0) rfl 1 (by decide) (wc w_396) (v := .int (F a0 1)) rfl dX3_markWay_41 ?_
  refine lv_iconst (v := (2 : Int32)) C.1 C.2.1 dX3_markWay_44 (by decide) ?_
  refine lv_iand C.1 C.2.1 dX3_markWay_45 ?_
  refine lv_if_eq (tgt := 58) C.1 C.2.1 dX3_markWay_46 (by decide) (fun c46 => ?_) (fun c46 => ?_)
  · replace hh := hh.1 c46
    refine lv_aload_n C.1 C.2.1 dX3_markWay_58 rfl (lv_at hl 0 rfl) ?_
    refine c_get C hw (inC inW3) (kd_lt ha0 (by decide)) (ce3 ha0) rfl 5 (by decide) (wc w_404) (v := .long ((ptL L a0 4 k1) a0 5)) rfl dX3_markWay_59 ?_
    refine lv_lload_n C.1 C.2.1 dX3_markWay_62 rfl (lv_at hl 1 rfl) ?_
    refine lv_ldc2 C.1 C.2.1 C.2.2.2.1 (C.2.2.2.2 _ (wc w_1025)) dX3_markWay_63 ?_
    refine lv_lxor C.1 C.2.1 dX3_markWay_66 ?_
    refine lv_land C.1 C.2.1 dX3_markWay_67 ?_
    exact tX3_markWay_b68 C hR ha0 hh hw (lv_sub hl [0] rfl)
  · replace hh := hh.2 c46
    refine lv_aload_n C.1 C.2.1 dX3_markWay_49 rfl (lv_at hl 0 rfl) ?_
    refine c_get C hw (inC inW3) (kd_lt ha0 (by decide)) (ce3 ha0) rfl 5 (by decide) (wc w_404) (v := .long ((ptL L a0 4 k1) a0 5)) rfl dX3_markWay_50 ?_
    refine lv_lload_n C.1 C.2.1 dX3_markWay_53 rfl (lv_at hl 1 rfl) ?_
    refine lv_lor C.1 C.2.1 dX3_markWay_54 ?_
    refine lv_goto (tgt := 68) C.1 C.2.1 dX3_markWay_55 (by decide) ?_
    exact tX3_markWay_b68 C hR ha0 hh hw (lv_sub hl [0] rfl)
set_option maxHeartbeats 4000000 in
set_option maxRecDepth 100000 in
theorem tX3_markWay_b0 {a0 : Nat} {K : cS → Prop} (C : CallFix p m c cX3_markWay 3 s args wsX3_markWay RX3) (hR : Rtv p l e rmX3_markWay s m args below meth c cX3_markWay D A (cT cI cL cF cM) (cWu h cI cL cF cM) K Q) (ha0 : kd a0 = 3) {F : Nat → Nat → Int32} {L : Nat → Nat → Int64} {r : Nat → Nat → Nat} (hh : wpX3_markWay_b0 a0 F L r K) {H : Heap} {locs : List Loc} {ls : Array Slot} (hw : Wd D A s (cT cI cL cF cM) (cW h cI cL cF cM F L r) H locs) (hl : lv_has ls 3 [(0, .ref (h a0))]) : W p l e rmX3_markWay s m args below meth c H locs 0 0 Q (F0 m 0 ls []) := by
  unfold wpX3_markWay_b0 at hh
  refine lv_lconst (v := (1 : Int64)) C.1 C.2.1 dX3_markWay_0 (by decide) ?_
  refine lv_aload_n C.1 C.2.1 dX3_markWay_1 rfl (lv_at hl 0 rfl) ?_
  refine c_get C hw (inC inW3) (kd_lt ha0 (by decide)) (ce3 ha0) rfl 0 (by decide) (wc w_392) (v := .int (F a0 0)) rfl dX3_markWay_2 ?_
  refine lv_lshl (v := jlshl (1 : Int64) (F a0 0)) C.1 C.2.1 dX3_markWay_5 rfl ?_
  refine lv_lstore_n (lv' := [(1, .long (jlshl (1 : Int64) (F a0 0))), (0, .ref (h a0))]) C.1 C.2.1 dX3_markWay_6 rfl hl (by decide) rfl (fun ls hl => ?_)
  refine lv_aload_n C.1 C.2.1 dX3_markWay_7 rfl (lv_at hl 1 rfl) ?_
  refine lv_aload_n C.1 C.2.1 dX3_markWay_8 rfl (lv_at hl 1 rfl) ?_
  refine c_get C hw (inC inW3) (kd_lt ha0 (by decide)) (ce3 ha0) rfl 1 (by decide) (wc w_396) (v := .int (F a0 1)) rfl dX3_markWay_9 ?_
  refine lv_iconst (v := (1 : Int32)) C.1 C.2.1 dX3_markWay_12 (by decide) ?_
  refine lv_iand C.1 C.2.1 dX3_markWay_13 ?_
  refine lv_if_eq (tgt := 26) C.1 C.2.1 dX3_markWay_14 (by decide) (fun c14 => ?_) (fun c14 => ?_)
  · replace hh := hh.1 c14
    refine lv_aload_n C.1 C.2.1 dX3_markWay_26 rfl (lv_at hl 1 rfl) ?_
    refine c_get C hw (inC inW3) (kd_lt ha0 (by decide)) (ce3 ha0) rfl 4 (by decide) (wc w_403) (v := .long (L a0 4)) rfl dX3_markWay_27 ?_
    refine lv_lload_n C.1 C.2.1 dX3_markWay_30 rfl (lv_at hl 0 rfl) ?_
    refine lv_ldc2 C.1 C.2.1 C.2.2.2.1 (C.2.2.2.2 _ (wc w_1025)) dX3_markWay_31 ?_
    refine lv_lxor C.1 C.2.1 dX3_markWay_34 ?_
    refine lv_land C.1 C.2.1 dX3_markWay_35 ?_
    exact tX3_markWay_b36 C hR ha0 hh hw (lv_sub hl [1, 0] rfl)
  · replace hh := hh.2 c14
    refine lv_aload_n C.1 C.2.1 dX3_markWay_17 rfl (lv_at hl 1 rfl) ?_
    refine c_get C hw (inC inW3) (kd_lt ha0 (by decide)) (ce3 ha0) rfl 4 (by decide) (wc w_403) (v := .long (L a0 4)) rfl dX3_markWay_18 ?_
    refine lv_lload_n C.1 C.2.1 dX3_markWay_21 rfl (lv_at hl 0 rfl) ?_
    refine lv_lor C.1 C.2.1 dX3_markWay_22 ?_
    refine lv_goto (tgt := 36) C.1 C.2.1 dX3_markWay_23 (by decide) ?_
    exact tX3_markWay_b36 C hR ha0 hh hw (lv_sub hl [1, 0] rfl)
theorem ctX3_markWay (l : Launch) (D : va_G) (h : Nat → Nat) (cI cL cF cM : ClassId) (a0 : Nat) (ha0 : kd a0 = 3) (F : Nat → Nat → Int32) (L : Nat → Nat → Int64) (r : Nat → Nat → Nat) {K : cS → Prop} (hh : wpX3_markWay a0 F L r K) : Cv l yX3_markWay wsX3_markWay rmX3_markWay [.ref (h a0)] D (cT cI cL cF cM) (cWu h cI cL cF cM) (F, L, r) K := by
  refine Cv_of (cc := cX3_markWay) (maxL := 3) (by decide) rfl (Nat.le_of_ble_eq_true rfl) ?_
  intro p e s m below meth c A Q C hw hR ls hl
  exact tX3_markWay_b0 C hR ha0 hh hw hl
theorem cdX3_markWay : yX3_markWay.cls = RX3 ∧ yX3_markWay.cls ≠ "java/lang/invoke/MethodHandle" ∧ yX3_markWay.cls ≠ "java/lang/invoke/VarHandle" ∧ (parseMethodDescriptor yX3_markWay.desc).map (fun d => d.parameters.length) = some 0 := by decide +kernel
abbrev rmX3_advance : Room := { frames := 0, cells := 0, slots := 0, locals := 0 }
set_option maxHeartbeats 4000000 in
set_option maxRecDepth 100000 in
theorem tX3_advance_b50 {a0 : Nat} {a1 : Nat} {K : cS → Prop} (C : CallFix p m c cX3_advance 3 s args wsX3_advance RX3) (hR : Rtv p l e rmX3_advance s m args below meth c cX3_advance D A (cT cI cL cF cM) (cWu h cI cL cF cM) K Q) (ha0 : kd a0 = 3) (ha1 : kd a1 = 1) {F : Nat → Nat → Int32} {L : Nat → Nat → Int64} {r : Nat → Nat → Nat} (hh : wpX3_advance_b50 a0 a1 F L r K) {H : Heap} {locs : List Loc} {ls : Array Slot} (hw : Wd D A s (cT cI cL cF cM) (cW h cI cL cF cM F L r) H locs) (hl : lv_has ls 3 [(0, .ref (h a0))]) : W p l e rmX3_advance s m args below meth c H locs 0 0 Q (F0 m 50 ls []) := by
  unfold wpX3_advance_b50 at hh
  exact hR _ _ (F, L, r) _ _ dX3_advance_50 hh hw
set_option maxHeartbeats 4000000 in
set_option maxRecDepth 100000 in
theorem tX3_advance_b0 {a0 : Nat} {a1 : Nat} {K : cS → Prop} (C : CallFix p m c cX3_advance 3 s args wsX3_advance RX3) (hR : Rtv p l e rmX3_advance s m args below meth c cX3_advance D A (cT cI cL cF cM) (cWu h cI cL cF cM) K Q) (ha0 : kd a0 = 3) (ha1 : kd a1 = 1) {F : Nat → Nat → Int32} {L : Nat → Nat → Int64} {r : Nat → Nat → Nat} (hh : wpX3_advance_b0 a0 a1 F L r K) {H : Heap} {locs : List Loc} {ls : Array Slot} (hw : Wd D A s (cT cI cL cF cM) (cW h cI cL cF cM F L r) H locs) (hl : lv_has ls 3 [(0, .ref (h a0)), (1, .ref (h a1))]) : W p l e rmX3_advance s m args below meth c H locs 0 0 Q (F0 m 0 ls []) := by
  unfold wpX3_advance_b0 at hh
  refine lv_aload_n C.1 C.2.1 dX3_advance_0 rfl (lv_at hl 0 rfl) ?_
  refine c_get C hw (inC inW3) (kd_lt ha0 (by decide)) (ce3 ha0) rfl 1 (by decide) (wc w_396) (v := .int (F a0 1)) rfl dX3_advance_1 ?_
  refine lv_iconst (v := (3 : Int32)) C.1 C.2.1 dX3_advance_4 (by decide) ?_
  refine lv_iand C.1 C.2.1 dX3_advance_5 ?_
  refine lv_istore_n (lv' := [(2, .int ((F a0 1) &&& (3 : Int32))), (0, .ref (h a0)), (1, .ref (h a1))]) C.1 C.2.1 dX3_advance_6 rfl hl (by decide) rfl (fun ls hl => ?_)
  refine lv_aload_n C.1 C.2.1 dX3_advance_7 rfl (lv_at hl 2 rfl) ?_
  refine c_get C hw (inC inW1) (kd_lt ha1 (by decide)) (ce1 ha1) rfl 4 (by decide) (wc w_366) (v := .ref (h (a1 + 1))) rfl dX3_advance_8 ?_
  refine lv_iload_n C.1 C.2.1 dX3_advance_11 rfl (lv_at hl 0 rfl) ?_
  obtain ⟨hi12, hh⟩ := hh
  refine c_lal C hw (kd_lt (kd1_1 ha1) (by decide)) (ce22 (kd1_1 ha1)) hi12 dX3_advance_12 ?_
  refine lv_aload_n C.1 C.2.1 dX3_advance_13 rfl (lv_at hl 1 rfl) ?_
  refine c_get C hw (inC inW3) (kd_lt ha0 (by decide)) (ce3 ha0) rfl 0 (by decide) (wc w_392) (v := .int (F a0 0)) rfl dX3_advance_14 ?_
  refine lv_lushr (v := jlushr (L (a1 + 1) (ix ((F a0 1) &&& (3 : Int32)))) (F a0 0)) C.1 C.2.1 dX3_advance_17 rfl ?_
  refine lv_lconst (v := (1 : Int64)) C.1 C.2.1 dX3_advance_18 (by decide) ?_
  refine lv_land C.1 C.2.1 dX3_advance_19 ?_
  refine lv_lconst (v := (0 : Int64)) C.1 C.2.1 dX3_advance_20 (by decide) ?_
  refine W.lcmp C.1 C.2.1 dX3_advance_21 ?_
  refine lv_if_ne (tgt := 50) C.1 C.2.1 dX3_advance_22 (by decide) (fun c22 => ?_) (fun c22 => ?_)
  · replace hh := hh.1 c22
    exact tX3_advance_b50 C hR ha0 ha1 hh hw (lv_sub hl [1] rfl)
  · replace hh := hh.2 c22
    refine lv_aload_n C.1 C.2.1 dX3_advance_25 rfl (lv_at hl 1 rfl) ?_
    refine lv_dup C.1 C.2.1 dX3_advance_26 rfl ?_
    refine c_get C hw (inC inW3) (kd_lt ha0 (by decide)) (ce3 ha0) rfl 0 (by decide) (wc w_392) (v := .int (F a0 0)) rfl dX3_advance_27 ?_
    refine lv_aload_n C.1 C.2.1 dX3_advance_30 rfl (lv_at hl 2 rfl) ?_
    refine c_get C hw (inC inW1) (kd_lt ha1 (by decide)) (ce1 ha1) rfl 5 (by decide) (wc w_368) (v := .ref (h (a1 + 2))) rfl dX3_advance_31 ?_
    refine lv_iload_n C.1 C.2.1 dX3_advance_34 rfl (lv_at hl 0 rfl) ?_
    obtain ⟨hi35, hh⟩ := hh
    refine c_ial C hw (kd_lt (kd1_2 ha1) (by decide)) (ce12 (kd1_2 ha1)) hi35 dX3_advance_35 ?_
    refine lv_iadd C.1 C.2.1 dX3_advance_36 ?_
    refine c_puti C hw (inC inW3) tyX3 tyX3_ok nmX3 (kd_lt ha0 (by decide)) (ce3 ha0) rfl 0 (by decide) (wc w_392) rfl (ty := .int) (by decide +kernel) rfl rfl (Nat.le_of_ble_eq_true rfl) rfl dX3_advance_37 (fun H locs hw => ?_)
    refine lv_aload_n C.1 C.2.1 dX3_advance_40 rfl (lv_at hl 1 rfl) ?_
    refine lv_dup C.1 C.2.1 dX3_advance_41 rfl ?_
    refine c_get C hw (inC inW3) (kd_lt ha0 (by decide)) (ce3 ha0) rfl 7 (by decide) (wc w_407) (v := .int ((pt F a0 0 ((F a0 0) + (F (a1 + 2) (ix ((F a0 1) &&& (3 : Int32)))))) a0 7)) rfl dX3_advance_42 ?_
    refine lv_iconst (v := (1 : Int32)) C.1 C.2.1 dX3_advance_45 (by decide) ?_
    refine lv_iadd C.1 C.2.1 dX3_advance_46 ?_
    refine c_puti C hw (inC inW3) tyX3 tyX3_ok nmX3 (kd_lt ha0 (by decide)) (ce3 ha0) rfl 7 (by decide) (wc w_407) rfl (ty := .int) (by decide +kernel) rfl rfl (Nat.le_of_ble_eq_true rfl) rfl dX3_advance_47 (fun H locs hw => ?_)
    exact tX3_advance_b50 C hR ha0 ha1 hh hw (lv_sub hl [1] rfl)
theorem ctX3_advance (l : Launch) (D : va_G) (h : Nat → Nat) (cI cL cF cM : ClassId) (a0 : Nat) (a1 : Nat) (ha0 : kd a0 = 3) (ha1 : kd a1 = 1) (F : Nat → Nat → Int32) (L : Nat → Nat → Int64) (r : Nat → Nat → Nat) {K : cS → Prop} (hh : wpX3_advance a0 a1 F L r K) : Cv l yX3_advance wsX3_advance rmX3_advance [.ref (h a0), .ref (h a1)] D (cT cI cL cF cM) (cWu h cI cL cF cM) (F, L, r) K := by
  refine Cv_of (cc := cX3_advance) (maxL := 3) (by decide) rfl (Nat.le_of_ble_eq_true rfl) ?_
  intro p e s m below meth c A Q C hw hR ls hl
  exact tX3_advance_b0 C hR ha0 ha1 hh hw hl
theorem cdX3_advance : yX3_advance.cls = RX3 ∧ yX3_advance.cls ≠ "java/lang/invoke/MethodHandle" ∧ yX3_advance.cls ≠ "java/lang/invoke/VarHandle" ∧ (parseMethodDescriptor yX3_advance.desc).map (fun d => d.parameters.length) = some 1 := by decide +kernel
end
