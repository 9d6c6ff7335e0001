section
variable {p : Program} {l : Launch} {e : Env} {s : State} {m : MethodId} {args : Array Value} {below : List Frame} {meth : Method} {c : Code} {D : va_G} {A : Nat → Prop} {o : Nat} {h : Nat → Nat} {cI cZ : ClassId} {Q : State → Prop}
abbrev rmX11_keep : Room := { frames := 1, cells := 0, slots := 0, locals := 23 }
set_option maxHeartbeats 4000000 in
set_option maxRecDepth 100000 in
theorem tX11_keep_b0 {K : Int32 → ((Nat → Int32) × (Nat → Nat → Int32)) → Prop} (C : CallFix p m c cX11_keep 2 s args wsX11_keep RX11) (hR : Rti .boolean p l e rmX11_keep s m args below meth c cX11_keep D A (mT cI cZ) (mWu o h cI cZ) K Q) {f : Nat → Int32} {g : Nat → Nat → Int32} {x1 : Int32} (hh : wpX11_keep_b0 f g x1 K) {H : Heap} {locs : List Loc} {ls : Array Slot} (hw : Wd D A s (mT cI cZ) (mW o h cI cZ f g) H locs) (hl : lv_has ls 2 [(0, .ref o), (1, .int x1)]) : W p l e rmX11_keep s m args below meth c H locs 0 0 Q (F0 m 0 ls []) := by
  unfold wpX11_keep_b0 at hh
  refine lv_aload_n C.1 C.2.1 dX11_keep_0 rfl (lv_at hl 0 rfl) ?_
  refine lv_iconst (v := (0 : Int32)) C.1 C.2.1 dX11_keep_1 (by decide) ?_
  refine m_pi C hw (inC inW11) 2 (by decide) (wc w_1464) rfl (ty := .int) (by decide +kernel) rfl rfl (Nat.le_of_ble_eq_true rfl) ms_2 dX11_keep_2 (fun H locs hw => ?_)
  refine lv_iload_n C.1 C.2.1 dX11_keep_5 rfl (lv_at hl 1 rfl) ?_
  refine lv_iconst (v := (0 : Int32)) C.1 C.2.1 dX11_keep_6 (by decide) ?_
  refine lv_iconst (v := (3 : Int32)) C.1 C.2.1 dX11_keep_7 (by decide) ?_
  refine wd_Si C hw (ctX11_isIn l D x1 (0 : Int32) (3 : Int32) hh) (va_cwS 3 C.2.2.2.2 (gd_S w_1804 w_1805 (ini_cls rfl w_125) w_1806) rfl rfl rfl cdX11_isIn ⟨Nat.le_of_ble_eq_true rfl, Nat.le_of_ble_eq_true rfl⟩) rfl hl.1 (Nat.le_of_ble_eq_true rfl) dX11_keep_8 ⟨Nat.zero_le _, Nat.zero_le _⟩ (fun r8 H locs hh hw => ?_) rfl
  refine lv_if_ne (tgt := 16) C.1 C.2.1 dX11_keep_11 (by decide) (fun c11 => ?_) (fun c11 => ?_)
  · replace hh := hh.1 c11
    refine lv_aload_n C.1 C.2.1 dX11_keep_16 rfl (lv_at hl 0 rfl) ?_
    refine lv_iload_n C.1 C.2.1 dX11_keep_17 rfl (lv_at hl 1 rfl) ?_
    refine m_Vv C hw (ctX11_puts l D o h cI cZ (upd f 2 (0 : Int32)) g x1 hh) (cwV 1 C.2.2.2.2 (gd_V w_1894 w_1896 w_91 w_125 w_1897) rfl rfl rfl cdX11_puts ⟨Nat.le_of_ble_eq_true rfl, Nat.le_of_ble_eq_true rfl⟩) rfl hl.1 (Nat.le_of_ble_eq_true rfl) dX11_keep_18 ⟨Nat.zero_le _, Nat.zero_le _⟩ (fun u18 H locs hh hw => ?_) rfl
    refine lv_aload_n C.1 C.2.1 dX11_keep_21 rfl (lv_at hl 0 rfl) ?_
    refine m_ga C hw (inC inW11) 56 (by decide) (wc w_1518) mg_56 dX11_keep_22 ?_
    refine lv_iload_n C.1 C.2.1 dX11_keep_25 rfl (lv_at hl 1 rfl) ?_
    refine lv_iconst (v := (1 : Int32)) C.1 C.2.1 dX11_keep_26 (by decide) ?_
    obtain ⟨hi27, hh⟩ := hh
    refine m_zas C hw mp_56 mq_56 hi27 dX11_keep_27 (fun H locs hw => ?_)
    refine lv_iconst (v := (1 : Int32)) C.1 C.2.1 dX11_keep_28 (by decide) ?_
    exact hR _ _ _ (u18.1, pt u18.2 56 (ix x1) (vp_nar .boolean (1 : Int32))) _ _ dX11_keep_29 rfl hh hw
  · replace hh := hh.2 c11
    refine lv_iconst (v := (0 : Int32)) C.1 C.2.1 dX11_keep_14 (by decide) ?_
    exact hR _ _ _ (upd f 2 (0 : Int32), g) _ _ dX11_keep_15 rfl hh hw
theorem ctX11_keep (l : Launch) (D : va_G) (o : Nat) (h : Nat → Nat) (cI cZ : ClassId) (f : Nat → Int32) (g : Nat → Nat → Int32) (x1 : Int32) {K : Int32 → ((Nat → Int32) × (Nat → Nat → Int32)) → Prop} (hh : wpX11_keep f g x1 K) : Ci l yX11_keep wsX11_keep rmX11_keep [.ref o, .int x1] D (mT cI cZ) (mWu o h cI cZ) (f, g) K := by
  refine Ci_of (cc := cX11_keep) (maxL := 2) (by decide) rfl (Nat.le_of_ble_eq_true rfl) ?_
  intro p e s m below meth c A Q C hw hR ls hl
  exact tX11_keep_b0 C hR hh hw hl
theorem cdX11_keep : yX11_keep.cls = RX11 ∧ yX11_keep.cls ≠ "java/lang/invoke/MethodHandle" ∧ yX11_keep.cls ≠ "java/lang/invoke/VarHandle" ∧ (parseMethodDescriptor yX11_keep.desc).map (fun d => d.parameters.length) = some 1 := by decide +kernel
abbrev rmX11_restore : Room := { frames := 1, cells := 0, slots := 0, locals := 23 }
set_option maxHeartbeats 4000000 in
set_option maxRecDepth 100000 in
theorem tX11_restore_b23 {K : Int32 → ((Nat → Int32) × (Nat → Nat → Int32)) → Prop} (C : CallFix p m c cX11_restore 2 s args wsX11_restore RX11) (hR : Rti .boolean p l e rmX11_restore s m args below meth c cX11_restore D A (mT cI cZ) (mWu o h cI cZ) K Q) {f : Nat → Int32} {g : Nat → Nat → Int32} (hh : wpX11_restore_b23 f g K) {H : Heap} {locs : List Loc} {ls : Array Slot} (hw : Wd D A s (mT cI cZ) (mW o h cI cZ f g) H locs) (hl : lv_has ls 2 [(0, .ref o)]) : W p l e rmX11_restore s m args below meth c H locs 0 0 Q (F0 m 23 ls []) := by
  unfold wpX11_restore_b23 at hh
  refine lv_iconst (v := (0 : Int32)) C.1 C.2.1 dX11_restore_23 (by decide) ?_
  exact hR _ _ _ (f, g) _ _ dX11_restore_24 rfl hh hw
set_option maxHeartbeats 4000000 in
set_option maxRecDepth 100000 in
theorem tX11_restore_b0 {K : Int32 → ((Nat → Int32) × (Nat → Nat → Int32)) → Prop} (C : CallFix p m c cX11_restore 2 s args wsX11_restore RX11) (hR : Rti .boolean p l e rmX11_restore s m args below meth c cX11_restore D A (mT cI cZ) (mWu o h cI cZ) K Q) {f : Nat → Int32} {g : Nat → Nat → Int32} {x1 : Int32} (hh : wpX11_restore_b0 f g x1 K) {H : Heap} {locs : List Loc} {ls : Array Slot} (hw : Wd D A s (mT cI cZ) (mW o h cI cZ f g) H locs) (hl : lv_has ls 2 [(0, .ref o), (1, .int x1)]) : W p l e rmX11_restore s m args below meth c H locs 0 0 Q (F0 m 0 ls []) := by
  unfold wpX11_restore_b0 at hh
  refine lv_aload_n C.1 C.2.1 dX11_restore_0 rfl (lv_at hl 0 rfl) ?_
  refine lv_iconst (v := (0 : Int32)) C.1 C.2.1 dX11_restore_1 (by decide) ?_
  refine m_pi C hw (inC inW11) 2 (by decide) (wc w_1464) rfl (ty := .int) (by decide +kernel) rfl rfl (Nat.le_of_ble_eq_true rfl) ms_2 dX11_restore_2 (fun H locs hw => ?_)
  refine lv_iload_n C.1 C.2.1 dX11_restore_5 rfl (lv_at hl 1 rfl) ?_
  refine lv_iconst (v := (0 : Int32)) C.1 C.2.1 dX11_restore_6 (by decide) ?_
  refine lv_iconst (v := (3 : Int32)) C.1 C.2.1 dX11_restore_7 (by decide) ?_
  refine wd_Si C hw (ctX11_isIn l D x1 (0 : Int32) (3 : Int32) hh) (va_cwS 3 C.2.2.2.2 (gd_S w_1804 w_1805 (ini_cls rfl w_125) w_1806) rfl rfl rfl cdX11_isIn ⟨Nat.le_of_ble_eq_true rfl, Nat.le_of_ble_eq_true rfl⟩) rfl hl.1 (Nat.le_of_ble_eq_true rfl) dX11_restore_8 ⟨Nat.zero_le _, Nat.zero_le _⟩ (fun r8 H locs hh hw => ?_) rfl
  refine lv_if_eq (tgt := 23) C.1 C.2.1 dX11_restore_11 (by decide) (fun c11 => ?_) (fun c11 => ?_)
  · replace hh := hh.1 c11
    exact tX11_restore_b23 C hR hh hw (lv_sub hl [0] rfl)
  · replace hh := hh.2 c11
    refine lv_aload_n C.1 C.2.1 dX11_restore_14 rfl (lv_at hl 0 rfl) ?_
    refine m_ga C hw (inC inW11) 56 (by decide) (wc w_1518) mg_56 dX11_restore_15 ?_
    refine lv_iload_n C.1 C.2.1 dX11_restore_18 rfl (lv_at hl 1 rfl) ?_
    obtain ⟨hi19, hh⟩ := hh
    refine m_zal C hw mp_56 (x := g 56 (ix x1)) hi19 rfl dX11_restore_19 ?_
    refine lv_if_ne (tgt := 25) C.1 C.2.1 dX11_restore_20 (by decide) (fun c20 => ?_) (fun c20 => ?_)
    · replace hh := hh.1 c20
      refine lv_aload_n C.1 C.2.1 dX11_restore_25 rfl (lv_at hl 0 rfl) ?_
      refine lv_iload_n C.1 C.2.1 dX11_restore_26 rfl (lv_at hl 1 rfl) ?_
      refine m_Vv C hw (ctX11_takes l D o h cI cZ (upd f 2 (0 : Int32)) g x1 hh) (cwV 1 C.2.2.2.2 (gd_V w_1902 w_1904 w_92 w_125 w_1905) rfl rfl rfl cdX11_takes ⟨Nat.le_of_ble_eq_true rfl, Nat.le_of_ble_eq_true rfl⟩) rfl hl.1 (Nat.le_of_ble_eq_true rfl) dX11_restore_27 ⟨Nat.zero_le _, Nat.zero_le _⟩ (fun u27 H locs hh hw => ?_) rfl
      refine lv_aload_n C.1 C.2.1 dX11_restore_30 rfl (lv_at hl 0 rfl) ?_
      refine lv_aload_n C.1 C.2.1 dX11_restore_31 rfl (lv_at hl 0 rfl) ?_
      refine m_gi C hw (inC inW11) 45 (by decide) (wc w_1507) mg_45 (x := u27.1 45) rfl dX11_restore_32 ?_
      refine lv_aload_n C.1 C.2.1 dX11_restore_35 rfl (lv_at hl 0 rfl) ?_
      refine m_gi C hw (inC inW11) 49 (by decide) (wc w_1511) mg_49 (x := u27.1 49) rfl dX11_restore_36 ?_
      refine lv_iconst (v := (-1 : Int32)) C.1 C.2.1 dX11_restore_39 (by decide) ?_
      refine lv_ixor C.1 C.2.1 dX11_restore_40 ?_
      refine lv_iand C.1 C.2.1 dX11_restore_41 ?_
      refine lv_aload_n C.1 C.2.1 dX11_restore_42 rfl (lv_at hl 0 rfl) ?_
      refine m_gi C hw (inC inW11) 49 (by decide) (wc w_1511) mg_49 (x := u27.1 49) rfl dX11_restore_43 ?_
      refine lv_aload_n C.1 C.2.1 dX11_restore_46 rfl (lv_at hl 0 rfl) ?_
      refine m_gi C hw (inC inW11) 50 (by decide) (wc w_1512) mg_50 (x := u27.1 50) rfl dX11_restore_47 ?_
      refine lv_iand C.1 C.2.1 dX11_restore_50 ?_
      refine lv_ior C.1 C.2.1 dX11_restore_51 ?_
      refine m_pi C hw (inC inW11) 45 (by decide) (wc w_1507) rfl (ty := .int) (by decide +kernel) rfl rfl (Nat.le_of_ble_eq_true rfl) ms_45 dX11_restore_52 (fun H locs hw => ?_)
      refine lv_iconst (v := (1 : Int32)) C.1 C.2.1 dX11_restore_55 (by decide) ?_
      exact hR _ _ _ (upd u27.1 45 (((u27.1 45) &&& ((u27.1 49) ^^^ (-1 : Int32))) ||| ((u27.1 49) &&& (u27.1 50))), u27.2) _ _ dX11_restore_56 rfl hh hw
    · replace hh := hh.2 c20
      exact tX11_restore_b23 C hR hh hw (lv_sub hl [0] rfl)
theorem ctX11_restore (l : Launch) (D : va_G) (o : Nat) (h : Nat → Nat) (cI cZ : ClassId) (f : Nat → Int32) (g : Nat → Nat → Int32) (x1 : Int32) {K : Int32 → ((Nat → Int32) × (Nat → Nat → Int32)) → Prop} (hh : wpX11_restore f g x1 K) : Ci l yX11_restore wsX11_restore rmX11_restore [.ref o, .int x1] D (mT cI cZ) (mWu o h cI cZ) (f, g) K := by
  refine Ci_of (cc := cX11_restore) (maxL := 2) (by decide) rfl (Nat.le_of_ble_eq_true rfl) ?_
  intro p e s m below meth c A Q C hw hR ls hl
  exact tX11_restore_b0 C hR hh hw hl
theorem cdX11_restore : yX11_restore.cls = RX11 ∧ yX11_restore.cls ≠ "java/lang/invoke/MethodHandle" ∧ yX11_restore.cls ≠ "java/lang/invoke/VarHandle" ∧ (parseMethodDescriptor yX11_restore.desc).map (fun d => d.parameters.length) = some 1 := by decide +kernel
abbrev rmX11_setDown : Room := { frames := 2, cells := 0, slots := 0, locals := 41 }
set_option maxHeartbeats 4000000 in
set_option maxRecDepth 100000 in
theorem tX11_setDown_b0 {K : ((Nat → Int32) × (Nat → Nat → Int32)) → Prop} (C : CallFix p m c cX11_setDown 2 s args wsX11_setDown RX11) (hR : Rtv p l e rmX11_setDown s m args below meth c cX11_setDown D A (mT cI cZ) (mWu o h cI cZ) K Q) {f : Nat → Int32} {g : Nat → Nat → Int32} {x1 : Int32} (hh : wpX11_setDown_b0 f g x1 K) {H : Heap} {locs : List Loc} {ls : Array Slot} (hw : Wd D A s (mT cI cZ) (mW o h cI cZ f g) H locs) (hl : lv_has ls 2 [(0, .ref o), (1, .int x1)]) : W p l e rmX11_setDown s m args below meth c H locs 0 0 Q (F0 m 0 ls []) := by
  unfold wpX11_setDown_b0 at hh
  refine lv_aload_n C.1 C.2.1 dX11_setDown_0 rfl (lv_at hl 0 rfl) ?_
  refine m_Vv C hw (ctX11_wipes l D o h cI cZ f g  hh) (cwV 0 C.2.2.2.2 (gd_V w_1846 w_1848 w_84 w_125 w_1849) rfl rfl rfl cdX11_wipes ⟨Nat.le_of_ble_eq_true rfl, Nat.le_of_ble_eq_true rfl⟩) rfl hl.1 (Nat.le_of_ble_eq_true rfl) dX11_setDown_1 ⟨Nat.zero_le _, Nat.zero_le _⟩ (fun u1 H locs hh hw => ?_) rfl
  refine lv_aload_n C.1 C.2.1 dX11_setDown_4 rfl (lv_at hl 0 rfl) ?_
  refine lv_iload_n C.1 C.2.1 dX11_setDown_5 rfl (lv_at hl 1 rfl) ?_
  refine m_pi C hw (inC inW11) 41 (by decide) (wc w_1503) rfl (ty := .int) (by decide +kernel) rfl rfl (Nat.le_of_ble_eq_true rfl) ms_41 dX11_setDown_6 (fun H locs hw => ?_)
  refine lv_aload_n C.1 C.2.1 dX11_setDown_9 rfl (lv_at hl 0 rfl) ?_
  refine lv_iconst (v := (0 : Int32)) C.1 C.2.1 dX11_setDown_10 (by decide) ?_
  refine m_pi C hw (inC inW11) 42 (by decide) (wc w_1504) rfl (ty := .int) (by decide +kernel) rfl rfl (Nat.le_of_ble_eq_true rfl) ms_42 dX11_setDown_11 (fun H locs hw => ?_)
  refine lv_aload_n C.1 C.2.1 dX11_setDown_14 rfl (lv_at hl 0 rfl) ?_
  refine lv_iconst (v := (0 : Int32)) C.1 C.2.1 dX11_setDown_15 (by decide) ?_
  refine m_pi C hw (inC inW11) 43 (by decide) (wc w_1505) rfl (ty := .int) (by decide +kernel) rfl rfl (Nat.le_of_ble_eq_true rfl) ms_43 dX11_setDown_16 (fun H locs hw => ?_)
  refine lv_aload_n C.1 C.2.1 dX11_setDown_19 rfl (lv_at hl 0 rfl) ?_
  refine lv_iconst (v := (0 : Int32)) C.1 C.2.1 dX11_setDown_20 (by decide) ?_
  refine m_pi C hw (inC inW11) 44 (by decide) (wc w_1506) rfl (ty := .int) (by decide +kernel) rfl rfl (Nat.le_of_ble_eq_true rfl) ms_44 dX11_setDown_21 (fun H locs hw => ?_)
  exact hR _ _ (upd (upd (upd (upd u1.1 41 x1) 42 (0 : Int32)) 43 (0 : Int32)) 44 (0 : Int32), u1.2) _ _ dX11_setDown_24 hh hw
theorem ctX11_setDown (l : Launch) (D : va_G) (o : Nat) (h : Nat → Nat) (cI cZ : ClassId) (f : Nat → Int32) (g : Nat → Nat → Int32) (x1 : Int32) {K : ((Nat → Int32) × (Nat → Nat → Int32)) → Prop} (hh : wpX11_setDown f g x1 K) : Cv l yX11_setDown wsX11_setDown rmX11_setDown [.ref o, .int x1] D (mT cI cZ) (mWu o h cI cZ) (f, g) K := by
  refine Cv_of (cc := cX11_setDown) (maxL := 2) (by decide) rfl (Nat.le_of_ble_eq_true rfl) ?_
  intro p e s m below meth c A Q C hw hR ls hl
  exact tX11_setDown_b0 C hR hh hw hl
theorem cdX11_setDown : yX11_setDown.cls = RX11 ∧ yX11_setDown.cls ≠ "java/lang/invoke/MethodHandle" ∧ yX11_setDown.cls ≠ "java/lang/invoke/VarHandle" ∧ (parseMethodDescriptor yX11_setDown.desc).map (fun d => d.parameters.length) = some 1 := by decide +kernel
abbrev rmX11_comes : Room := { frames := 6, cells := 0, slots := 0, locals := 130 }
set_option maxHeartbeats 4000000 in
set_option maxRecDepth 100000 in
theorem tX11_comes_b110 {K : Int32 → ((Nat → Int32) × (Nat → Nat → Int32)) → Prop} (C : CallFix p m c cX11_comes 5 s args wsX11_comes RX11) (hR : Rti .int p l e rmX11_comes s m args below meth c cX11_comes D A (mT cI cZ) (mWu o h cI cZ) K Q) {f : Nat → Int32} {g : Nat → Nat → Int32} {k0 : Int32} (hh : wpX11_comes_b110 f g k0 K) {H : Heap} {locs : List Loc} {ls : Array Slot} (hw : Wd D A s (mT cI cZ) (mW o h cI cZ f g) H locs) (hl : lv_has ls 5 [(0, .ref o)]) : W p l e rmX11_comes s m args below meth c H locs 0 0 Q (F0 m 110 ls [.int k0]) := by
  unfold wpX11_comes_b110 at hh
  exact hR _ _ _ (f, g) _ _ dX11_comes_110 rfl hh hw
set_option maxHeartbeats 4000000 in
set_option maxRecDepth 100000 in
theorem tX11_comes_b90 {B32 : (Nat → Int32) → (Nat → Nat → Int32) → Int32 → Int32 → Int32 → Int32 → Prop} {K : Int32 → ((Nat → Int32) × (Nat → Nat → Int32)) → Prop} (C : CallFix p m c cX11_comes 5 s args wsX11_comes RX11) (hR : Rti .int p l e rmX11_comes s m args below meth c cX11_comes D A (mT cI cZ) (mWu o h cI cZ) K Q) (hB32 : ∀ (f : Nat → Int32) (g : Nat → Nat → Int32) (x1 : Int32) (x2 : Int32) (x3 : Int32) (x4 : Int32) (H : Heap) (locs : List Loc) (ls : Array Slot), B32 f g x1 x2 x3 x4 → Wd D A s (mT cI cZ) (mW o h cI cZ f g) H locs → lv_has ls 5 [(0, .ref o), (1, .int x1), (2, .int x2), (3, .int x3), (4, .int x4)] → W p l e rmX11_comes s m args below meth c H locs 0 0 Q (F0 m 32 ls [])) {f : Nat → Int32} {g : Nat → Nat → Int32} {x1 : Int32} {x2 : Int32} {x3 : Int32} {x4 : Int32} (hh : wpX11_comes_b90 B32 f g x1 x2 x3 x4 K) {H : Heap} {locs : List Loc} {ls : Array Slot} (hw : Wd D A s (mT cI cZ) (mW o h cI cZ f g) H locs) (hl : lv_has ls 5 [(0, .ref o), (1, .int x1), (2, .int x2), (3, .int x3), (4, .int x4)]) : W p l e rmX11_comes s m args below meth c H locs 0 0 Q (F0 m 90 ls []) := by
  unfold wpX11_comes_b90 at hh
  refine lv_iinc (v := x4 + (1 : Int32)) (lv' := [(4, .int (x4 + (1 : Int32))), (0, .ref o), (1, .int x1), (2, .int x2), (3, .int x3)]) C.1 C.2.1 dX11_comes_90 hl (k := 4) rfl rfl (by decide) rfl (fun ls hl => ?_)
  refine lv_goto (tgt := 32) C.1 C.2.1 dX11_comes_93 (by decide) ?_
  exact hB32 _ _ _ _ _ _ _ _ _ hh hw (lv_sub hl [1, 2, 3, 4, 0] rfl)
set_option maxHeartbeats 4000000 in
set_option maxRecDepth 100000 in
theorem tX11_comes_b86 {B32 : (Nat → Int32) → (Nat → Nat → Int32) → Int32 → Int32 → Int32 → Int32 → Prop} {K : Int32 → ((Nat → Int32) × (Nat → Nat → Int32)) → Prop} (C : CallFix p m c cX11_comes 5 s args wsX11_comes RX11) (hR : Rti .int p l e rmX11_comes s m args below meth c cX11_comes D A (mT cI cZ) (mWu o h cI cZ) K Q) (hB32 : ∀ (f : Nat → Int32) (g : Nat → Nat → Int32) (x1 : Int32) (x2 : Int32) (x3 : Int32) (x4 : Int32) (H : Heap) (locs : List Loc) (ls : Array Slot), B32 f g x1 x2 x3 x4 → Wd D A s (mT cI cZ) (mW o h cI cZ f g) H locs → lv_has ls 5 [(0, .ref o), (1, .int x1), (2, .int x2), (3, .int x3), (4, .int x4)] → W p l e rmX11_comes s m args below meth c H locs 0 0 Q (F0 m 32 ls [])) {f : Nat → Int32} {g : Nat → Nat → Int32} {k0 : Int32} {x1 : Int32} {x2 : Int32} {x4 : Int32} (hh : wpX11_comes_b86 B32 f g k0 x1 x2 x4 K) {H : Heap} {locs : List Loc} {ls : Array Slot} (hw : Wd D A s (mT cI cZ) (mW o h cI cZ f g) H locs) (hl : lv_has ls 5 [(0, .ref o), (1, .int x1), (2, .int x2), (4, .int x4)]) : W p l e rmX11_comes s m args below meth c H locs 0 0 Q (F0 m 86 ls [.int k0]) := by
  unfold wpX11_comes_b86 at hh
  refine lv_istore_n (lv' := [(3, .int k0), (0, .ref o), (1, .int x1), (2, .int x2), (4, .int x4)]) C.1 C.2.1 dX11_comes_86 rfl hl (by decide) rfl (fun ls hl => ?_)
  refine lv_iinc (v := x2 + (1 : Int32)) (lv' := [(2, .int (x2 + (1 : Int32))), (3, .int k0), (0, .ref o), (1, .int x1), (4, .int x4)]) C.1 C.2.1 dX11_comes_87 hl (k := 3) rfl rfl (by decide) rfl (fun ls hl => ?_)
  exact tX11_comes_b90 C hR hB32 hh hw (lv_sub hl [2, 3, 0, 1, 4] rfl)
set_option maxHeartbeats 4000000 in
set_option maxRecDepth 100000 in
theorem tX11_comes_b32_body {B32 : (Nat → Int32) → (Nat → Nat → Int32) → Int32 → Int32 → Int32 → Int32 → Prop} {K : Int32 → ((Nat → Int32) × (Nat → Nat → Int32)) → Prop} (C : CallFix p m c cX11_comes 5 s args wsX11_comes RX11) (hR : Rti .int p l e rmX11_comes s m args below meth c cX11_comes D A (mT cI cZ) (mWu o h cI cZ) K Q) (hB32 : ∀ (f : Nat → Int32) (g : Nat → Nat → Int32) (x1 : Int32) (x2 : Int32) (x3 : Int32) (x4 : Int32) (H : Heap) (locs : List Loc) (ls : Array Slot), B32 f g x1 x2 x3 x4 → Wd D A s (mT cI cZ) (mW o h cI cZ f g) H locs → lv_has ls 5 [(0, .ref o), (1, .int x1), (2, .int x2), (3, .int x3), (4, .int x4)] → W p l e rmX11_comes s m args below meth c H locs 0 0 Q (F0 m 32 ls [])) {f : Nat → Int32} {g : Nat → Nat → Int32} {x1 : Int32} {x2 : Int32} {x3 : Int32} {x4 : Int32} (hh : wpX11_comes_b32_body B32 f g x1 x2 x3 x4 K) {H : Heap} {locs : List Loc} {ls : Array Slot} (hw : Wd D A s (mT cI cZ) (mW o h cI cZ f g) H locs) (hl : lv_has ls 5 [(0, .ref o), (1, .int x1), (2, .int x2), (3, .int x3), (4, .int x4)]) : W p l e rmX11_comes s m args below meth c H locs 0 0 Q (F0 m 32 ls []) := by
  unfold wpX11_comes_b32_body at hh
  refine lv_iload C.1 C.2.1 dX11_comes_32 (lv_at hl 4 rfl) ?_
  refine lv_aload_n C.1 C.2.1 dX11_comes_34 rfl (lv_at hl 0 rfl) ?_
  refine m_Vi C hw (ctX11_squares l D o h cI cZ f g  hh) (cwV 0 C.2.2.2.2 (gd_V w_1454 w_1456 w_54 w_125 w_1457) rfl rfl rfl cdX11_squares ⟨Nat.le_of_ble_eq_true rfl, Nat.le_of_ble_eq_true rfl⟩) rfl hl.1 (Nat.le_of_ble_eq_true rfl) dX11_comes_35 ⟨Nat.zero_le _, Nat.zero_le _⟩ (fun r35 u35 H locs hh hw => ?_) rfl
  refine lv_icmp_ge (tgt := 96) C.1 C.2.1 dX11_comes_38 (by decide) (fun c38 => ?_) (fun c38 => ?_)
  · replace hh := hh.1 c38
    refine lv_aload_n C.1 C.2.1 dX11_comes_96 rfl (lv_at hl 0 rfl) ?_
    refine lv_iconst (v := (4 : Int32)) C.1 C.2.1 dX11_comes_97 (by decide) ?_
    refine m_Vv C hw (ctX11_takes l D o h cI cZ u35.1 u35.2 (4 : Int32) hh) (cwV 1 C.2.2.2.2 (gd_V w_1902 w_1904 w_92 w_125 w_1905) rfl rfl rfl cdX11_takes ⟨Nat.le_of_ble_eq_true rfl, Nat.le_of_ble_eq_true rfl⟩) rfl hl.1 (Nat.le_of_ble_eq_true rfl) dX11_comes_98 ⟨Nat.zero_le _, Nat.zero_le _⟩ (fun u98 H locs hh hw => ?_) rfl
    refine lv_iload_n C.1 C.2.1 dX11_comes_101 rfl (lv_at hl 1 rfl) ?_
    refine lv_if_ne (tgt := 109) C.1 C.2.1 dX11_comes_102 (by decide) (fun c102 => ?_) (fun c102 => ?_)
    · replace hh := hh.1 c102
      refine lv_iload_n C.1 C.2.1 dX11_comes_109 rfl (lv_at hl 3 rfl) ?_
      exact tX11_comes_b110 C hR hh hw (lv_sub hl [0] rfl)
    · replace hh := hh.2 c102
      refine lv_iload_n C.1 C.2.1 dX11_comes_105 rfl (lv_at hl 2 rfl) ?_
      refine lv_goto (tgt := 110) C.1 C.2.1 dX11_comes_106 (by decide) ?_
      exact tX11_comes_b110 C hR hh hw (lv_sub hl [0] rfl)
  · replace hh := hh.2 c38
    refine lv_aload_n C.1 C.2.1 dX11_comes_41 rfl (lv_at hl 0 rfl) ?_
    refine m_ga C hw (inC inW11) 54 (by decide) (wc w_1516) mg_54 dX11_comes_42 ?_
    refine lv_iload C.1 C.2.1 dX11_comes_45 (lv_at hl 4 rfl) ?_
    obtain ⟨hi47, hh⟩ := hh
    refine m_ial C hw mp_54 (x := u35.2 54 (ix x4)) hi47 rfl dX11_comes_47 ?_
    refine lv_iconst (v := (-1 : Int32)) C.1 C.2.1 dX11_comes_48 (by decide) ?_
    refine lv_icmp_ne (tgt := 55) C.1 C.2.1 dX11_comes_49 (by decide) (fun c49 => ?_) (fun c49 => ?_)
    · replace hh := hh.1 c49
      refine lv_aload_n C.1 C.2.1 dX11_comes_55 rfl (lv_at hl 0 rfl) ?_
      refine lv_iload C.1 C.2.1 dX11_comes_56 (lv_at hl 4 rfl) ?_
      refine m_Vv C hw (ctX11_setDown l D o h cI cZ u35.1 u35.2 x4 hh) (cwV 1 C.2.2.2.2 (gd_V w_1910 w_1912 w_93 w_125 w_1913) rfl rfl rfl cdX11_setDown ⟨Nat.le_of_ble_eq_true rfl, Nat.le_of_ble_eq_true rfl⟩) rfl hl.1 (Nat.le_of_ble_eq_true rfl) dX11_comes_58 ⟨Nat.zero_le _, Nat.zero_le _⟩ (fun u58 H locs hh hw => ?_) rfl
      refine lv_aload_n C.1 C.2.1 dX11_comes_61 rfl (lv_at hl 0 rfl) ?_
      refine lv_sipush (v := (2000 : Int32)) C.1 C.2.1 dX11_comes_62 (by decide) ?_
      refine m_Vi C hw (ctX11_comesIn l D o h cI cZ u58.1 u58.2 (2000 : Int32) hh) (cwV 1 C.2.2.2.2 (gd_V w_1914 w_1916 w_94 w_125 w_1917) rfl rfl rfl cdX11_comesIn ⟨Nat.le_of_ble_eq_true rfl, Nat.le_of_ble_eq_true rfl⟩) rfl hl.1 (Nat.le_of_ble_eq_true rfl) dX11_comes_65 ⟨Nat.zero_le _, Nat.zero_le _⟩ (fun r65 u65 H locs hh hw => ?_) rfl
      refine lv_bipush (v := (-2 : Int32)) C.1 C.2.1 dX11_comes_68 (by decide) ?_
      refine lv_icmp_eq (tgt := 76) C.1 C.2.1 dX11_comes_70 (by decide) (fun c70 => ?_) (fun c70 => ?_)
      · replace hh := hh.1 c70
        refine lv_iload_n C.1 C.2.1 dX11_comes_76 rfl (lv_at hl 2 rfl) ?_
        refine lv_if_ne (tgt := 85) C.1 C.2.1 dX11_comes_77 (by decide) (fun c77 => ?_) (fun c77 => ?_)
        · replace hh := hh.1 c77
          refine lv_iload_n C.1 C.2.1 dX11_comes_85 rfl (lv_at hl 3 rfl) ?_
          exact tX11_comes_b86 C hR hB32 hh hw (lv_sub hl [0, 1, 2, 4] rfl)
        · replace hh := hh.2 c77
          refine lv_iload C.1 C.2.1 dX11_comes_80 (lv_at hl 4 rfl) ?_
          refine lv_goto (tgt := 86) C.1 C.2.1 dX11_comes_82 (by decide) ?_
          exact tX11_comes_b86 C hR hB32 hh hw (lv_sub hl [0, 1, 2, 4] rfl)
      · replace hh := hh.2 c70
        refine lv_goto (tgt := 90) C.1 C.2.1 dX11_comes_73 (by decide) ?_
        exact tX11_comes_b90 C hR hB32 hh hw hl
    · replace hh := hh.2 c49
      refine lv_goto (tgt := 90) C.1 C.2.1 dX11_comes_52 (by decide) ?_
      exact tX11_comes_b90 C hR hB32 hh hw hl
theorem tX11_comes_b32 {K : Int32 → ((Nat → Int32) × (Nat → Nat → Int32)) → Prop} (C : CallFix p m c cX11_comes 5 s args wsX11_comes RX11) (hR : Rti .int p l e rmX11_comes s m args below meth c cX11_comes D A (mT cI cZ) (mWu o h cI cZ) K Q) (n : Nat) : ∀ (f : Nat → Int32) (g : Nat → Nat → Int32) (x1 : Int32) (x2 : Int32) (x3 : Int32) (x4 : Int32) (H : Heap) (locs : List Loc) (ls : Array Slot), wpX11_comes_b32 n f g x1 x2 x3 x4 K → Wd D A s (mT cI cZ) (mW o h cI cZ f g) H locs → lv_has ls 5 [(0, .ref o), (1, .int x1), (2, .int x2), (3, .int x3), (4, .int x4)] → W p l e rmX11_comes s m args below meth c H locs 0 0 Q (F0 m 32 ls []) := by
  induction n with
  | zero => intro f g x1 x2 x3 x4 H locs ls hh; exact hh.elim
  | succ n ih => intro f g x1 x2 x3 x4 H locs ls hh hw hl; exact tX11_comes_b32_body C hR ih hh hw hl
set_option maxHeartbeats 4000000 in
set_option maxRecDepth 100000 in
theorem tX11_comes_b0 {K : Int32 → ((Nat → Int32) × (Nat → Nat → Int32)) → Prop} (C : CallFix p m c cX11_comes 5 s args wsX11_comes RX11) (hR : Rti .int p l e rmX11_comes s m args below meth c cX11_comes D A (mT cI cZ) (mWu o h cI cZ) K Q) {f : Nat → Int32} {g : Nat → Nat → Int32} {x1 : Int32} (hh : wpX11_comes_b0 f g x1 K) {H : Heap} {locs : List Loc} {ls : Array Slot} (hw : Wd D A s (mT cI cZ) (mW o h cI cZ f g) H locs) (hl : lv_has ls 5 [(0, .ref o), (1, .int x1)]) : W p l e rmX11_comes s m args below meth c H locs 0 0 Q (F0 m 0 ls []) := by
  unfold wpX11_comes_b0 at hh
  refine lv_aload_n C.1 C.2.1 dX11_comes_0 rfl (lv_at hl 0 rfl) ?_
  refine lv_iconst (v := (0 : Int32)) C.1 C.2.1 dX11_comes_1 (by decide) ?_
  refine m_pi C hw (inC inW11) 2 (by decide) (wc w_1464) rfl (ty := .int) (by decide +kernel) rfl rfl (Nat.le_of_ble_eq_true rfl) ms_2 dX11_comes_2 (fun H locs hw => ?_)
  refine lv_iload_n C.1 C.2.1 dX11_comes_5 rfl (lv_at hl 1 rfl) ?_
  refine lv_iconst (v := (0 : Int32)) C.1 C.2.1 dX11_comes_6 (by decide) ?_
  refine lv_iconst (v := (1 : Int32)) C.1 C.2.1 dX11_comes_7 (by decide) ?_
  refine wd_Si C hw (ctX11_isIn l D x1 (0 : Int32) (1 : Int32) hh) (va_cwS 3 C.2.2.2.2 (gd_S w_1804 w_1805 (ini_cls rfl w_125) w_1806) rfl rfl rfl cdX11_isIn ⟨Nat.le_of_ble_eq_true rfl, Nat.le_of_ble_eq_true rfl⟩) rfl hl.1 (Nat.le_of_ble_eq_true rfl) dX11_comes_8 ⟨Nat.zero_le _, Nat.zero_le _⟩ (fun r8 H locs hh hw => ?_) rfl
  refine lv_if_ne (tgt := 16) C.1 C.2.1 dX11_comes_11 (by decide) (fun c11 => ?_) (fun c11 => ?_)
  · replace hh := hh.1 c11
    refine lv_aload_n C.1 C.2.1 dX11_comes_16 rfl (lv_at hl 0 rfl) ?_
    refine lv_iconst (v := (4 : Int32)) C.1 C.2.1 dX11_comes_17 (by decide) ?_
    refine m_Vv C hw (ctX11_puts l D o h cI cZ (upd f 2 (0 : Int32)) g (4 : Int32) hh) (cwV 1 C.2.2.2.2 (gd_V w_1894 w_1896 w_91 w_125 w_1897) rfl rfl rfl cdX11_puts ⟨Nat.le_of_ble_eq_true rfl, Nat.le_of_ble_eq_true rfl⟩) rfl hl.1 (Nat.le_of_ble_eq_true rfl) dX11_comes_18 ⟨Nat.zero_le _, Nat.zero_le _⟩ (fun u18 H locs hh hw => ?_) rfl
    refine lv_aload_n C.1 C.2.1 dX11_comes_21 rfl (lv_at hl 0 rfl) ?_
    refine m_Vv C hw (ctX11_layFar l D o h cI cZ u18.1 u18.2  hh) (cwV 0 C.2.2.2.2 (gd_V w_1886 w_1888 w_90 w_125 w_1889) rfl rfl rfl cdX11_layFar ⟨Nat.le_of_ble_eq_true rfl, Nat.le_of_ble_eq_true rfl⟩) rfl hl.1 (Nat.le_of_ble_eq_true rfl) dX11_comes_22 ⟨Nat.zero_le _, Nat.zero_le _⟩ (fun u22 H locs hh hw => ?_) rfl
    refine lv_iconst (v := (0 : Int32)) C.1 C.2.1 dX11_comes_25 (by decide) ?_
    refine lv_istore_n (lv' := [(2, .int (0 : Int32)), (0, .ref o), (1, .int x1)]) C.1 C.2.1 dX11_comes_26 rfl hl (by decide) rfl (fun ls hl => ?_)
    refine lv_iconst (v := (-1 : Int32)) C.1 C.2.1 dX11_comes_27 (by decide) ?_
    refine lv_istore_n (lv' := [(3, .int (-1 : Int32)), (2, .int (0 : Int32)), (0, .ref o), (1, .int x1)]) C.1 C.2.1 dX11_comes_28 rfl hl (by decide) rfl (fun ls hl => ?_)
    refine lv_iconst (v := (0 : Int32)) C.1 C.2.1 dX11_comes_29 (by decide) ?_
    refine lv_istore (lv' := [(4, .int (0 : Int32)), (3, .int (-1 : Int32)), (2, .int (0 : Int32)), (0, .ref o), (1, .int x1)]) C.1 C.2.1 dX11_comes_30 hl (by decide) rfl (fun ls hl => ?_)
    obtain ⟨n, hh⟩ := hh
    exact tX11_comes_b32 C hR n _ _ _ _ _ _ _ _ _ hh hw (lv_sub hl [3, 4, 2, 1, 0] rfl)
  · replace hh := hh.2 c11
    refine lv_iconst (v := (-1 : Int32)) C.1 C.2.1 dX11_comes_14 (by decide) ?_
    exact hR _ _ _ (upd f 2 (0 : Int32), g) _ _ dX11_comes_15 rfl hh hw
theorem ctX11_comes (l : Launch) (D : va_G) (o : Nat) (h : Nat → Nat) (cI cZ : ClassId) (f : Nat → Int32) (g : Nat → Nat → Int32) (x1 : Int32) {K : Int32 → ((Nat → Int32) × (Nat → Nat → Int32)) → Prop} (hh : wpX11_comes f g x1 K) : Ci l yX11_comes wsX11_comes rmX11_comes [.ref o, .int x1] D (mT cI cZ) (mWu o h cI cZ) (f, g) K := by
  refine Ci_of (cc := cX11_comes) (maxL := 5) (by decide) rfl (Nat.le_of_ble_eq_true rfl) ?_
  intro p e s m below meth c A Q C hw hR ls hl
  exact tX11_comes_b0 C hR hh hw hl
theorem cdX11_comes : yX11_comes.cls = RX11 ∧ yX11_comes.cls ≠ "java/lang/invoke/MethodHandle" ∧ yX11_comes.cls ≠ "java/lang/invoke/VarHandle" ∧ (parseMethodDescriptor yX11_comes.desc).map (fun d => d.parameters.length) = some 1 := by decide +kernel
abbrev rmX11_second : Room := { frames := 6, cells := 0, slots := 0, locals := 130 }
set_option maxHeartbeats 4000000 in
set_option maxRecDepth 100000 in
theorem tX11_second_b22 {K : Int32 → ((Nat → Int32) × (Nat → Nat → Int32)) → Prop} (C : CallFix p m c cX11_second 7 s args wsX11_second RX11) (hR : Rti .int p l e rmX11_second s m args below meth c cX11_second D A (mT cI cZ) (mWu o h cI cZ) K Q) {f : Nat → Int32} {g : Nat → Nat → Int32} (hh : wpX11_second_b22 f g K) {H : Heap} {locs : List Loc} {ls : Array Slot} (hw : Wd D A s (mT cI cZ) (mW o h cI cZ f g) H locs) (hl : lv_has ls 7 [(0, .ref o)]) : W p l e rmX11_second s m args below meth c H locs 0 0 Q (F0 m 22 ls []) := by
  unfold wpX11_second_b22 at hh
  refine lv_iconst (v := (-1 : Int32)) C.1 C.2.1 dX11_second_22 (by decide) ?_
  exact hR _ _ _ (f, g) _ _ dX11_second_23 rfl hh hw
set_option maxHeartbeats 4000000 in
set_option maxRecDepth 100000 in
theorem tX11_second_b163 {K : Int32 → ((Nat → Int32) × (Nat → Nat → Int32)) → Prop} (C : CallFix p m c cX11_second 7 s args wsX11_second RX11) (hR : Rti .int p l e rmX11_second s m args below meth c cX11_second D A (mT cI cZ) (mWu o h cI cZ) K Q) {f : Nat → Int32} {g : Nat → Nat → Int32} {k0 : Int32} (hh : wpX11_second_b163 f g k0 K) {H : Heap} {locs : List Loc} {ls : Array Slot} (hw : Wd D A s (mT cI cZ) (mW o h cI cZ f g) H locs) (hl : lv_has ls 7 [(0, .ref o)]) : W p l e rmX11_second s m args below meth c H locs 0 0 Q (F0 m 163 ls [.int k0]) := by
  unfold wpX11_second_b163 at hh
  exact hR _ _ _ (f, g) _ _ dX11_second_163 rfl hh hw
set_option maxHeartbeats 4000000 in
set_option maxRecDepth 100000 in
theorem tX11_second_b133 {K : Int32 → ((Nat → Int32) × (Nat → Nat → Int32)) → Prop} (C : CallFix p m c cX11_second 7 s args wsX11_second RX11) (hR : Rti .int p l e rmX11_second s m args below meth c cX11_second D A (mT cI cZ) (mWu o h cI cZ) K Q) {f : Nat → Int32} {g : Nat → Nat → Int32} {x2 : Int32} {x3 : Int32} {x4 : Int32} {x5 : Int32} {x6 : Int32} (hh : wpX11_second_b133 f g x2 x3 x4 x5 x6 K) {H : Heap} {locs : List Loc} {ls : Array Slot} (hw : Wd D A s (mT cI cZ) (mW o h cI cZ f g) H locs) (hl : lv_has ls 7 [(0, .ref o), (2, .int x2), (3, .int x3), (4, .int x4), (5, .int x5), (6, .int x6)]) : W p l e rmX11_second s m args below meth c H locs 0 0 Q (F0 m 133 ls []) := by
  unfold wpX11_second_b133 at hh
  refine lv_iload_n C.1 C.2.1 dX11_second_133 rfl (lv_at hl 1 rfl) ?_
  refine lv_if_ne (tgt := 141) C.1 C.2.1 dX11_second_134 (by decide) (fun c134 => ?_) (fun c134 => ?_)
  · replace hh := hh.1 c134
    refine lv_iload_n C.1 C.2.1 dX11_second_141 rfl (lv_at hl 1 rfl) ?_
    refine lv_iconst (v := (1 : Int32)) C.1 C.2.1 dX11_second_142 (by decide) ?_
    refine lv_icmp_ne (tgt := 151) C.1 C.2.1 dX11_second_143 (by decide) (fun c143 => ?_) (fun c143 => ?_)
    · replace hh := hh.1 c143
      refine lv_iload_n C.1 C.2.1 dX11_second_151 rfl (lv_at hl 1 rfl) ?_
      refine lv_iconst (v := (2 : Int32)) C.1 C.2.1 dX11_second_152 (by decide) ?_
      refine lv_icmp_ne (tgt := 161) C.1 C.2.1 dX11_second_153 (by decide) (fun c153 => ?_) (fun c153 => ?_)
      · replace hh := hh.1 c153
        refine lv_iload C.1 C.2.1 dX11_second_161 (lv_at hl 5 rfl) ?_
        exact tX11_second_b163 C hR hh hw (lv_sub hl [0] rfl)
      · replace hh := hh.2 c153
        refine lv_iload C.1 C.2.1 dX11_second_156 (lv_at hl 3 rfl) ?_
        refine lv_goto (tgt := 163) C.1 C.2.1 dX11_second_158 (by decide) ?_
        exact tX11_second_b163 C hR hh hw (lv_sub hl [0] rfl)
    · replace hh := hh.2 c143
      refine lv_iload C.1 C.2.1 dX11_second_146 (lv_at hl 4 rfl) ?_
      refine lv_goto (tgt := 163) C.1 C.2.1 dX11_second_148 (by decide) ?_
      exact tX11_second_b163 C hR hh hw (lv_sub hl [0] rfl)
  · replace hh := hh.2 c134
    refine lv_iload_n C.1 C.2.1 dX11_second_137 rfl (lv_at hl 2 rfl) ?_
    refine lv_goto (tgt := 163) C.1 C.2.1 dX11_second_138 (by decide) ?_
    exact tX11_second_b163 C hR hh hw (lv_sub hl [0] rfl)
set_option maxHeartbeats 4000000 in
set_option maxRecDepth 100000 in
theorem tX11_second_b130 {K : Int32 → ((Nat → Int32) × (Nat → Nat → Int32)) → Prop} (C : CallFix p m c cX11_second 7 s args wsX11_second RX11) (hR : Rti .int p l e rmX11_second s m args below meth c cX11_second D A (mT cI cZ) (mWu o h cI cZ) K Q) {f : Nat → Int32} {g : Nat → Nat → Int32} (hh : wpX11_second_b130 f g K) {H : Heap} {locs : List Loc} {ls : Array Slot} (hw : Wd D A s (mT cI cZ) (mW o h cI cZ f g) H locs) (hl : lv_has ls 7 [(0, .ref o)]) : W p l e rmX11_second s m args below meth c H locs 0 0 Q (F0 m 130 ls []) := by
  unfold wpX11_second_b130 at hh
  refine lv_bipush (v := (-2 : Int32)) C.1 C.2.1 dX11_second_130 (by decide) ?_
  exact hR _ _ _ (f, g) _ _ dX11_second_132 rfl hh hw
set_option maxHeartbeats 4000000 in
set_option maxRecDepth 100000 in
theorem tX11_second_b97 {K : Int32 → ((Nat → Int32) × (Nat → Nat → Int32)) → Prop} (C : CallFix p m c cX11_second 7 s args wsX11_second RX11) (hR : Rti .int p l e rmX11_second s m args below meth c cX11_second D A (mT cI cZ) (mWu o h cI cZ) K Q) {f : Nat → Int32} {g : Nat → Nat → Int32} {x2 : Int32} {x3 : Int32} {x4 : Int32} {x5 : Int32} (hh : wpX11_second_b97 f g x2 x3 x4 x5 K) {H : Heap} {locs : List Loc} {ls : Array Slot} (hw : Wd D A s (mT cI cZ) (mW o h cI cZ f g) H locs) (hl : lv_has ls 7 [(0, .ref o), (2, .int x2), (3, .int x3), (4, .int x4), (5, .int x5)]) : W p l e rmX11_second s m args below meth c H locs 0 0 Q (F0 m 97 ls []) := by
  unfold wpX11_second_b97 at hh
  refine lv_aload_n C.1 C.2.1 dX11_second_97 rfl (lv_at hl 0 rfl) ?_
  refine m_gi C hw (inC inW11) 53 (by decide) (wc w_1515) mg_53 (x := f 53) rfl dX11_second_98 ?_
  refine lv_istore (lv' := [(6, .int (f 53)), (0, .ref o), (2, .int x2), (3, .int x3), (4, .int x4), (5, .int x5)]) C.1 C.2.1 dX11_second_101 hl (by decide) rfl (fun ls hl => ?_)
  refine lv_aload_n C.1 C.2.1 dX11_second_103 rfl (lv_at hl 1 rfl) ?_
  refine lv_iconst (v := (4 : Int32)) C.1 C.2.1 dX11_second_104 (by decide) ?_
  refine m_Vv C hw (ctX11_takes l D o h cI cZ f g (4 : Int32) hh) (cwV 1 C.2.2.2.2 (gd_V w_1902 w_1904 w_92 w_125 w_1905) rfl rfl rfl cdX11_takes ⟨Nat.le_of_ble_eq_true rfl, Nat.le_of_ble_eq_true rfl⟩) rfl hl.1 (Nat.le_of_ble_eq_true rfl) dX11_second_105 ⟨Nat.zero_le _, Nat.zero_le _⟩ (fun u105 H locs hh hw => ?_) rfl
  refine lv_iload_n C.1 C.2.1 dX11_second_108 rfl (lv_at hl 2 rfl) ?_
  refine lv_iconst (v := (2 : Int32)) C.1 C.2.1 dX11_second_109 (by decide) ?_
  refine g_irem C dX11_second_110 (by decide) ?_
  refine lv_if_ne (tgt := 123) C.1 C.2.1 dX11_second_111 (by decide) (fun c111 => ?_) (fun c111 => ?_)
  · replace hh := hh.1 c111
    refine lv_iload C.1 C.2.1 dX11_second_123 (lv_at hl 5 rfl) ?_
    refine lv_bipush (v := (-2 : Int32)) C.1 C.2.1 dX11_second_125 (by decide) ?_
    refine lv_icmp_ne (tgt := 133) C.1 C.2.1 dX11_second_127 (by decide) (fun c127 => ?_) (fun c127 => ?_)
    · replace hh := hh.1 c127
      exact tX11_second_b133 C hR hh hw (lv_sub hl [1, 2, 3, 4, 5, 0] rfl)
    · replace hh := hh.2 c127
      exact tX11_second_b130 C hR hh hw (lv_sub hl [1] rfl)
  · replace hh := hh.2 c111
    refine lv_iload_n C.1 C.2.1 dX11_second_114 rfl (lv_at hl 3 rfl) ?_
    refine lv_bipush (v := (-2 : Int32)) C.1 C.2.1 dX11_second_115 (by decide) ?_
    refine lv_icmp_ne (tgt := 133) C.1 C.2.1 dX11_second_117 (by decide) (fun c117 => ?_) (fun c117 => ?_)
    · replace hh := hh.1 c117
      exact tX11_second_b133 C hR hh hw (lv_sub hl [1, 2, 3, 4, 5, 0] rfl)
    · replace hh := hh.2 c117
      refine lv_goto (tgt := 130) C.1 C.2.1 dX11_second_120 (by decide) ?_
      exact tX11_second_b130 C hR hh hw (lv_sub hl [1] rfl)
set_option maxHeartbeats 4000000 in
set_option maxRecDepth 100000 in
theorem tX11_second_b0 {K : Int32 → ((Nat → Int32) × (Nat → Nat → Int32)) → Prop} (C : CallFix p m c cX11_second 7 s args wsX11_second RX11) (hR : Rti .int p l e rmX11_second s m args below meth c cX11_second D A (mT cI cZ) (mWu o h cI cZ) K Q) {f : Nat → Int32} {g : Nat → Nat → Int32} {x1 : Int32} {x2 : Int32} (hh : wpX11_second_b0 f g x1 x2 K) {H : Heap} {locs : List Loc} {ls : Array Slot} (hw : Wd D A s (mT cI cZ) (mW o h cI cZ f g) H locs) (hl : lv_has ls 7 [(0, .ref o), (1, .int x1), (2, .int x2)]) : W p l e rmX11_second s m args below meth c H locs 0 0 Q (F0 m 0 ls []) := by
  unfold wpX11_second_b0 at hh
  refine lv_aload_n C.1 C.2.1 dX11_second_0 rfl (lv_at hl 0 rfl) ?_
  refine lv_iconst (v := (0 : Int32)) C.1 C.2.1 dX11_second_1 (by decide) ?_
  refine m_pi C hw (inC inW11) 2 (by decide) (wc w_1464) rfl (ty := .int) (by decide +kernel) rfl rfl (Nat.le_of_ble_eq_true rfl) ms_2 dX11_second_2 (fun H locs hw => ?_)
  refine lv_aload_n C.1 C.2.1 dX11_second_5 rfl (lv_at hl 0 rfl) ?_
  refine lv_iload_n C.1 C.2.1 dX11_second_6 rfl (lv_at hl 1 rfl) ?_
  refine m_Vi C hw (ctX11_isSquare l D o h cI cZ (upd f 2 (0 : Int32)) g x1 hh) (cwV 1 C.2.2.2.2 (gd_V w_1811 w_1813 w_79 w_125 w_1814) rfl rfl rfl cdX11_isSquare ⟨Nat.le_of_ble_eq_true rfl, Nat.le_of_ble_eq_true rfl⟩) rfl hl.1 (Nat.le_of_ble_eq_true rfl) dX11_second_7 ⟨Nat.zero_le _, Nat.zero_le _⟩ (fun r7 u7 H locs hh hw => ?_) rfl
  refine lv_if_eq (tgt := 22) C.1 C.2.1 dX11_second_10 (by decide) (fun c10 => ?_) (fun c10 => ?_)
  · replace hh := hh.1 c10
    exact tX11_second_b22 C hR hh hw (lv_sub hl [0] rfl)
  · replace hh := hh.2 c10
    refine lv_iload_n C.1 C.2.1 dX11_second_13 rfl (lv_at hl 2 rfl) ?_
    refine lv_iconst (v := (0 : Int32)) C.1 C.2.1 dX11_second_14 (by decide) ?_
    refine lv_iconst (v := (3 : Int32)) C.1 C.2.1 dX11_second_15 (by decide) ?_
    refine wd_Si C hw (ctX11_isIn l D x2 (0 : Int32) (3 : Int32) hh) (va_cwS 3 C.2.2.2.2 (gd_S w_1804 w_1805 (ini_cls rfl w_125) w_1806) rfl rfl rfl cdX11_isIn ⟨Nat.le_of_ble_eq_true rfl, Nat.le_of_ble_eq_true rfl⟩) rfl hl.1 (Nat.le_of_ble_eq_true rfl) dX11_second_16 ⟨Nat.zero_le _, Nat.zero_le _⟩ (fun r16 H locs hh hw => ?_) rfl
    refine lv_if_ne (tgt := 24) C.1 C.2.1 dX11_second_19 (by decide) (fun c19 => ?_) (fun c19 => ?_)
    · replace hh := hh.1 c19
      refine lv_aload_n C.1 C.2.1 dX11_second_24 rfl (lv_at hl 0 rfl) ?_
      refine lv_iconst (v := (4 : Int32)) C.1 C.2.1 dX11_second_25 (by decide) ?_
      refine m_Vv C hw (ctX11_puts l D o h cI cZ u7.1 u7.2 (4 : Int32) hh) (cwV 1 C.2.2.2.2 (gd_V w_1894 w_1896 w_91 w_125 w_1897) rfl rfl rfl cdX11_puts ⟨Nat.le_of_ble_eq_true rfl, Nat.le_of_ble_eq_true rfl⟩) rfl hl.1 (Nat.le_of_ble_eq_true rfl) dX11_second_26 ⟨Nat.zero_le _, Nat.zero_le _⟩ (fun u26 H locs hh hw => ?_) rfl
      refine lv_aload_n C.1 C.2.1 dX11_second_29 rfl (lv_at hl 0 rfl) ?_
      refine lv_iload_n C.1 C.2.1 dX11_second_30 rfl (lv_at hl 1 rfl) ?_
      refine m_Vv C hw (ctX11_setDown l D o h cI cZ u26.1 u26.2 x1 hh) (cwV 1 C.2.2.2.2 (gd_V w_1910 w_1912 w_93 w_125 w_1913) rfl rfl rfl cdX11_setDown ⟨Nat.le_of_ble_eq_true rfl, Nat.le_of_ble_eq_true rfl⟩) rfl hl.1 (Nat.le_of_ble_eq_true rfl) dX11_second_31 ⟨Nat.zero_le _, Nat.zero_le _⟩ (fun u31 H locs hh hw => ?_) rfl
      refine lv_aload_n C.1 C.2.1 dX11_second_34 rfl (lv_at hl 0 rfl) ?_
      refine lv_iconst (v := (0 : Int32)) C.1 C.2.1 dX11_second_35 (by decide) ?_
      refine m_pi C hw (inC inW11) 53 (by decide) (wc w_1515) rfl (ty := .int) (by decide +kernel) rfl rfl (Nat.le_of_ble_eq_true rfl) ms_53 dX11_second_36 (fun H locs hw => ?_)
      refine lv_aload_n C.1 C.2.1 dX11_second_39 rfl (lv_at hl 0 rfl) ?_
      refine lv_sipush (v := (2000 : Int32)) C.1 C.2.1 dX11_second_40 (by decide) ?_
      refine m_Vi C hw (ctX11_comesIn l D o h cI cZ (upd u31.1 53 (0 : Int32)) u31.2 (2000 : Int32) hh) (cwV 1 C.2.2.2.2 (gd_V w_1914 w_1916 w_94 w_125 w_1917) rfl rfl rfl cdX11_comesIn ⟨Nat.le_of_ble_eq_true rfl, Nat.le_of_ble_eq_true rfl⟩) rfl hl.1 (Nat.le_of_ble_eq_true rfl) dX11_second_43 ⟨Nat.zero_le _, Nat.zero_le _⟩ (fun r43 u43 H locs hh hw => ?_) rfl
      refine lv_istore_n (lv' := [(3, .int r43), (0, .ref o), (1, .int x1), (2, .int x2)]) C.1 C.2.1 dX11_second_46 rfl hl (by decide) rfl (fun ls hl => ?_)
      refine lv_aload_n C.1 C.2.1 dX11_second_47 rfl (lv_at hl 1 rfl) ?_
      refine m_gi C hw (inC inW11) 53 (by decide) (wc w_1515) mg_53 (x := u43.1 53) rfl dX11_second_48 ?_
      refine lv_istore (lv' := [(4, .int (u43.1 53)), (3, .int r43), (0, .ref o), (1, .int x1), (2, .int x2)]) C.1 C.2.1 dX11_second_51 hl (by decide) rfl (fun ls hl => ?_)
      refine lv_bipush (v := (-2 : Int32)) C.1 C.2.1 dX11_second_53 (by decide) ?_
      refine lv_istore (lv' := [(5, .int (-2 : Int32)), (4, .int (u43.1 53)), (3, .int r43), (0, .ref o), (1, .int x1), (2, .int x2)]) C.1 C.2.1 dX11_second_55 hl (by decide) rfl (fun ls hl => ?_)
      refine lv_iload_n C.1 C.2.1 dX11_second_57 rfl (lv_at hl 2 rfl) ?_
      refine lv_bipush (v := (-2 : Int32)) C.1 C.2.1 dX11_second_58 (by decide) ?_
      refine lv_icmp_eq (tgt := 97) C.1 C.2.1 dX11_second_60 (by decide) (fun c60 => ?_) (fun c60 => ?_)
      · replace hh := hh.1 c60
        exact tX11_second_b97 C hR hh hw (lv_sub hl [3, 5, 2, 1, 0] rfl)
      · replace hh := hh.2 c60
        refine lv_aload_n C.1 C.2.1 dX11_second_63 rfl (lv_at hl 3 rfl) ?_
        refine lv_iload_n C.1 C.2.1 dX11_second_64 rfl (lv_at hl 4 rfl) ?_
        refine m_pi C hw (inC inW11) 41 (by decide) (wc w_1503) rfl (ty := .int) (by decide +kernel) rfl rfl (Nat.le_of_ble_eq_true rfl) ms_41 dX11_second_65 (fun H locs hw => ?_)
        refine lv_aload_n C.1 C.2.1 dX11_second_68 rfl (lv_at hl 3 rfl) ?_
        refine lv_iconst (v := (0 : Int32)) C.1 C.2.1 dX11_second_69 (by decide) ?_
        refine m_pi C hw (inC inW11) 42 (by decide) (wc w_1504) rfl (ty := .int) (by decide +kernel) rfl rfl (Nat.le_of_ble_eq_true rfl) ms_42 dX11_second_70 (fun H locs hw => ?_)
        refine lv_aload_n C.1 C.2.1 dX11_second_73 rfl (lv_at hl 3 rfl) ?_
        refine lv_iconst (v := (0 : Int32)) C.1 C.2.1 dX11_second_74 (by decide) ?_
        refine m_pi C hw (inC inW11) 43 (by decide) (wc w_1505) rfl (ty := .int) (by decide +kernel) rfl rfl (Nat.le_of_ble_eq_true rfl) ms_43 dX11_second_75 (fun H locs hw => ?_)
        refine lv_aload_n C.1 C.2.1 dX11_second_78 rfl (lv_at hl 3 rfl) ?_
        refine lv_iconst (v := (0 : Int32)) C.1 C.2.1 dX11_second_79 (by decide) ?_
        refine m_pi C hw (inC inW11) 44 (by decide) (wc w_1506) rfl (ty := .int) (by decide +kernel) rfl rfl (Nat.le_of_ble_eq_true rfl) ms_44 dX11_second_80 (fun H locs hw => ?_)
        refine lv_aload_n C.1 C.2.1 dX11_second_83 rfl (lv_at hl 3 rfl) ?_
        refine lv_iconst (v := (0 : Int32)) C.1 C.2.1 dX11_second_84 (by decide) ?_
        refine m_pi C hw (inC inW11) 53 (by decide) (wc w_1515) rfl (ty := .int) (by decide +kernel) rfl rfl (Nat.le_of_ble_eq_true rfl) ms_53 dX11_second_85 (fun H locs hw => ?_)
        refine lv_aload_n C.1 C.2.1 dX11_second_88 rfl (lv_at hl 3 rfl) ?_
        refine lv_sipush (v := (2000 : Int32)) C.1 C.2.1 dX11_second_89 (by decide) ?_
        refine m_Vi C hw (ctX11_comesIn l D o h cI cZ (upd (upd (upd (upd (upd u43.1 41 x1) 42 (0 : Int32)) 43 (0 : Int32)) 44 (0 : Int32)) 53 (0 : Int32)) u43.2 (2000 : Int32) hh) (cwV 1 C.2.2.2.2 (gd_V w_1914 w_1916 w_94 w_125 w_1917) rfl rfl rfl cdX11_comesIn ⟨Nat.le_of_ble_eq_true rfl, Nat.le_of_ble_eq_true rfl⟩) rfl hl.1 (Nat.le_of_ble_eq_true rfl) dX11_second_92 ⟨Nat.zero_le _, Nat.zero_le _⟩ (fun r92 u92 H locs hh hw => ?_) rfl
        refine lv_istore (lv' := [(5, .int r92), (4, .int (u43.1 53)), (3, .int r43), (0, .ref o), (1, .int x1), (2, .int x2)]) C.1 C.2.1 dX11_second_95 hl (by decide) rfl (fun ls hl => ?_)
        exact tX11_second_b97 C hR hh hw (lv_sub hl [3, 5, 2, 1, 0] rfl)
    · replace hh := hh.2 c19
      exact tX11_second_b22 C hR hh hw (lv_sub hl [0] rfl)
theorem ctX11_second (l : Launch) (D : va_G) (o : Nat) (h : Nat → Nat) (cI cZ : ClassId) (f : Nat → Int32) (g : Nat → Nat → Int32) (x1 : Int32) (x2 : Int32) {K : Int32 → ((Nat → Int32) × (Nat → Nat → Int32)) → Prop} (hh : wpX11_second f g x1 x2 K) : Ci l yX11_second wsX11_second rmX11_second [.ref o, .int x1, .int x2] D (mT cI cZ) (mWu o h cI cZ) (f, g) K := by
  refine Ci_of (cc := cX11_second) (maxL := 7) (by decide) rfl (Nat.le_of_ble_eq_true rfl) ?_
  intro p e s m below meth c A Q C hw hR ls hl
  exact tX11_second_b0 C hR hh hw hl
theorem cdX11_second : yX11_second.cls = RX11 ∧ yX11_second.cls ≠ "java/lang/invoke/MethodHandle" ∧ yX11_second.cls ≠ "java/lang/invoke/VarHandle" ∧ (parseMethodDescriptor yX11_second.desc).map (fun d => d.parameters.length) = some 2 := by decide +kernel
abbrev rmX11_isSmallFloor : Room := { frames := 1, cells := 0, slots := 0, locals := 22 }
set_option maxHeartbeats 4000000 in
set_option maxRecDepth 100000 in
theorem tX11_isSmallFloor_b23 {K : Int32 → Unit → Prop} (C : CallFix p m c cX11_isSmallFloor 2 s args wsX11_isSmallFloor RX11) (hR : Rti .boolean p l e rmX11_isSmallFloor s m args below meth c cX11_isSmallFloor D A [] (fun _ : Unit => []) K Q) {k0 : Int32} (hh : wpX11_isSmallFloor_b23 k0 K) {H : Heap} {locs : List Loc} {ls : Array Slot} (hw : Wd D A s [] [] H locs) (hl : lv_has ls 2 []) : W p l e rmX11_isSmallFloor s m args below meth c H locs 0 0 Q (F0 m 23 ls [.int k0]) := by
  unfold wpX11_isSmallFloor_b23 at hh
  obtain ⟨hb23, hh⟩ := hh
  exact hR _ _ _ () _ _ dX11_isSmallFloor_23 (isB_nar hb23) hh hw
set_option maxHeartbeats 4000000 in
set_option maxRecDepth 100000 in
theorem tX11_isSmallFloor_b22 {K : Int32 → Unit → Prop} (C : CallFix p m c cX11_isSmallFloor 2 s args wsX11_isSmallFloor RX11) (hR : Rti .boolean p l e rmX11_isSmallFloor s m args below meth c cX11_isSmallFloor D A [] (fun _ : Unit => []) K Q) (hh : wpX11_isSmallFloor_b22  K) {H : Heap} {locs : List Loc} {ls : Array Slot} (hw : Wd D A s [] [] H locs) (hl : lv_has ls 2 []) : W p l e rmX11_isSmallFloor s m args below meth c H locs 0 0 Q (F0 m 22 ls []) := by
  unfold wpX11_isSmallFloor_b22 at hh
  refine lv_iconst (v := (0 : Int32)) C.1 C.2.1 dX11_isSmallFloor_22 (by decide) ?_
  exact tX11_isSmallFloor_b23 C hR hh hw hl
set_option maxHeartbeats 4000000 in
set_option maxRecDepth 100000 in
theorem tX11_isSmallFloor_b0 {K : Int32 → Unit → Prop} (C : CallFix p m c cX11_isSmallFloor 2 s args wsX11_isSmallFloor RX11) (hR : Rti .boolean p l e rmX11_isSmallFloor s m args below meth c cX11_isSmallFloor D A [] (fun _ : Unit => []) K Q) {x0 : Int32} {x1 : Int32} (hh : wpX11_isSmallFloor_b0 x0 x1 K) {H : Heap} {locs : List Loc} {ls : Array Slot} (hw : Wd D A s [] [] H locs) (hl : lv_has ls 2 [(0, .int x0), (1, .int x1)]) : W p l e rmX11_isSmallFloor s m args below meth c H locs 0 0 Q (F0 m 0 ls []) := by
  unfold wpX11_isSmallFloor_b0 at hh
  refine lv_iload_n C.1 C.2.1 dX11_isSmallFloor_0 rfl (lv_at hl 0 rfl) ?_
  refine lv_iconst (v := (2 : Int32)) C.1 C.2.1 dX11_isSmallFloor_1 (by decide) ?_
  refine lv_iconst (v := (3 : Int32)) C.1 C.2.1 dX11_isSmallFloor_2 (by decide) ?_
  refine wd_Si C hw (ctX11_isIn l D x0 (2 : Int32) (3 : Int32) hh) (va_cwS 3 C.2.2.2.2 (gd_S w_1804 w_1805 (ini_cls rfl w_125) w_1806) rfl rfl rfl cdX11_isIn ⟨Nat.le_of_ble_eq_true rfl, Nat.le_of_ble_eq_true rfl⟩) rfl hl.1 (Nat.le_of_ble_eq_true rfl) dX11_isSmallFloor_3 ⟨Nat.zero_le _, Nat.zero_le _⟩ (fun r3 H locs hh hw => ?_) rfl
  refine lv_if_eq (tgt := 22) C.1 C.2.1 dX11_isSmallFloor_6 (by decide) (fun c6 => ?_) (fun c6 => ?_)
  · replace hh := hh.1 c6
    exact tX11_isSmallFloor_b22 C hR hh hw (lv_sub hl [] rfl)
  · replace hh := hh.2 c6
    refine lv_iload_n C.1 C.2.1 dX11_isSmallFloor_9 rfl (lv_at hl 1 rfl) ?_
    refine lv_iconst (v := (2 : Int32)) C.1 C.2.1 dX11_isSmallFloor_10 (by decide) ?_
    refine lv_iconst (v := (3 : Int32)) C.1 C.2.1 dX11_isSmallFloor_11 (by decide) ?_
    refine wd_Si C hw (ctX11_isIn l D x1 (2 : Int32) (3 : Int32) hh) (va_cwS 3 C.2.2.2.2 (gd_S w_1804 w_1805 (ini_cls rfl w_125) w_1806) rfl rfl rfl cdX11_isIn ⟨Nat.le_of_ble_eq_true rfl, Nat.le_of_ble_eq_true rfl⟩) rfl hl.1 (Nat.le_of_ble_eq_true rfl) dX11_isSmallFloor_12 ⟨Nat.zero_le _, Nat.zero_le _⟩ (fun r12 H locs hh hw => ?_) rfl
    refine lv_if_eq (tgt := 22) C.1 C.2.1 dX11_isSmallFloor_15 (by decide) (fun c15 => ?_) (fun c15 => ?_)
    · replace hh := hh.1 c15
      exact tX11_isSmallFloor_b22 C hR hh hw (lv_sub hl [] rfl)
    · replace hh := hh.2 c15
      refine lv_iconst (v := (1 : Int32)) C.1 C.2.1 dX11_isSmallFloor_18 (by decide) ?_
      refine lv_goto (tgt := 23) C.1 C.2.1 dX11_isSmallFloor_19 (by decide) ?_
      exact tX11_isSmallFloor_b23 C hR hh hw (lv_sub hl [] rfl)
theorem ctX11_isSmallFloor (l : Launch) (D : va_G) (x0 : Int32) (x1 : Int32) {K : Int32 → Unit → Prop} (hh : wpX11_isSmallFloor x0 x1 K) : Ci l yX11_isSmallFloor wsX11_isSmallFloor rmX11_isSmallFloor [.int x0, .int x1] D [] (fun _ : Unit => []) () K := by
  refine Ci_of (cc := cX11_isSmallFloor) (maxL := 2) (by decide) rfl (Nat.le_of_ble_eq_true rfl) ?_
  intro p e s m below meth c A Q C hw hR ls hl
  exact tX11_isSmallFloor_b0 C hR hh hw hl
theorem cdX11_isSmallFloor : yX11_isSmallFloor.cls ≠ "java/lang/invoke/MethodHandle" ∧ yX11_isSmallFloor.cls ≠ "java/lang/invoke/VarHandle" ∧ (parseMethodDescriptor yX11_isSmallFloor.desc).map (fun d => d.parameters.length) = some 2 := by decide +kernel
abbrev rmX11_wallMany : Room := { frames := 0, cells := 0, slots := 0, locals := 0 }
set_option maxHeartbeats 4000000 in
set_option maxRecDepth 100000 in
theorem tX11_wallMany_b0 {K : Int32 → ((Nat → Int32) × (Nat → Nat → Int32)) → Prop} (C : CallFix p m c cX11_wallMany 1 s args wsX11_wallMany RX11) (hR : Rti .int p l e rmX11_wallMany s m args below meth c cX11_wallMany D A (mT cI cZ) (mWu o h cI cZ) K Q) {f : Nat → Int32} {g : Nat → Nat → Int32} (hh : wpX11_wallMany_b0 f g K) {H : Heap} {locs : List Loc} {ls : Array Slot} (hw : Wd D A s (mT cI cZ) (mW o h cI cZ f g) H locs) (hl : lv_has ls 1 [(0, .ref o)]) : W p l e rmX11_wallMany s m args below meth c H locs 0 0 Q (F0 m 0 ls []) := by
  unfold wpX11_wallMany_b0 at hh
  refine lv_aload_n C.1 C.2.1 dX11_wallMany_0 rfl (lv_at hl 0 rfl) ?_
  refine m_gi C hw (inC inW11) 39 (by decide) (wc w_1501) mg_39 (x := f 39) rfl dX11_wallMany_1 ?_
  refine lv_aload_n C.1 C.2.1 dX11_wallMany_4 rfl (lv_at hl 0 rfl) ?_
  refine m_gi C hw (inC inW11) 38 (by decide) (wc w_1500) mg_38 (x := f 38) rfl dX11_wallMany_5 ?_
  refine lv_iconst (v := (1 : Int32)) C.1 C.2.1 dX11_wallMany_8 (by decide) ?_
  refine lv_isub C.1 C.2.1 dX11_wallMany_9 ?_
  refine lv_imul C.1 C.2.1 dX11_wallMany_10 ?_
  refine lv_aload_n C.1 C.2.1 dX11_wallMany_11 rfl (lv_at hl 0 rfl) ?_
  refine m_gi C hw (inC inW11) 38 (by decide) (wc w_1500) mg_38 (x := f 38) rfl dX11_wallMany_12 ?_
  refine lv_aload_n C.1 C.2.1 dX11_wallMany_15 rfl (lv_at hl 0 rfl) ?_
  refine m_gi C hw (inC inW11) 39 (by decide) (wc w_1501) mg_39 (x := f 39) rfl dX11_wallMany_16 ?_
  refine lv_iconst (v := (1 : Int32)) C.1 C.2.1 dX11_wallMany_19 (by decide) ?_
  refine lv_isub C.1 C.2.1 dX11_wallMany_20 ?_
  refine lv_imul C.1 C.2.1 dX11_wallMany_21 ?_
  refine lv_iadd C.1 C.2.1 dX11_wallMany_22 ?_
  exact hR _ _ _ (f, g) _ _ dX11_wallMany_23 rfl hh hw
theorem ctX11_wallMany (l : Launch) (D : va_G) (o : Nat) (h : Nat → Nat) (cI cZ : ClassId) (f : Nat → Int32) (g : Nat → Nat → Int32) {K : Int32 → ((Nat → Int32) × (Nat → Nat → Int32)) → Prop} (hh : wpX11_wallMany f g K) : Ci l yX11_wallMany wsX11_wallMany rmX11_wallMany [.ref o] D (mT cI cZ) (mWu o h cI cZ) (f, g) K := by
  refine Ci_of (cc := cX11_wallMany) (maxL := 1) (by decide) rfl (Nat.le_of_ble_eq_true rfl) ?_
  intro p e s m below meth c A Q C hw hR ls hl
  exact tX11_wallMany_b0 C hR hh hw hl
theorem cdX11_wallMany : yX11_wallMany.cls = RX11 ∧ yX11_wallMany.cls ≠ "java/lang/invoke/MethodHandle" ∧ yX11_wallMany.cls ≠ "java/lang/invoke/VarHandle" ∧ (parseMethodDescriptor yX11_wallMany.desc).map (fun d => d.parameters.length) = some 0 := by decide +kernel
abbrev rmX11_wallAt : Room := { frames := 0, cells := 0, slots := 0, locals := 0 }
set_option maxHeartbeats 4000000 in
set_option maxRecDepth 100000 in
theorem tX11_wallAt_b0 {K : Int32 → ((Nat → Int32) × (Nat → Nat → Int32)) → Prop} (C : CallFix p m c cX11_wallAt 3 s args wsX11_wallAt RX11) (hR : Rti .int p l e rmX11_wallAt s m args below meth c cX11_wallAt D A (mT cI cZ) (mWu o h cI cZ) K Q) {f : Nat → Int32} {g : Nat → Nat → Int32} {x1 : Int32} (hh : wpX11_wallAt_b0 f g x1 K) {H : Heap} {locs : List Loc} {ls : Array Slot} (hw : Wd D A s (mT cI cZ) (mW o h cI cZ f g) H locs) (hl : lv_has ls 3 [(0, .ref o), (1, .int x1)]) : W p l e rmX11_wallAt s m args below meth c H locs 0 0 Q (F0 m 0 ls []) := by
  unfold wpX11_wallAt_b0 at hh
  refine lv_aload_n C.1 C.2.1 dX11_wallAt_0 rfl (lv_at hl 0 rfl) ?_
  refine m_gi C hw (inC inW11) 39 (by decide) (wc w_1501) mg_39 (x := f 39) rfl dX11_wallAt_1 ?_
  refine lv_aload_n C.1 C.2.1 dX11_wallAt_4 rfl (lv_at hl 0 rfl) ?_
  refine m_gi C hw (inC inW11) 38 (by decide) (wc w_1500) mg_38 (x := f 38) rfl dX11_wallAt_5 ?_
  refine lv_iconst (v := (1 : Int32)) C.1 C.2.1 dX11_wallAt_8 (by decide) ?_
  refine lv_isub C.1 C.2.1 dX11_wallAt_9 ?_
  refine lv_imul C.1 C.2.1 dX11_wallAt_10 ?_
  refine lv_istore_n (lv' := [(2, .int ((f 39) * ((f 38) - (1 : Int32)))), (0, .ref o), (1, .int x1)]) C.1 C.2.1 dX11_wallAt_11 rfl hl (by decide) rfl (fun ls hl => ?_)
  refine lv_iload_n C.1 C.2.1 dX11_wallAt_12 rfl (lv_at hl 2 rfl) ?_
  refine lv_iload_n C.1 C.2.1 dX11_wallAt_13 rfl (lv_at hl 0 rfl) ?_
  refine lv_icmp_ge (tgt := 44) C.1 C.2.1 dX11_wallAt_14 (by decide) (fun c14 => ?_) (fun c14 => ?_)
  · replace hh := hh.1 c14
    refine lv_iconst (v := (4 : Int32)) C.1 C.2.1 dX11_wallAt_44 (by decide) ?_
    refine lv_iload_n C.1 C.2.1 dX11_wallAt_45 rfl (lv_at hl 2 rfl) ?_
    refine lv_iload_n C.1 C.2.1 dX11_wallAt_46 rfl (lv_at hl 0 rfl) ?_
    refine lv_isub C.1 C.2.1 dX11_wallAt_47 ?_
    refine lv_imul C.1 C.2.1 dX11_wallAt_48 ?_
    refine lv_iconst (v := (2 : Int32)) C.1 C.2.1 dX11_wallAt_49 (by decide) ?_
    refine lv_iadd C.1 C.2.1 dX11_wallAt_50 ?_
    exact hR _ _ _ (f, g) _ _ dX11_wallAt_51 rfl hh hw
  · replace hh := hh.2 c14
    refine lv_iconst (v := (4 : Int32)) C.1 C.2.1 dX11_wallAt_17 (by decide) ?_
    refine lv_iload_n C.1 C.2.1 dX11_wallAt_18 rfl (lv_at hl 2 rfl) ?_
    refine lv_aload_n C.1 C.2.1 dX11_wallAt_19 rfl (lv_at hl 1 rfl) ?_
    refine m_gi C hw (inC inW11) 38 (by decide) (wc w_1500) mg_38 (x := f 38) rfl dX11_wallAt_20 ?_
    refine lv_iconst (v := (1 : Int32)) C.1 C.2.1 dX11_wallAt_23 (by decide) ?_
    refine lv_isub C.1 C.2.1 dX11_wallAt_24 ?_
    obtain ⟨hz25, hh⟩ := hh
    refine lv_idiv C.1 C.2.1 dX11_wallAt_25 hz25 ?_
    refine lv_aload_n C.1 C.2.1 dX11_wallAt_26 rfl (lv_at hl 1 rfl) ?_
    refine m_gi C hw (inC inW11) 38 (by decide) (wc w_1500) mg_38 (x := f 38) rfl dX11_wallAt_27 ?_
    refine lv_imul C.1 C.2.1 dX11_wallAt_30 ?_
    refine lv_iload_n C.1 C.2.1 dX11_wallAt_31 rfl (lv_at hl 2 rfl) ?_
    refine lv_aload_n C.1 C.2.1 dX11_wallAt_32 rfl (lv_at hl 1 rfl) ?_
    refine m_gi C hw (inC inW11) 38 (by decide) (wc w_1500) mg_38 (x := f 38) rfl dX11_wallAt_33 ?_
    refine lv_iconst (v := (1 : Int32)) C.1 C.2.1 dX11_wallAt_36 (by decide) ?_
    refine lv_isub C.1 C.2.1 dX11_wallAt_37 ?_
    obtain ⟨hz38, hh⟩ := hh
    refine g_irem C dX11_wallAt_38 hz38 ?_
    refine lv_iadd C.1 C.2.1 dX11_wallAt_39 ?_
    refine lv_imul C.1 C.2.1 dX11_wallAt_40 ?_
    refine lv_iconst (v := (1 : Int32)) C.1 C.2.1 dX11_wallAt_41 (by decide) ?_
    refine lv_iadd C.1 C.2.1 dX11_wallAt_42 ?_
    exact hR _ _ _ (f, g) _ _ dX11_wallAt_43 rfl hh hw
theorem ctX11_wallAt (l : Launch) (D : va_G) (o : Nat) (h : Nat → Nat) (cI cZ : ClassId) (f : Nat → Int32) (g : Nat → Nat → Int32) (x1 : Int32) {K : Int32 → ((Nat → Int32) × (Nat → Nat → Int32)) → Prop} (hh : wpX11_wallAt f g x1 K) : Ci l yX11_wallAt wsX11_wallAt rmX11_wallAt [.ref o, .int x1] D (mT cI cZ) (mWu o h cI cZ) (f, g) K := by
  refine Ci_of (cc := cX11_wallAt) (maxL := 3) (by decide) rfl (Nat.le_of_ble_eq_true rfl) ?_
  intro p e s m below meth c A Q C hw hR ls hl
  exact tX11_wallAt_b0 C hR hh hw hl
theorem cdX11_wallAt : yX11_wallAt.cls = RX11 ∧ yX11_wallAt.cls ≠ "java/lang/invoke/MethodHandle" ∧ yX11_wallAt.cls ≠ "java/lang/invoke/VarHandle" ∧ (parseMethodDescriptor yX11_wallAt.desc).map (fun d => d.parameters.length) = some 1 := by decide +kernel
abbrev rmX11_small : Room := { frames := 0, cells := 0, slots := 0, locals := 0 }
set_option maxHeartbeats 4000000 in
set_option maxRecDepth 100000 in
theorem tX11_small_b0 {K : ((Nat → Int32) × (Nat → Nat → Int32)) → Prop} (C : CallFix p m c cX11_small 3 s args wsX11_small RX11) (hR : Rtv p l e rmX11_small s m args below meth c cX11_small D A (mT cI cZ) (mWu o h cI cZ) K Q) {f : Nat → Int32} {g : Nat → Nat → Int32} {x1 : Int32} {x2 : Int32} (hh : wpX11_small_b0 f g x1 x2 K) {H : Heap} {locs : List Loc} {ls : Array Slot} (hw : Wd D A s (mT cI cZ) (mW o h cI cZ f g) H locs) (hl : lv_has ls 3 [(0, .ref o), (1, .int x1), (2, .int x2)]) : W p l e rmX11_small s m args below meth c H locs 0 0 Q (F0 m 0 ls []) := by
  unfold wpX11_small_b0 at hh
  refine lv_aload_n C.1 C.2.1 dX11_small_0 rfl (lv_at hl 0 rfl) ?_
  refine lv_iload_n C.1 C.2.1 dX11_small_1 rfl (lv_at hl 1 rfl) ?_
  refine m_pi C hw (inC inW11) 38 (by decide) (wc w_1500) rfl (ty := .int) (by decide +kernel) rfl rfl (Nat.le_of_ble_eq_true rfl) ms_38 dX11_small_2 (fun H locs hw => ?_)
  refine lv_aload_n C.1 C.2.1 dX11_small_5 rfl (lv_at hl 0 rfl) ?_
  refine lv_iload_n C.1 C.2.1 dX11_small_6 rfl (lv_at hl 2 rfl) ?_
  refine m_pi C hw (inC inW11) 39 (by decide) (wc w_1501) rfl (ty := .int) (by decide +kernel) rfl rfl (Nat.le_of_ble_eq_true rfl) ms_39 dX11_small_7 (fun H locs hw => ?_)
  refine lv_aload_n C.1 C.2.1 dX11_small_10 rfl (lv_at hl 0 rfl) ?_
  refine lv_iload_n C.1 C.2.1 dX11_small_11 rfl (lv_at hl 1 rfl) ?_
  refine lv_iload_n C.1 C.2.1 dX11_small_12 rfl (lv_at hl 2 rfl) ?_
  refine lv_imul C.1 C.2.1 dX11_small_13 ?_
  refine lv_iconst (v := (1 : Int32)) C.1 C.2.1 dX11_small_14 (by decide) ?_
  refine lv_isub C.1 C.2.1 dX11_small_15 ?_
  refine m_pi C hw (inC inW11) 40 (by decide) (wc w_1502) rfl (ty := .int) (by decide +kernel) rfl rfl (Nat.le_of_ble_eq_true rfl) ms_40 dX11_small_16 (fun H locs hw => ?_)
  exact hR _ _ (upd (upd (upd f 38 x1) 39 x2) 40 ((x1 * x2) - (1 : Int32)), g) _ _ dX11_small_19 hh hw
theorem ctX11_small (l : Launch) (D : va_G) (o : Nat) (h : Nat → Nat) (cI cZ : ClassId) (f : Nat → Int32) (g : Nat → Nat → Int32) (x1 : Int32) (x2 : Int32) {K : ((Nat → Int32) × (Nat → Nat → Int32)) → Prop} (hh : wpX11_small f g x1 x2 K) : Cv l yX11_small wsX11_small rmX11_small [.ref o, .int x1, .int x2] D (mT cI cZ) (mWu o h cI cZ) (f, g) K := by
  refine Cv_of (cc := cX11_small) (maxL := 3) (by decide) rfl (Nat.le_of_ble_eq_true rfl) ?_
  intro p e s m below meth c A Q C hw hR ls hl
  exact tX11_small_b0 C hR hh hw hl
theorem cdX11_small : yX11_small.cls = RX11 ∧ yX11_small.cls ≠ "java/lang/invoke/MethodHandle" ∧ yX11_small.cls ≠ "java/lang/invoke/VarHandle" ∧ (parseMethodDescriptor yX11_small.desc).map (fun d => d.parameters.length) = some 2 := by decide +kernel
abbrev rmX11_wallsBy : Room := { frames := 3, cells := 0, slots := 0, locals := 67 }
set_option maxHeartbeats 4000000 in
set_option maxRecDepth 100000 in
theorem tX11_wallsBy_b41 {B6 : (Nat → Int32) → (Nat → Nat → Int32) → Int32 → Int32 → Prop} {K : ((Nat → Int32) × (Nat → Nat → Int32)) → Prop} (C : CallFix p m c cX11_wallsBy 3 s args wsX11_wallsBy RX11) (hR : Rtv p l e rmX11_wallsBy s m args below meth c cX11_wallsBy D A (mT cI cZ) (mWu o h cI cZ) K Q) (hB6 : ∀ (f : Nat → Int32) (g : Nat → Nat → Int32) (x1 : Int32) (x2 : Int32) (H : Heap) (locs : List Loc) (ls : Array Slot), B6 f g x1 x2 → Wd D A s (mT cI cZ) (mW o h cI cZ f g) H locs → lv_has ls 3 [(0, .ref o), (1, .int x1), (2, .int x2)] → W p l e rmX11_wallsBy s m args below meth c H locs 0 0 Q (F0 m 6 ls [])) {f : Nat → Int32} {g : Nat → Nat → Int32} {x1 : Int32} {x2 : Int32} (hh : wpX11_wallsBy_b41 B6 f g x1 x2 K) {H : Heap} {locs : List Loc} {ls : Array Slot} (hw : Wd D A s (mT cI cZ) (mW o h cI cZ f g) H locs) (hl : lv_has ls 3 [(0, .ref o), (1, .int x1), (2, .int x2)]) : W p l e rmX11_wallsBy s m args below meth c H locs 0 0 Q (F0 m 41 ls []) := by
  unfold wpX11_wallsBy_b41 at hh
  refine lv_iinc (v := x2 + (1 : Int32)) (lv' := [(2, .int (x2 + (1 : Int32))), (0, .ref o), (1, .int x1)]) C.1 C.2.1 dX11_wallsBy_41 hl (k := 2) rfl rfl (by decide) rfl (fun ls hl => ?_)
  refine lv_goto (tgt := 6) C.1 C.2.1 dX11_wallsBy_44 (by decide) ?_
  exact hB6 _ _ _ _ _ _ _ hh hw (lv_sub hl [1, 2, 0] rfl)
set_option maxHeartbeats 4000000 in
set_option maxRecDepth 100000 in
theorem tX11_wallsBy_b6_body {B6 : (Nat → Int32) → (Nat → Nat → Int32) → Int32 → Int32 → Prop} {K : ((Nat → Int32) × (Nat → Nat → Int32)) → Prop} (C : CallFix p m c cX11_wallsBy 3 s args wsX11_wallsBy RX11) (hR : Rtv p l e rmX11_wallsBy s m args below meth c cX11_wallsBy D A (mT cI cZ) (mWu o h cI cZ) K Q) (hB6 : ∀ (f : Nat → Int32) (g : Nat → Nat → Int32) (x1 : Int32) (x2 : Int32) (H : Heap) (locs : List Loc) (ls : Array Slot), B6 f g x1 x2 → Wd D A s (mT cI cZ) (mW o h cI cZ f g) H locs → lv_has ls 3 [(0, .ref o), (1, .int x1), (2, .int x2)] → W p l e rmX11_wallsBy s m args below meth c H locs 0 0 Q (F0 m 6 ls [])) {f : Nat → Int32} {g : Nat → Nat → Int32} {x1 : Int32} {x2 : Int32} (hh : wpX11_wallsBy_b6_body B6 f g x1 x2 K) {H : Heap} {locs : List Loc} {ls : Array Slot} (hw : Wd D A s (mT cI cZ) (mW o h cI cZ f g) H locs) (hl : lv_has ls 3 [(0, .ref o), (1, .int x1), (2, .int x2)]) : W p l e rmX11_wallsBy s m args below meth c H locs 0 0 Q (F0 m 6 ls []) := by
  unfold wpX11_wallsBy_b6_body at hh
  refine lv_iload_n C.1 C.2.1 dX11_wallsBy_6 rfl (lv_at hl 2 rfl) ?_
  refine lv_aload_n C.1 C.2.1 dX11_wallsBy_7 rfl (lv_at hl 0 rfl) ?_
  refine m_Vi C hw (ctX11_wallMany l D o h cI cZ f g  hh) (cwV 0 C.2.2.2.2 (gd_V w_1937 w_1939 w_97 w_125 w_1940) rfl rfl rfl cdX11_wallMany ⟨Nat.le_of_ble_eq_true rfl, Nat.le_of_ble_eq_true rfl⟩) rfl hl.1 (Nat.le_of_ble_eq_true rfl) dX11_wallsBy_8 ⟨Nat.zero_le _, Nat.zero_le _⟩ (fun r8 u8 H locs hh hw => ?_) rfl
  refine lv_icmp_ge (tgt := 47) C.1 C.2.1 dX11_wallsBy_11 (by decide) (fun c11 => ?_) (fun c11 => ?_)
  · replace hh := hh.1 c11
    refine lv_aload_n C.1 C.2.1 dX11_wallsBy_47 rfl (lv_at hl 0 rfl) ?_
    refine m_Vv C hw (ctX11_layFar l D o h cI cZ u8.1 u8.2  hh) (cwV 0 C.2.2.2.2 (gd_V w_1886 w_1888 w_90 w_125 w_1889) rfl rfl rfl cdX11_layFar ⟨Nat.le_of_ble_eq_true rfl, Nat.le_of_ble_eq_true rfl⟩) rfl hl.1 (Nat.le_of_ble_eq_true rfl) dX11_wallsBy_48 ⟨Nat.zero_le _, Nat.zero_le _⟩ (fun u48 H locs hh hw => ?_) rfl
    exact hR _ _ (u48.1, u48.2) _ _ dX11_wallsBy_51 hh hw
  · replace hh := hh.2 c11
    refine lv_iload_n C.1 C.2.1 dX11_wallsBy_14 rfl (lv_at hl 1 rfl) ?_
    refine lv_iload_n C.1 C.2.1 dX11_wallsBy_15 rfl (lv_at hl 2 rfl) ?_
    refine wd_Si C hw (ctX11_isOf l D x1 x2 hh) (va_cwS 2 C.2.2.2.2 (gd_S w_1823 w_1824 (ini_cls rfl w_125) w_1825) rfl rfl rfl cdX11_isOf ⟨Nat.le_of_ble_eq_true rfl, Nat.le_of_ble_eq_true rfl⟩) rfl hl.1 (Nat.le_of_ble_eq_true rfl) dX11_wallsBy_16 ⟨Nat.zero_le _, Nat.zero_le _⟩ (fun r16 H locs hh hw => ?_) rfl
    refine lv_if_eq (tgt := 41) C.1 C.2.1 dX11_wallsBy_19 (by decide) (fun c19 => ?_) (fun c19 => ?_)
    · replace hh := hh.1 c19
      exact tX11_wallsBy_b41 C hR hB6 hh hw hl
    · replace hh := hh.2 c19
      refine lv_aload_n C.1 C.2.1 dX11_wallsBy_22 rfl (lv_at hl 0 rfl) ?_
      refine lv_aload_n C.1 C.2.1 dX11_wallsBy_23 rfl (lv_at hl 0 rfl) ?_
      refine lv_iload_n C.1 C.2.1 dX11_wallsBy_24 rfl (lv_at hl 2 rfl) ?_
      refine m_Vi C hw (ctX11_wallAt l D o h cI cZ u8.1 u8.2 x2 hh) (cwV 1 C.2.2.2.2 (gd_V w_1945 w_1947 w_99 w_125 w_1948) rfl rfl rfl cdX11_wallAt ⟨Nat.le_of_ble_eq_true rfl, Nat.le_of_ble_eq_true rfl⟩) rfl hl.1 (Nat.le_of_ble_eq_true rfl) dX11_wallsBy_25 ⟨Nat.zero_le _, Nat.zero_le _⟩ (fun r25 u25 H locs hh hw => ?_) rfl
      refine lv_iconst (v := (4 : Int32)) C.1 C.2.1 dX11_wallsBy_28 (by decide) ?_
      refine lv_idiv C.1 C.2.1 dX11_wallsBy_29 (by decide) ?_
      refine lv_aload_n C.1 C.2.1 dX11_wallsBy_30 rfl (lv_at hl 0 rfl) ?_
      refine lv_iload_n C.1 C.2.1 dX11_wallsBy_31 rfl (lv_at hl 2 rfl) ?_
      refine m_Vi C hw (ctX11_wallAt l D o h cI cZ u25.1 u25.2 x2 hh) (cwV 1 C.2.2.2.2 (gd_V w_1945 w_1947 w_99 w_125 w_1948) rfl rfl rfl cdX11_wallAt ⟨Nat.le_of_ble_eq_true rfl, Nat.le_of_ble_eq_true rfl⟩) rfl hl.1 (Nat.le_of_ble_eq_true rfl) dX11_wallsBy_32 ⟨Nat.zero_le _, Nat.zero_le _⟩ (fun r32 u32 H locs hh hw => ?_) rfl
      refine lv_iconst (v := (4 : Int32)) C.1 C.2.1 dX11_wallsBy_35 (by decide) ?_
      refine g_irem C dX11_wallsBy_36 (by decide) ?_
      refine lv_iconst (v := (1 : Int32)) C.1 C.2.1 dX11_wallsBy_37 (by decide) ?_
      refine m_Vv C hw (ctX11_putWall l D o h cI cZ u32.1 u32.2 (r25 / (4 : Int32)) (jrem r32 (4 : Int32)) (1 : Int32) hh) (cwV 3 C.2.2.2.2 (gd_V w_1826 w_1828 w_82 w_125 w_1829) rfl rfl rfl cdX11_putWall ⟨Nat.le_of_ble_eq_true rfl, Nat.le_of_ble_eq_true rfl⟩) rfl hl.1 (Nat.le_of_ble_eq_true rfl) dX11_wallsBy_38 ⟨Nat.zero_le _, Nat.zero_le _⟩ (fun u38 H locs hh hw => ?_) rfl
      exact tX11_wallsBy_b41 C hR hB6 hh hw hl
theorem tX11_wallsBy_b6 {K : ((Nat → Int32) × (Nat → Nat → Int32)) → Prop} (C : CallFix p m c cX11_wallsBy 3 s args wsX11_wallsBy RX11) (hR : Rtv p l e rmX11_wallsBy s m args below meth c cX11_wallsBy D A (mT cI cZ) (mWu o h cI cZ) K Q) (n : Nat) : ∀ (f : Nat → Int32) (g : Nat → Nat → Int32) (x1 : Int32) (x2 : Int32) (H : Heap) (locs : List Loc) (ls : Array Slot), wpX11_wallsBy_b6 n f g x1 x2 K → Wd D A s (mT cI cZ) (mW o h cI cZ f g) H locs → lv_has ls 3 [(0, .ref o), (1, .int x1), (2, .int x2)] → W p l e rmX11_wallsBy s m args below meth c H locs 0 0 Q (F0 m 6 ls []) := by
  induction n with
  | zero => intro f g x1 x2 H locs ls hh; exact hh.elim
  | succ n ih => intro f g x1 x2 H locs ls hh hw hl; exact tX11_wallsBy_b6_body C hR ih hh hw hl
set_option maxHeartbeats 4000000 in
set_option maxRecDepth 100000 in
theorem tX11_wallsBy_b0 {K : ((Nat → Int32) × (Nat → Nat → Int32)) → Prop} (C : CallFix p m c cX11_wallsBy 3 s args wsX11_wallsBy RX11) (hR : Rtv p l e rmX11_wallsBy s m args below meth c cX11_wallsBy D A (mT cI cZ) (mWu o h cI cZ) K Q) {f : Nat → Int32} {g : Nat → Nat → Int32} {x1 : Int32} (hh : wpX11_wallsBy_b0 f g x1 K) {H : Heap} {locs : List Loc} {ls : Array Slot} (hw : Wd D A s (mT cI cZ) (mW o h cI cZ f g) H locs) (hl : lv_has ls 3 [(0, .ref o), (1, .int x1)]) : W p l e rmX11_wallsBy s m args below meth c H locs 0 0 Q (F0 m 0 ls []) := by
  unfold wpX11_wallsBy_b0 at hh
  refine lv_aload_n C.1 C.2.1 dX11_wallsBy_0 rfl (lv_at hl 0 rfl) ?_
  refine m_Vv C hw (ctX11_plainWalls l D o h cI cZ f g  hh) (cwV 0 C.2.2.2.2 (gd_V w_1450 w_1452 w_53 w_125 w_1453) rfl rfl rfl cdX11_plainWalls ⟨Nat.le_of_ble_eq_true rfl, Nat.le_of_ble_eq_true rfl⟩) rfl hl.1 (Nat.le_of_ble_eq_true rfl) dX11_wallsBy_1 ⟨Nat.zero_le _, Nat.zero_le _⟩ (fun u1 H locs hh hw => ?_) rfl
  refine lv_iconst (v := (0 : Int32)) C.1 C.2.1 dX11_wallsBy_4 (by decide) ?_
  refine lv_istore_n (lv' := [(2, .int (0 : Int32)), (0, .ref o), (1, .int x1)]) C.1 C.2.1 dX11_wallsBy_5 rfl hl (by decide) rfl (fun ls hl => ?_)
  obtain ⟨n, hh⟩ := hh
  exact tX11_wallsBy_b6 C hR n _ _ _ _ _ _ _ hh hw (lv_sub hl [1, 2, 0] rfl)
theorem ctX11_wallsBy (l : Launch) (D : va_G) (o : Nat) (h : Nat → Nat) (cI cZ : ClassId) (f : Nat → Int32) (g : Nat → Nat → Int32) (x1 : Int32) {K : ((Nat → Int32) × (Nat → Nat → Int32)) → Prop} (hh : wpX11_wallsBy f g x1 K) : Cv l yX11_wallsBy wsX11_wallsBy rmX11_wallsBy [.ref o, .int x1] D (mT cI cZ) (mWu o h cI cZ) (f, g) K := by
  refine Cv_of (cc := cX11_wallsBy) (maxL := 3) (by decide) rfl (Nat.le_of_ble_eq_true rfl) ?_
  intro p e s m below meth c A Q C hw hR ls hl
  exact tX11_wallsBy_b0 C hR hh hw hl
theorem cdX11_wallsBy : yX11_wallsBy.cls = RX11 ∧ yX11_wallsBy.cls ≠ "java/lang/invoke/MethodHandle" ∧ yX11_wallsBy.cls ≠ "java/lang/invoke/VarHandle" ∧ (parseMethodDescriptor yX11_wallsBy.desc).map (fun d => d.parameters.length) = some 1 := by decide +kernel
abbrev rmX11_laySmallRun : Room := { frames := 6, cells := 0, slots := 0, locals := 130 }
set_option maxHeartbeats 4000000 in
set_option maxRecDepth 100000 in
theorem tX11_laySmallRun_b78 {K : ((Nat → Int32) × (Nat → Nat → Int32)) → Prop} (C : CallFix p m c cX11_laySmallRun 5 s args wsX11_laySmallRun RX11) (hR : Rtv p l e rmX11_laySmallRun s m args below meth c cX11_laySmallRun D A (mT cI cZ) (mWu o h cI cZ) K Q) {f : Nat → Int32} {g : Nat → Nat → Int32} (hh : wpX11_laySmallRun_b78 f g K) {H : Heap} {locs : List Loc} {ls : Array Slot} (hw : Wd D A s (mT cI cZ) (mW o h cI cZ f g) H locs) (hl : lv_has ls 5 [(0, .ref o)]) : W p l e rmX11_laySmallRun s m args below meth c H locs 0 0 Q (F0 m 78 ls []) := by
  unfold wpX11_laySmallRun_b78 at hh
  exact hR _ _ (f, g) _ _ dX11_laySmallRun_78 hh hw
set_option maxHeartbeats 4000000 in
set_option maxRecDepth 100000 in
theorem tX11_laySmallRun_b45 {K : ((Nat → Int32) × (Nat → Nat → Int32)) → Prop} (C : CallFix p m c cX11_laySmallRun 5 s args wsX11_laySmallRun RX11) (hR : Rtv p l e rmX11_laySmallRun s m args below meth c cX11_laySmallRun D A (mT cI cZ) (mWu o h cI cZ) K Q) {f : Nat → Int32} {g : Nat → Nat → Int32} {x1 : Int32} {x2 : Int32} {x3 : Int32} {x4 : Int32} (hh : wpX11_laySmallRun_b45 f g x1 x2 x3 x4 K) {H : Heap} {locs : List Loc} {ls : Array Slot} (hw : Wd D A s (mT cI cZ) (mW o h cI cZ f g) H locs) (hl : lv_has ls 5 [(0, .ref o), (1, .int x1), (2, .int x2), (3, .int x3), (4, .int x4)]) : W p l e rmX11_laySmallRun s m args below meth c H locs 0 0 Q (F0 m 45 ls []) := by
  unfold wpX11_laySmallRun_b45 at hh
  refine lv_iload C.1 C.2.1 dX11_laySmallRun_45 (lv_at hl 4 rfl) ?_
  refine lv_aload_n C.1 C.2.1 dX11_laySmallRun_47 rfl (lv_at hl 0 rfl) ?_
  refine m_ga C hw (inC inW11) 61 (by decide) (wc w_1523) mg_61 dX11_laySmallRun_48 ?_
  refine lv_iload_n C.1 C.2.1 dX11_laySmallRun_51 rfl (lv_at hl 1 rfl) ?_
  obtain ⟨hi52, hh⟩ := hh
  refine m_ial C hw mp_61 (x := g 61 (ix x1)) hi52 rfl dX11_laySmallRun_52 ?_
  refine lv_icmp_le (tgt := 78) C.1 C.2.1 dX11_laySmallRun_53 (by decide) (fun c53 => ?_) (fun c53 => ?_)
  · replace hh := hh.1 c53
    exact tX11_laySmallRun_b78 C hR hh hw (lv_sub hl [0] rfl)
  · replace hh := hh.2 c53
    refine lv_aload_n C.1 C.2.1 dX11_laySmallRun_56 rfl (lv_at hl 0 rfl) ?_
    refine m_ga C hw (inC inW11) 61 (by decide) (wc w_1523) mg_61 dX11_laySmallRun_57 ?_
    refine lv_iload_n C.1 C.2.1 dX11_laySmallRun_60 rfl (lv_at hl 1 rfl) ?_
    refine lv_iload C.1 C.2.1 dX11_laySmallRun_61 (lv_at hl 4 rfl) ?_
    obtain ⟨hi63, hh⟩ := hh
    refine m_ias C hw mp_61 mq_61 hi63 dX11_laySmallRun_63 (fun H locs hw => ?_)
    refine lv_aload_n C.1 C.2.1 dX11_laySmallRun_64 rfl (lv_at hl 0 rfl) ?_
    refine m_ga C hw (inC inW11) 62 (by decide) (wc w_1524) mg_62 dX11_laySmallRun_65 ?_
    refine lv_iload_n C.1 C.2.1 dX11_laySmallRun_68 rfl (lv_at hl 1 rfl) ?_
    refine lv_iload_n C.1 C.2.1 dX11_laySmallRun_69 rfl (lv_at hl 2 rfl) ?_
    obtain ⟨hi70, hh⟩ := hh
    refine m_ias C hw mp_62 mq_62 hi70 dX11_laySmallRun_70 (fun H locs hw => ?_)
    refine lv_aload_n C.1 C.2.1 dX11_laySmallRun_71 rfl (lv_at hl 0 rfl) ?_
    refine m_ga C hw (inC inW11) 63 (by decide) (wc w_1525) mg_63 dX11_laySmallRun_72 ?_
    refine lv_iload_n C.1 C.2.1 dX11_laySmallRun_75 rfl (lv_at hl 1 rfl) ?_
    refine lv_iload_n C.1 C.2.1 dX11_laySmallRun_76 rfl (lv_at hl 3 rfl) ?_
    obtain ⟨hi77, hh⟩ := hh
    refine m_ias C hw mp_63 mq_63 hi77 dX11_laySmallRun_77 (fun H locs hw => ?_)
    exact tX11_laySmallRun_b78 C hR hh hw (lv_sub hl [0] rfl)
set_option maxHeartbeats 4000000 in
set_option maxRecDepth 100000 in
theorem tX11_laySmallRun_b0 {K : ((Nat → Int32) × (Nat → Nat → Int32)) → Prop} (C : CallFix p m c cX11_laySmallRun 5 s args wsX11_laySmallRun RX11) (hR : Rtv p l e rmX11_laySmallRun s m args below meth c cX11_laySmallRun D A (mT cI cZ) (mWu o h cI cZ) K Q) {f : Nat → Int32} {g : Nat → Nat → Int32} {x1 : Int32} {x2 : Int32} {x3 : Int32} (hh : wpX11_laySmallRun_b0 f g x1 x2 x3 K) {H : Heap} {locs : List Loc} {ls : Array Slot} (hw : Wd D A s (mT cI cZ) (mW o h cI cZ f g) H locs) (hl : lv_has ls 5 [(0, .ref o), (1, .int x1), (2, .int x2), (3, .int x3)]) : W p l e rmX11_laySmallRun s m args below meth c H locs 0 0 Q (F0 m 0 ls []) := by
  unfold wpX11_laySmallRun_b0 at hh
  refine lv_aload_n C.1 C.2.1 dX11_laySmallRun_0 rfl (lv_at hl 0 rfl) ?_
  refine lv_iload_n C.1 C.2.1 dX11_laySmallRun_1 rfl (lv_at hl 3 rfl) ?_
  refine m_Vv C hw (ctX11_setDown l D o h cI cZ f g x3 hh) (cwV 1 C.2.2.2.2 (gd_V w_1910 w_1912 w_93 w_125 w_1913) rfl rfl rfl cdX11_setDown ⟨Nat.le_of_ble_eq_true rfl, Nat.le_of_ble_eq_true rfl⟩) rfl hl.1 (Nat.le_of_ble_eq_true rfl) dX11_laySmallRun_2 ⟨Nat.zero_le _, Nat.zero_le _⟩ (fun u2 H locs hh hw => ?_) rfl
  refine lv_aload_n C.1 C.2.1 dX11_laySmallRun_5 rfl (lv_at hl 0 rfl) ?_
  refine lv_bipush (v := (100 : Int32)) C.1 C.2.1 dX11_laySmallRun_6 (by decide) ?_
  refine m_Vi C hw (ctX11_comesIn l D o h cI cZ u2.1 u2.2 (100 : Int32) hh) (cwV 1 C.2.2.2.2 (gd_V w_1914 w_1916 w_94 w_125 w_1917) rfl rfl rfl cdX11_comesIn ⟨Nat.le_of_ble_eq_true rfl, Nat.le_of_ble_eq_true rfl⟩) rfl hl.1 (Nat.le_of_ble_eq_true rfl) dX11_laySmallRun_8 ⟨Nat.zero_le _, Nat.zero_le _⟩ (fun r8 u8 H locs hh hw => ?_) rfl
  refine lv_istore (lv' := [(4, .int r8), (0, .ref o), (1, .int x1), (2, .int x2), (3, .int x3)]) C.1 C.2.1 dX11_laySmallRun_11 hl (by decide) rfl (fun ls hl => ?_)
  refine lv_iload C.1 C.2.1 dX11_laySmallRun_13 (lv_at hl 0 rfl) ?_
  refine lv_bipush (v := (-2 : Int32)) C.1 C.2.1 dX11_laySmallRun_15 (by decide) ?_
  refine lv_icmp_ne (tgt := 45) C.1 C.2.1 dX11_laySmallRun_17 (by decide) (fun c17 => ?_) (fun c17 => ?_)
  · replace hh := hh.1 c17
    exact tX11_laySmallRun_b45 C hR hh hw (lv_sub hl [1, 2, 3, 4, 0] rfl)
  · replace hh := hh.2 c17
    refine lv_aload_n C.1 C.2.1 dX11_laySmallRun_20 rfl (lv_at hl 1 rfl) ?_
    refine m_ga C hw (inC inW11) 59 (by decide) (wc w_1521) mg_59 dX11_laySmallRun_21 ?_
    refine lv_iload_n C.1 C.2.1 dX11_laySmallRun_24 rfl (lv_at hl 2 rfl) ?_
    obtain ⟨hi25, hh⟩ := hh
    refine m_ial C hw mp_59 (x := u8.2 59 (ix x1)) hi25 rfl dX11_laySmallRun_25 ?_
    refine lv_bipush (v := (-2 : Int32)) C.1 C.2.1 dX11_laySmallRun_26 (by decide) ?_
    refine lv_icmp_ne (tgt := 45) C.1 C.2.1 dX11_laySmallRun_28 (by decide) (fun c28 => ?_) (fun c28 => ?_)
    · replace hh := hh.1 c28
      exact tX11_laySmallRun_b45 C hR hh hw (lv_sub hl [1, 2, 3, 4, 0] rfl)
    · replace hh := hh.2 c28
      refine lv_aload_n C.1 C.2.1 dX11_laySmallRun_31 rfl (lv_at hl 1 rfl) ?_
      refine m_ga C hw (inC inW11) 59 (by decide) (wc w_1521) mg_59 dX11_laySmallRun_32 ?_
      refine lv_iload_n C.1 C.2.1 dX11_laySmallRun_35 rfl (lv_at hl 2 rfl) ?_
      refine lv_iload_n C.1 C.2.1 dX11_laySmallRun_36 rfl (lv_at hl 3 rfl) ?_
      obtain ⟨hi37, hh⟩ := hh
      refine m_ias C hw mp_59 mq_59 hi37 dX11_laySmallRun_37 (fun H locs hw => ?_)
      refine lv_aload_n C.1 C.2.1 dX11_laySmallRun_38 rfl (lv_at hl 1 rfl) ?_
      refine m_ga C hw (inC inW11) 60 (by decide) (wc w_1522) mg_60 dX11_laySmallRun_39 ?_
      refine lv_iload_n C.1 C.2.1 dX11_laySmallRun_42 rfl (lv_at hl 2 rfl) ?_
      refine lv_iload_n C.1 C.2.1 dX11_laySmallRun_43 rfl (lv_at hl 4 rfl) ?_
      obtain ⟨hi44, hh⟩ := hh
      refine m_ias C hw mp_60 mq_60 hi44 dX11_laySmallRun_44 (fun H locs hw => ?_)
      exact tX11_laySmallRun_b45 C hR hh hw (lv_sub hl [1, 2, 3, 4, 0] rfl)
theorem ctX11_laySmallRun (l : Launch) (D : va_G) (o : Nat) (h : Nat → Nat) (cI cZ : ClassId) (f : Nat → Int32) (g : Nat → Nat → Int32) (x1 : Int32) (x2 : Int32) (x3 : Int32) {K : ((Nat → Int32) × (Nat → Nat → Int32)) → Prop} (hh : wpX11_laySmallRun f g x1 x2 x3 K) : Cv l yX11_laySmallRun wsX11_laySmallRun rmX11_laySmallRun [.ref o, .int x1, .int x2, .int x3] D (mT cI cZ) (mWu o h cI cZ) (f, g) K := by
  refine Cv_of (cc := cX11_laySmallRun) (maxL := 5) (by decide) rfl (Nat.le_of_ble_eq_true rfl) ?_
  intro p e s m below meth c A Q C hw hR ls hl
  exact tX11_laySmallRun_b0 C hR hh hw hl
theorem cdX11_laySmallRun : yX11_laySmallRun.cls = RX11 ∧ yX11_laySmallRun.cls ≠ "java/lang/invoke/MethodHandle" ∧ yX11_laySmallRun.cls ≠ "java/lang/invoke/VarHandle" ∧ (parseMethodDescriptor yX11_laySmallRun.desc).map (fun d => d.parameters.length) = some 3 := by decide +kernel
abbrev rmX11_laySmall : Room := { frames := 7, cells := 0, slots := 0, locals := 154 }
set_option maxHeartbeats 4000000 in
set_option maxRecDepth 100000 in
theorem tX11_laySmall_b113 {B64 : (Nat → Int32) → (Nat → Nat → Int32) → Int32 → Int32 → Prop} {B84 : (Nat → Int32) → (Nat → Nat → Int32) → Int32 → Int32 → Int32 → Prop} {K : ((Nat → Int32) × (Nat → Nat → Int32)) → Prop} (C : CallFix p m c cX11_laySmall 6 s args wsX11_laySmall RX11) (hR : Rtv p l e rmX11_laySmall s m args below meth c cX11_laySmall D A (mT cI cZ) (mWu o h cI cZ) K Q) (hB64 : ∀ (f : Nat → Int32) (g : Nat → Nat → Int32) (x3 : Int32) (x4 : Int32) (H : Heap) (locs : List Loc) (ls : Array Slot), B64 f g x3 x4 → Wd D A s (mT cI cZ) (mW o h cI cZ f g) H locs → lv_has ls 6 [(0, .ref o), (3, .int x3), (4, .int x4)] → W p l e rmX11_laySmall s m args below meth c H locs 0 0 Q (F0 m 64 ls [])) (hB84 : ∀ (f : Nat → Int32) (g : Nat → Nat → Int32) (x3 : Int32) (x4 : Int32) (x5 : Int32) (H : Heap) (locs : List Loc) (ls : Array Slot), B84 f g x3 x4 x5 → Wd D A s (mT cI cZ) (mW o h cI cZ f g) H locs → lv_has ls 6 [(0, .ref o), (3, .int x3), (4, .int x4), (5, .int x5)] → W p l e rmX11_laySmall s m args below meth c H locs 0 0 Q (F0 m 84 ls [])) {f : Nat → Int32} {g : Nat → Nat → Int32} {x3 : Int32} {x4 : Int32} {x5 : Int32} (hh : wpX11_laySmall_b113 B64 B84 f g x3 x4 x5 K) {H : Heap} {locs : List Loc} {ls : Array Slot} (hw : Wd D A s (mT cI cZ) (mW o h cI cZ f g) H locs) (hl : lv_has ls 6 [(0, .ref o), (3, .int x3), (4, .int x4), (5, .int x5)]) : W p l e rmX11_laySmall s m args below meth c H locs 0 0 Q (F0 m 113 ls []) := by
  unfold wpX11_laySmall_b113 at hh
  refine lv_iinc (v := x5 + (1 : Int32)) (lv' := [(5, .int (x5 + (1 : Int32))), (0, .ref o), (3, .int x3), (4, .int x4)]) C.1 C.2.1 dX11_laySmall_113 hl (k := 3) rfl rfl (by decide) rfl (fun ls hl => ?_)
  refine lv_goto (tgt := 84) C.1 C.2.1 dX11_laySmall_116 (by decide) ?_
  exact hB84 _ _ _ _ _ _ _ _ hh hw (lv_sub hl [1, 2, 3, 0] rfl)
set_option maxHeartbeats 4000000 in
set_option maxRecDepth 100000 in
theorem tX11_laySmall_b84_body {B64 : (Nat → Int32) → (Nat → Nat → Int32) → Int32 → Int32 → Prop} {B84 : (Nat → Int32) → (Nat → Nat → Int32) → Int32 → Int32 → Int32 → Prop} {K : ((Nat → Int32) × (Nat → Nat → Int32)) → Prop} (C : CallFix p m c cX11_laySmall 6 s args wsX11_laySmall RX11) (hR : Rtv p l e rmX11_laySmall s m args below meth c cX11_laySmall D A (mT cI cZ) (mWu o h cI cZ) K Q) (hB64 : ∀ (f : Nat → Int32) (g : Nat → Nat → Int32) (x3 : Int32) (x4 : Int32) (H : Heap) (locs : List Loc) (ls : Array Slot), B64 f g x3 x4 → Wd D A s (mT cI cZ) (mW o h cI cZ f g) H locs → lv_has ls 6 [(0, .ref o), (3, .int x3), (4, .int x4)] → W p l e rmX11_laySmall s m args below meth c H locs 0 0 Q (F0 m 64 ls [])) (hB84 : ∀ (f : Nat → Int32) (g : Nat → Nat → Int32) (x3 : Int32) (x4 : Int32) (x5 : Int32) (H : Heap) (locs : List Loc) (ls : Array Slot), B84 f g x3 x4 x5 → Wd D A s (mT cI cZ) (mW o h cI cZ f g) H locs → lv_has ls 6 [(0, .ref o), (3, .int x3), (4, .int x4), (5, .int x5)] → W p l e rmX11_laySmall s m args below meth c H locs 0 0 Q (F0 m 84 ls [])) {f : Nat → Int32} {g : Nat → Nat → Int32} {x3 : Int32} {x4 : Int32} {x5 : Int32} (hh : wpX11_laySmall_b84_body B64 B84 f g x3 x4 x5 K) {H : Heap} {locs : List Loc} {ls : Array Slot} (hw : Wd D A s (mT cI cZ) (mW o h cI cZ f g) H locs) (hl : lv_has ls 6 [(0, .ref o), (3, .int x3), (4, .int x4), (5, .int x5)]) : W p l e rmX11_laySmall s m args below meth c H locs 0 0 Q (F0 m 84 ls []) := by
  unfold wpX11_laySmall_b84_body at hh
  refine lv_iload C.1 C.2.1 dX11_laySmall_84 (lv_at hl 3 rfl) ?_
  refine lv_aload_n C.1 C.2.1 dX11_laySmall_86 rfl (lv_at hl 0 rfl) ?_
  refine m_Vi C hw (ctX11_squares l D o h cI cZ f g  hh) (cwV 0 C.2.2.2.2 (gd_V w_1454 w_1456 w_54 w_125 w_1457) rfl rfl rfl cdX11_squares ⟨Nat.le_of_ble_eq_true rfl, Nat.le_of_ble_eq_true rfl⟩) rfl hl.1 (Nat.le_of_ble_eq_true rfl) dX11_laySmall_87 ⟨Nat.zero_le _, Nat.zero_le _⟩ (fun r87 u87 H locs hh hw => ?_) rfl
  refine lv_icmp_ge (tgt := 119) C.1 C.2.1 dX11_laySmall_90 (by decide) (fun c90 => ?_) (fun c90 => ?_)
  · replace hh := hh.1 c90
    refine lv_iinc (v := x4 + (1 : Int32)) (lv' := [(4, .int (x4 + (1 : Int32))), (0, .ref o), (3, .int x3), (5, .int x5)]) C.1 C.2.1 dX11_laySmall_119 hl (k := 2) rfl rfl (by decide) rfl (fun ls hl => ?_)
    refine lv_goto (tgt := 64) C.1 C.2.1 dX11_laySmall_122 (by decide) ?_
    exact hB64 _ _ _ _ _ _ _ hh hw (lv_sub hl [1, 2, 0] rfl)
  · replace hh := hh.2 c90
    refine lv_aload_n C.1 C.2.1 dX11_laySmall_93 rfl (lv_at hl 0 rfl) ?_
    refine m_ga C hw (inC inW11) 54 (by decide) (wc w_1516) mg_54 dX11_laySmall_94 ?_
    refine lv_iload C.1 C.2.1 dX11_laySmall_97 (lv_at hl 3 rfl) ?_
    obtain ⟨hi99, hh⟩ := hh
    refine m_ial C hw mp_54 (x := u87.2 54 (ix x5)) hi99 rfl dX11_laySmall_99 ?_
    refine lv_iconst (v := (-1 : Int32)) C.1 C.2.1 dX11_laySmall_100 (by decide) ?_
    refine lv_icmp_eq (tgt := 113) C.1 C.2.1 dX11_laySmall_101 (by decide) (fun c101 => ?_) (fun c101 => ?_)
    · replace hh := hh.1 c101
      exact tX11_laySmall_b113 C hR hB64 hB84 hh hw hl
    · replace hh := hh.2 c101
      refine lv_aload_n C.1 C.2.1 dX11_laySmall_104 rfl (lv_at hl 0 rfl) ?_
      refine lv_iload_n C.1 C.2.1 dX11_laySmall_105 rfl (lv_at hl 1 rfl) ?_
      refine lv_iload C.1 C.2.1 dX11_laySmall_106 (lv_at hl 2 rfl) ?_
      refine lv_iload C.1 C.2.1 dX11_laySmall_108 (lv_at hl 3 rfl) ?_
      refine m_Vv C hw (ctX11_laySmallRun l D o h cI cZ u87.1 u87.2 x3 x4 x5 hh) (cwV 3 C.2.2.2.2 (gd_V w_1949 w_1951 w_100 w_125 w_1952) rfl rfl rfl cdX11_laySmallRun ⟨Nat.le_of_ble_eq_true rfl, Nat.le_of_ble_eq_true rfl⟩) rfl hl.1 (Nat.le_of_ble_eq_true rfl) dX11_laySmall_110 ⟨Nat.zero_le _, Nat.zero_le _⟩ (fun u110 H locs hh hw => ?_) rfl
      exact tX11_laySmall_b113 C hR hB64 hB84 hh hw hl
theorem tX11_laySmall_b84 {B64 : (Nat → Int32) → (Nat → Nat → Int32) → Int32 → Int32 → Prop} {K : ((Nat → Int32) × (Nat → Nat → Int32)) → Prop} (C : CallFix p m c cX11_laySmall 6 s args wsX11_laySmall RX11) (hR : Rtv p l e rmX11_laySmall s m args below meth c cX11_laySmall D A (mT cI cZ) (mWu o h cI cZ) K Q) (hB64 : ∀ (f : Nat → Int32) (g : Nat → Nat → Int32) (x3 : Int32) (x4 : Int32) (H : Heap) (locs : List Loc) (ls : Array Slot), B64 f g x3 x4 → Wd D A s (mT cI cZ) (mW o h cI cZ f g) H locs → lv_has ls 6 [(0, .ref o), (3, .int x3), (4, .int x4)] → W p l e rmX11_laySmall s m args below meth c H locs 0 0 Q (F0 m 64 ls [])) (n : Nat) : ∀ (f : Nat → Int32) (g : Nat → Nat → Int32) (x3 : Int32) (x4 : Int32) (x5 : Int32) (H : Heap) (locs : List Loc) (ls : Array Slot), wpX11_laySmall_b84 B64 n f g x3 x4 x5 K → Wd D A s (mT cI cZ) (mW o h cI cZ f g) H locs → lv_has ls 6 [(0, .ref o), (3, .int x3), (4, .int x4), (5, .int x5)] → W p l e rmX11_laySmall s m args below meth c H locs 0 0 Q (F0 m 84 ls []) := by
  induction n with
  | zero => intro f g x3 x4 x5 H locs ls hh; exact hh.elim
  | succ n ih => intro f g x3 x4 x5 H locs ls hh hw hl; exact tX11_laySmall_b84_body C hR hB64 ih hh hw hl
set_option maxHeartbeats 4000000 in
set_option maxRecDepth 100000 in
theorem tX11_laySmall_b64_body {B64 : (Nat → Int32) → (Nat → Nat → Int32) → Int32 → Int32 → Prop} {K : ((Nat → Int32) × (Nat → Nat → Int32)) → Prop} (C : CallFix p m c cX11_laySmall 6 s args wsX11_laySmall RX11) (hR : Rtv p l e rmX11_laySmall s m args below meth c cX11_laySmall D A (mT cI cZ) (mWu o h cI cZ) K Q) (hB64 : ∀ (f : Nat → Int32) (g : Nat → Nat → Int32) (x3 : Int32) (x4 : Int32) (H : Heap) (locs : List Loc) (ls : Array Slot), B64 f g x3 x4 → Wd D A s (mT cI cZ) (mW o h cI cZ f g) H locs → lv_has ls 6 [(0, .ref o), (3, .int x3), (4, .int x4)] → W p l e rmX11_laySmall s m args below meth c H locs 0 0 Q (F0 m 64 ls [])) {f : Nat → Int32} {g : Nat → Nat → Int32} {x3 : Int32} {x4 : Int32} (hh : wpX11_laySmall_b64_body B64 f g x3 x4 K) {H : Heap} {locs : List Loc} {ls : Array Slot} (hw : Wd D A s (mT cI cZ) (mW o h cI cZ f g) H locs) (hl : lv_has ls 6 [(0, .ref o), (3, .int x3), (4, .int x4)]) : W p l e rmX11_laySmall s m args below meth c H locs 0 0 Q (F0 m 64 ls []) := by
  unfold wpX11_laySmall_b64_body at hh
  refine lv_iload C.1 C.2.1 dX11_laySmall_64 (lv_at hl 2 rfl) ?_
  refine lv_iconst (v := (1 : Int32)) C.1 C.2.1 dX11_laySmall_66 (by decide) ?_
  refine lv_aload_n C.1 C.2.1 dX11_laySmall_67 rfl (lv_at hl 0 rfl) ?_
  refine m_Vi C hw (ctX11_wallMany l D o h cI cZ f g  hh) (cwV 0 C.2.2.2.2 (gd_V w_1937 w_1939 w_97 w_125 w_1940) rfl rfl rfl cdX11_wallMany ⟨Nat.le_of_ble_eq_true rfl, Nat.le_of_ble_eq_true rfl⟩) rfl hl.1 (Nat.le_of_ble_eq_true rfl) dX11_laySmall_68 ⟨Nat.zero_le _, Nat.zero_le _⟩ (fun r68 u68 H locs hh hw => ?_) rfl
  refine g_ishl C dX11_laySmall_71 ?_
  refine lv_icmp_ge (tgt := 125) C.1 C.2.1 dX11_laySmall_72 (by decide) (fun c72 => ?_) (fun c72 => ?_)
  · replace hh := hh.1 c72
    refine lv_aload_n C.1 C.2.1 dX11_laySmall_125 rfl (lv_at hl 0 rfl) ?_
    refine lv_iconst (v := (4 : Int32)) C.1 C.2.1 dX11_laySmall_126 (by decide) ?_
    refine m_Vv C hw (ctX11_takes l D o h cI cZ u68.1 u68.2 (4 : Int32) hh) (cwV 1 C.2.2.2.2 (gd_V w_1902 w_1904 w_92 w_125 w_1905) rfl rfl rfl cdX11_takes ⟨Nat.le_of_ble_eq_true rfl, Nat.le_of_ble_eq_true rfl⟩) rfl hl.1 (Nat.le_of_ble_eq_true rfl) dX11_laySmall_127 ⟨Nat.zero_le _, Nat.zero_le _⟩ (fun u127 H locs hh hw => ?_) rfl
    exact hR _ _ (u127.1, u127.2) _ _ dX11_laySmall_130 hh hw
  · replace hh := hh.2 c72
    refine lv_aload_n C.1 C.2.1 dX11_laySmall_75 rfl (lv_at hl 0 rfl) ?_
    refine lv_iload C.1 C.2.1 dX11_laySmall_76 (lv_at hl 2 rfl) ?_
    refine m_Vv C hw (ctX11_wallsBy l D o h cI cZ u68.1 u68.2 x4 hh) (cwV 1 C.2.2.2.2 (gd_V w_1941 w_1943 w_98 w_125 w_1944) rfl rfl rfl cdX11_wallsBy ⟨Nat.le_of_ble_eq_true rfl, Nat.le_of_ble_eq_true rfl⟩) rfl hl.1 (Nat.le_of_ble_eq_true rfl) dX11_laySmall_78 ⟨Nat.zero_le _, Nat.zero_le _⟩ (fun u78 H locs hh hw => ?_) rfl
    refine lv_iconst (v := (0 : Int32)) C.1 C.2.1 dX11_laySmall_81 (by decide) ?_
    refine lv_istore (lv' := [(5, .int (0 : Int32)), (0, .ref o), (3, .int x3), (4, .int x4)]) C.1 C.2.1 dX11_laySmall_82 hl (by decide) rfl (fun ls hl => ?_)
    obtain ⟨n, hh⟩ := hh
    exact tX11_laySmall_b84 C hR hB64 n _ _ _ _ _ _ _ _ hh hw (lv_sub hl [1, 2, 3, 0] rfl)
theorem tX11_laySmall_b64 {K : ((Nat → Int32) × (Nat → Nat → Int32)) → Prop} (C : CallFix p m c cX11_laySmall 6 s args wsX11_laySmall RX11) (hR : Rtv p l e rmX11_laySmall s m args below meth c cX11_laySmall D A (mT cI cZ) (mWu o h cI cZ) K Q) (n : Nat) : ∀ (f : Nat → Int32) (g : Nat → Nat → Int32) (x3 : Int32) (x4 : Int32) (H : Heap) (locs : List Loc) (ls : Array Slot), wpX11_laySmall_b64 n f g x3 x4 K → Wd D A s (mT cI cZ) (mW o h cI cZ f g) H locs → lv_has ls 6 [(0, .ref o), (3, .int x3), (4, .int x4)] → W p l e rmX11_laySmall s m args below meth c H locs 0 0 Q (F0 m 64 ls []) := by
  induction n with
  | zero => intro f g x3 x4 H locs ls hh; exact hh.elim
  | succ n ih => intro f g x3 x4 H locs ls hh hw hl; exact tX11_laySmall_b64_body C hR ih hh hw hl
set_option maxHeartbeats 4000000 in
set_option maxRecDepth 100000 in
theorem tX11_laySmall_b0 {K : ((Nat → Int32) × (Nat → Nat → Int32)) → Prop} (C : CallFix p m c cX11_laySmall 6 s args wsX11_laySmall RX11) (hR : Rtv p l e rmX11_laySmall s m args below meth c cX11_laySmall D A (mT cI cZ) (mWu o h cI cZ) K Q) {f : Nat → Int32} {g : Nat → Nat → Int32} {x1 : Int32} {x2 : Int32} (hh : wpX11_laySmall_b0 f g x1 x2 K) {H : Heap} {locs : List Loc} {ls : Array Slot} (hw : Wd D A s (mT cI cZ) (mW o h cI cZ f g) H locs) (hl : lv_has ls 6 [(0, .ref o), (1, .int x1), (2, .int x2)]) : W p l e rmX11_laySmall s m args below meth c H locs 0 0 Q (F0 m 0 ls []) := by
  unfold wpX11_laySmall_b0 at hh
  refine lv_iconst (v := (4 : Int32)) C.1 C.2.1 dX11_laySmall_0 (by decide) ?_
  refine lv_iload_n C.1 C.2.1 dX11_laySmall_1 rfl (lv_at hl 1 rfl) ?_
  refine lv_iconst (v := (2 : Int32)) C.1 C.2.1 dX11_laySmall_2 (by decide) ?_
  refine lv_isub C.1 C.2.1 dX11_laySmall_3 ?_
  refine lv_imul C.1 C.2.1 dX11_laySmall_4 ?_
  refine lv_iload_n C.1 C.2.1 dX11_laySmall_5 rfl (lv_at hl 2 rfl) ?_
  refine lv_iadd C.1 C.2.1 dX11_laySmall_6 ?_
  refine lv_iconst (v := (2 : Int32)) C.1 C.2.1 dX11_laySmall_7 (by decide) ?_
  refine lv_isub C.1 C.2.1 dX11_laySmall_8 ?_
  refine lv_topi (fun y9 ey9 => ?_)
  replace hh := hh y9 ey9
  refine lv_istore_n (lv' := [(3, .int y9), (0, .ref o), (1, .int x1), (2, .int x2)]) C.1 C.2.1 dX11_laySmall_9 rfl hl (by decide) rfl (fun ls hl => ?_)
  refine lv_aload_n C.1 C.2.1 dX11_laySmall_10 rfl (lv_at hl 1 rfl) ?_
  refine m_ga C hw (inC inW11) 58 (by decide) (wc w_1520) mg_58 dX11_laySmall_11 ?_
  refine lv_iload_n C.1 C.2.1 dX11_laySmall_14 rfl (lv_at hl 0 rfl) ?_
  obtain ⟨hi15, hh⟩ := hh
  refine m_zal C hw mp_58 (x := g 58 (ix y9)) hi15 rfl dX11_laySmall_15 ?_
  refine lv_if_eq (tgt := 20) C.1 C.2.1 dX11_laySmall_16 (by decide) (fun c16 => ?_) (fun c16 => ?_)
  · replace hh := hh.1 c16
    refine lv_aload_n C.1 C.2.1 dX11_laySmall_20 rfl (lv_at hl 1 rfl) ?_
    refine m_ga C hw (inC inW11) 58 (by decide) (wc w_1520) mg_58 dX11_laySmall_21 ?_
    refine lv_iload_n C.1 C.2.1 dX11_laySmall_24 rfl (lv_at hl 0 rfl) ?_
    refine lv_iconst (v := (1 : Int32)) C.1 C.2.1 dX11_laySmall_25 (by decide) ?_
    obtain ⟨hi26, hh⟩ := hh
    refine m_zas C hw mp_58 mq_58 hi26 dX11_laySmall_26 (fun H locs hw => ?_)
    refine lv_aload_n C.1 C.2.1 dX11_laySmall_27 rfl (lv_at hl 1 rfl) ?_
    refine lv_iconst (v := (4 : Int32)) C.1 C.2.1 dX11_laySmall_28 (by decide) ?_
    refine m_Vv C hw (ctX11_puts l D o h cI cZ f (pt g 58 (ix y9) (vp_nar .boolean (1 : Int32))) (4 : Int32) hh) (cwV 1 C.2.2.2.2 (gd_V w_1894 w_1896 w_91 w_125 w_1897) rfl rfl rfl cdX11_puts ⟨Nat.le_of_ble_eq_true rfl, Nat.le_of_ble_eq_true rfl⟩) rfl hl.1 (Nat.le_of_ble_eq_true rfl) dX11_laySmall_29 ⟨Nat.zero_le _, Nat.zero_le _⟩ (fun u29 H locs hh hw => ?_) rfl
    refine lv_aload_n C.1 C.2.1 dX11_laySmall_32 rfl (lv_at hl 1 rfl) ?_
    refine lv_iload_n C.1 C.2.1 dX11_laySmall_33 rfl (lv_at hl 2 rfl) ?_
    refine lv_iload_n C.1 C.2.1 dX11_laySmall_34 rfl (lv_at hl 3 rfl) ?_
    refine m_Vv C hw (ctX11_small l D o h cI cZ u29.1 u29.2 x1 x2 hh) (cwV 2 C.2.2.2.2 (gd_V w_1933 w_1935 w_96 w_125 w_1936) rfl rfl rfl cdX11_small ⟨Nat.le_of_ble_eq_true rfl, Nat.le_of_ble_eq_true rfl⟩) rfl hl.1 (Nat.le_of_ble_eq_true rfl) dX11_laySmall_35 ⟨Nat.zero_le _, Nat.zero_le _⟩ (fun u35 H locs hh hw => ?_) rfl
    refine lv_aload_n C.1 C.2.1 dX11_laySmall_38 rfl (lv_at hl 1 rfl) ?_
    refine m_ga C hw (inC inW11) 59 (by decide) (wc w_1521) mg_59 dX11_laySmall_39 ?_
    refine lv_iload_n C.1 C.2.1 dX11_laySmall_42 rfl (lv_at hl 0 rfl) ?_
    refine lv_bipush (v := (-2 : Int32)) C.1 C.2.1 dX11_laySmall_43 (by decide) ?_
    obtain ⟨hi45, hh⟩ := hh
    refine m_ias C hw mp_59 mq_59 hi45 dX11_laySmall_45 (fun H locs hw => ?_)
    refine lv_aload_n C.1 C.2.1 dX11_laySmall_46 rfl (lv_at hl 1 rfl) ?_
    refine m_ga C hw (inC inW11) 60 (by decide) (wc w_1522) mg_60 dX11_laySmall_47 ?_
    refine lv_iload_n C.1 C.2.1 dX11_laySmall_50 rfl (lv_at hl 0 rfl) ?_
    refine lv_bipush (v := (-2 : Int32)) C.1 C.2.1 dX11_laySmall_51 (by decide) ?_
    obtain ⟨hi53, hh⟩ := hh
    refine m_ias C hw mp_60 mq_60 hi53 dX11_laySmall_53 (fun H locs hw => ?_)
    refine lv_aload_n C.1 C.2.1 dX11_laySmall_54 rfl (lv_at hl 1 rfl) ?_
    refine m_ga C hw (inC inW11) 61 (by decide) (wc w_1523) mg_61 dX11_laySmall_55 ?_
    refine lv_iload_n C.1 C.2.1 dX11_laySmall_58 rfl (lv_at hl 0 rfl) ?_
    refine lv_iconst (v := (-1 : Int32)) C.1 C.2.1 dX11_laySmall_59 (by decide) ?_
    obtain ⟨hi60, hh⟩ := hh
    refine m_ias C hw mp_61 mq_61 hi60 dX11_laySmall_60 (fun H locs hw => ?_)
    refine lv_iconst (v := (0 : Int32)) C.1 C.2.1 dX11_laySmall_61 (by decide) ?_
    refine lv_istore (lv' := [(4, .int (0 : Int32)), (3, .int y9), (0, .ref o), (1, .int x1), (2, .int x2)]) C.1 C.2.1 dX11_laySmall_62 hl (by decide) rfl (fun ls hl => ?_)
    obtain ⟨n, hh⟩ := hh
    exact tX11_laySmall_b64 C hR n _ _ _ _ _ _ _ hh hw (lv_sub hl [2, 1, 0] rfl)
  · replace hh := hh.2 c16
    exact hR _ _ (f, g) _ _ dX11_laySmall_19 hh hw
theorem ctX11_laySmall (l : Launch) (D : va_G) (o : Nat) (h : Nat → Nat) (cI cZ : ClassId) (f : Nat → Int32) (g : Nat → Nat → Int32) (x1 : Int32) (x2 : Int32) {K : ((Nat → Int32) × (Nat → Nat → Int32)) → Prop} (hh : wpX11_laySmall f g x1 x2 K) : Cv l yX11_laySmall wsX11_laySmall rmX11_laySmall [.ref o, .int x1, .int x2] D (mT cI cZ) (mWu o h cI cZ) (f, g) K := by
  refine Cv_of (cc := cX11_laySmall) (maxL := 6) (by decide) rfl (Nat.le_of_ble_eq_true rfl) ?_
  intro p e s m below meth c A Q C hw hR ls hl
  exact tX11_laySmall_b0 C hR hh hw hl
theorem cdX11_laySmall : yX11_laySmall.cls = RX11 ∧ yX11_laySmall.cls ≠ "java/lang/invoke/MethodHandle" ∧ yX11_laySmall.cls ≠ "java/lang/invoke/VarHandle" ∧ (parseMethodDescriptor yX11_laySmall.desc).map (fun d => d.parameters.length) = some 2 := by decide +kernel
abbrev rmX11_held : Room := { frames := 8, cells := 0, slots := 0, locals := 179 }
set_option maxHeartbeats 4000000 in
set_option maxRecDepth 100000 in
theorem tX11_held_b22 {K : Int32 → ((Nat → Int32) × (Nat → Nat → Int32)) → Prop} (C : CallFix p m c cX11_held 5 s args wsX11_held RX11) (hR : Rti .int p l e rmX11_held s m args below meth c cX11_held D A (mT cI cZ) (mWu o h cI cZ) K Q) {f : Nat → Int32} {g : Nat → Nat → Int32} (hh : wpX11_held_b22 f g K) {H : Heap} {locs : List Loc} {ls : Array Slot} (hw : Wd D A s (mT cI cZ) (mW o h cI cZ f g) H locs) (hl : lv_has ls 5 [(0, .ref o)]) : W p l e rmX11_held s m args below meth c H locs 0 0 Q (F0 m 22 ls []) := by
  unfold wpX11_held_b22 at hh
  refine lv_iconst (v := (-1 : Int32)) C.1 C.2.1 dX11_held_22 (by decide) ?_
  exact hR _ _ _ (f, g) _ _ dX11_held_23 rfl hh hw
set_option maxHeartbeats 4000000 in
set_option maxRecDepth 100000 in
theorem tX11_held_b62 {K : Int32 → ((Nat → Int32) × (Nat → Nat → Int32)) → Prop} (C : CallFix p m c cX11_held 5 s args wsX11_held RX11) (hR : Rti .int p l e rmX11_held s m args below meth c cX11_held D A (mT cI cZ) (mWu o h cI cZ) K Q) {f : Nat → Int32} {g : Nat → Nat → Int32} {k0 : Int32} (hh : wpX11_held_b62 f g k0 K) {H : Heap} {locs : List Loc} {ls : Array Slot} (hw : Wd D A s (mT cI cZ) (mW o h cI cZ f g) H locs) (hl : lv_has ls 5 [(0, .ref o)]) : W p l e rmX11_held s m args below meth c H locs 0 0 Q (F0 m 62 ls [.int k0]) := by
  unfold wpX11_held_b62 at hh
  exact hR _ _ _ (f, g) _ _ dX11_held_62 rfl hh hw
set_option maxHeartbeats 4000000 in
set_option maxRecDepth 100000 in
theorem tX11_held_b0 {K : Int32 → ((Nat → Int32) × (Nat → Nat → Int32)) → Prop} (C : CallFix p m c cX11_held 5 s args wsX11_held RX11) (hR : Rti .int p l e rmX11_held s m args below meth c cX11_held D A (mT cI cZ) (mWu o h cI cZ) K Q) {f : Nat → Int32} {g : Nat → Nat → Int32} {x1 : Int32} {x2 : Int32} {x3 : Int32} (hh : wpX11_held_b0 f g x1 x2 x3 K) {H : Heap} {locs : List Loc} {ls : Array Slot} (hw : Wd D A s (mT cI cZ) (mW o h cI cZ f g) H locs) (hl : lv_has ls 5 [(0, .ref o), (1, .int x1), (2, .int x2), (3, .int x3)]) : W p l e rmX11_held s m args below meth c H locs 0 0 Q (F0 m 0 ls []) := by
  unfold wpX11_held_b0 at hh
  refine lv_aload_n C.1 C.2.1 dX11_held_0 rfl (lv_at hl 0 rfl) ?_
  refine lv_iconst (v := (0 : Int32)) C.1 C.2.1 dX11_held_1 (by decide) ?_
  refine m_pi C hw (inC inW11) 2 (by decide) (wc w_1464) rfl (ty := .int) (by decide +kernel) rfl rfl (Nat.le_of_ble_eq_true rfl) ms_2 dX11_held_2 (fun H locs hw => ?_)
  refine lv_iload_n C.1 C.2.1 dX11_held_5 rfl (lv_at hl 1 rfl) ?_
  refine lv_iload_n C.1 C.2.1 dX11_held_6 rfl (lv_at hl 2 rfl) ?_
  refine wd_Si C hw (ctX11_isSmallFloor l D x1 x2 hh) (va_cwS 2 C.2.2.2.2 (gd_S w_1926 w_1927 (ini_cls rfl w_125) w_1928) rfl rfl rfl cdX11_isSmallFloor ⟨Nat.le_of_ble_eq_true rfl, Nat.le_of_ble_eq_true rfl⟩) rfl hl.1 (Nat.le_of_ble_eq_true rfl) dX11_held_7 ⟨Nat.zero_le _, Nat.zero_le _⟩ (fun r7 H locs hh hw => ?_) rfl
  refine lv_if_eq (tgt := 22) C.1 C.2.1 dX11_held_10 (by decide) (fun c10 => ?_) (fun c10 => ?_)
  · replace hh := hh.1 c10
    exact tX11_held_b22 C hR hh hw (lv_sub hl [0] rfl)
  · replace hh := hh.2 c10
    refine lv_iload_n C.1 C.2.1 dX11_held_13 rfl (lv_at hl 3 rfl) ?_
    refine lv_iconst (v := (0 : Int32)) C.1 C.2.1 dX11_held_14 (by decide) ?_
    refine lv_iconst (v := (1 : Int32)) C.1 C.2.1 dX11_held_15 (by decide) ?_
    refine wd_Si C hw (ctX11_isIn l D x3 (0 : Int32) (1 : Int32) hh) (va_cwS 3 C.2.2.2.2 (gd_S w_1804 w_1805 (ini_cls rfl w_125) w_1806) rfl rfl rfl cdX11_isIn ⟨Nat.le_of_ble_eq_true rfl, Nat.le_of_ble_eq_true rfl⟩) rfl hl.1 (Nat.le_of_ble_eq_true rfl) dX11_held_16 ⟨Nat.zero_le _, Nat.zero_le _⟩ (fun r16 H locs hh hw => ?_) rfl
    refine lv_if_ne (tgt := 24) C.1 C.2.1 dX11_held_19 (by decide) (fun c19 => ?_) (fun c19 => ?_)
    · replace hh := hh.1 c19
      refine lv_aload_n C.1 C.2.1 dX11_held_24 rfl (lv_at hl 0 rfl) ?_
      refine lv_iload_n C.1 C.2.1 dX11_held_25 rfl (lv_at hl 1 rfl) ?_
      refine lv_iload_n C.1 C.2.1 dX11_held_26 rfl (lv_at hl 2 rfl) ?_
      refine m_Vv C hw (ctX11_laySmall l D o h cI cZ (upd f 2 (0 : Int32)) g x1 x2 hh) (cwV 2 C.2.2.2.2 (gd_V w_1929 w_1931 w_95 w_125 w_1932) rfl rfl rfl cdX11_laySmall ⟨Nat.le_of_ble_eq_true rfl, Nat.le_of_ble_eq_true rfl⟩) rfl hl.1 (Nat.le_of_ble_eq_true rfl) dX11_held_27 ⟨Nat.zero_le _, Nat.zero_le _⟩ (fun u27 H locs hh hw => ?_) rfl
      refine lv_iconst (v := (4 : Int32)) C.1 C.2.1 dX11_held_30 (by decide) ?_
      refine lv_iload_n C.1 C.2.1 dX11_held_31 rfl (lv_at hl 1 rfl) ?_
      refine lv_iconst (v := (2 : Int32)) C.1 C.2.1 dX11_held_32 (by decide) ?_
      refine lv_isub C.1 C.2.1 dX11_held_33 ?_
      refine lv_imul C.1 C.2.1 dX11_held_34 ?_
      refine lv_iload_n C.1 C.2.1 dX11_held_35 rfl (lv_at hl 2 rfl) ?_
      refine lv_iadd C.1 C.2.1 dX11_held_36 ?_
      refine lv_iconst (v := (2 : Int32)) C.1 C.2.1 dX11_held_37 (by decide) ?_
      refine lv_isub C.1 C.2.1 dX11_held_38 ?_
      refine lv_topi (fun y39 ey39 => ?_)
      replace hh := hh y39 ey39
      refine lv_istore (lv' := [(4, .int y39), (0, .ref o), (1, .int x1), (2, .int x2), (3, .int x3)]) C.1 C.2.1 dX11_held_39 hl (by decide) rfl (fun ls hl => ?_)
      refine lv_iload_n C.1 C.2.1 dX11_held_41 rfl (lv_at hl 4 rfl) ?_
      refine lv_if_ne (tgt := 55) C.1 C.2.1 dX11_held_42 (by decide) (fun c42 => ?_) (fun c42 => ?_)
      · replace hh := hh.1 c42
        refine lv_aload_n C.1 C.2.1 dX11_held_55 rfl (lv_at hl 1 rfl) ?_
        refine m_ga C hw (inC inW11) 60 (by decide) (wc w_1522) mg_60 dX11_held_56 ?_
        refine lv_iload C.1 C.2.1 dX11_held_59 (lv_at hl 0 rfl) ?_
        obtain ⟨hi61, hh⟩ := hh
        refine m_ial C hw mp_60 (x := u27.2 60 (ix y39)) hi61 rfl dX11_held_61 ?_
        exact tX11_held_b62 C hR hh hw (lv_sub hl [1] rfl)
      · replace hh := hh.2 c42
        refine lv_aload_n C.1 C.2.1 dX11_held_45 rfl (lv_at hl 1 rfl) ?_
        refine m_ga C hw (inC inW11) 59 (by decide) (wc w_1521) mg_59 dX11_held_46 ?_
        refine lv_iload C.1 C.2.1 dX11_held_49 (lv_at hl 0 rfl) ?_
        obtain ⟨hi51, hh⟩ := hh
        refine m_ial C hw mp_59 (x := u27.2 59 (ix y39)) hi51 rfl dX11_held_51 ?_
        refine lv_goto (tgt := 62) C.1 C.2.1 dX11_held_52 (by decide) ?_
        exact tX11_held_b62 C hR hh hw (lv_sub hl [1] rfl)
    · replace hh := hh.2 c19
      exact tX11_held_b22 C hR hh hw (lv_sub hl [0] rfl)
theorem ctX11_held (l : Launch) (D : va_G) (o : Nat) (h : Nat → Nat) (cI cZ : ClassId) (f : Nat → Int32) (g : Nat → Nat → Int32) (x1 : Int32) (x2 : Int32) (x3 : Int32) {K : Int32 → ((Nat → Int32) × (Nat → Nat → Int32)) → Prop} (hh : wpX11_held f g x1 x2 x3 K) : Ci l yX11_held wsX11_held rmX11_held [.ref o, .int x1, .int x2, .int x3] D (mT cI cZ) (mWu o h cI cZ) (f, g) K := by
  refine Ci_of (cc := cX11_held) (maxL := 5) (by decide) rfl (Nat.le_of_ble_eq_true rfl) ?_
  intro p e s m below meth c A Q C hw hR ls hl
  exact tX11_held_b0 C hR hh hw hl
theorem cdX11_held : yX11_held.cls = RX11 ∧ yX11_held.cls ≠ "java/lang/invoke/MethodHandle" ∧ yX11_held.cls ≠ "java/lang/invoke/VarHandle" ∧ (parseMethodDescriptor yX11_held.desc).map (fun d => d.parameters.length) = some 3 := by decide +kernel
abbrev rmX11_longest : Room := { frames := 8, cells := 0, slots := 0, locals := 179 }
set_option maxHeartbeats 4000000 in
set_option maxRecDepth 100000 in
theorem tX11_longest_b22 {K : Int32 → ((Nat → Int32) × (Nat → Nat → Int32)) → Prop} (C : CallFix p m c cX11_longest 5 s args wsX11_longest RX11) (hR : Rti .int p l e rmX11_longest s m args below meth c cX11_longest D A (mT cI cZ) (mWu o h cI cZ) K Q) {f : Nat → Int32} {g : Nat → Nat → Int32} (hh : wpX11_longest_b22 f g K) {H : Heap} {locs : List Loc} {ls : Array Slot} (hw : Wd D A s (mT cI cZ) (mW o h cI cZ f g) H locs) (hl : lv_has ls 5 [(0, .ref o)]) : W p l e rmX11_longest s m args below meth c H locs 0 0 Q (F0 m 22 ls []) := by
  unfold wpX11_longest_b22 at hh
  refine lv_iconst (v := (-1 : Int32)) C.1 C.2.1 dX11_longest_22 (by decide) ?_
  exact hR _ _ _ (f, g) _ _ dX11_longest_23 rfl hh hw
set_option maxHeartbeats 4000000 in
set_option maxRecDepth 100000 in
theorem tX11_longest_b77 {K : Int32 → ((Nat → Int32) × (Nat → Nat → Int32)) → Prop} (C : CallFix p m c cX11_longest 5 s args wsX11_longest RX11) (hR : Rti .int p l e rmX11_longest s m args below meth c cX11_longest D A (mT cI cZ) (mWu o h cI cZ) K Q) {f : Nat → Int32} {g : Nat → Nat → Int32} {k0 : Int32} (hh : wpX11_longest_b77 f g k0 K) {H : Heap} {locs : List Loc} {ls : Array Slot} (hw : Wd D A s (mT cI cZ) (mW o h cI cZ f g) H locs) (hl : lv_has ls 5 [(0, .ref o)]) : W p l e rmX11_longest s m args below meth c H locs 0 0 Q (F0 m 77 ls [.int k0]) := by
  unfold wpX11_longest_b77 at hh
  exact hR _ _ _ (f, g) _ _ dX11_longest_77 rfl hh hw
set_option maxHeartbeats 4000000 in
set_option maxRecDepth 100000 in
theorem tX11_longest_b0 {K : Int32 → ((Nat → Int32) × (Nat → Nat → Int32)) → Prop} (C : CallFix p m c cX11_longest 5 s args wsX11_longest RX11) (hR : Rti .int p l e rmX11_longest s m args below meth c cX11_longest D A (mT cI cZ) (mWu o h cI cZ) K Q) {f : Nat → Int32} {g : Nat → Nat → Int32} {x1 : Int32} {x2 : Int32} {x3 : Int32} (hh : wpX11_longest_b0 f g x1 x2 x3 K) {H : Heap} {locs : List Loc} {ls : Array Slot} (hw : Wd D A s (mT cI cZ) (mW o h cI cZ f g) H locs) (hl : lv_has ls 5 [(0, .ref o), (1, .int x1), (2, .int x2), (3, .int x3)]) : W p l e rmX11_longest s m args below meth c H locs 0 0 Q (F0 m 0 ls []) := by
  unfold wpX11_longest_b0 at hh
  refine lv_aload_n C.1 C.2.1 dX11_longest_0 rfl (lv_at hl 0 rfl) ?_
  refine lv_iconst (v := (0 : Int32)) C.1 C.2.1 dX11_longest_1 (by decide) ?_
  refine m_pi C hw (inC inW11) 2 (by decide) (wc w_1464) rfl (ty := .int) (by decide +kernel) rfl rfl (Nat.le_of_ble_eq_true rfl) ms_2 dX11_longest_2 (fun H locs hw => ?_)
  refine lv_iload_n C.1 C.2.1 dX11_longest_5 rfl (lv_at hl 1 rfl) ?_
  refine lv_iload_n C.1 C.2.1 dX11_longest_6 rfl (lv_at hl 2 rfl) ?_
  refine wd_Si C hw (ctX11_isSmallFloor l D x1 x2 hh) (va_cwS 2 C.2.2.2.2 (gd_S w_1926 w_1927 (ini_cls rfl w_125) w_1928) rfl rfl rfl cdX11_isSmallFloor ⟨Nat.le_of_ble_eq_true rfl, Nat.le_of_ble_eq_true rfl⟩) rfl hl.1 (Nat.le_of_ble_eq_true rfl) dX11_longest_7 ⟨Nat.zero_le _, Nat.zero_le _⟩ (fun r7 H locs hh hw => ?_) rfl
  refine lv_if_eq (tgt := 22) C.1 C.2.1 dX11_longest_10 (by decide) (fun c10 => ?_) (fun c10 => ?_)
  · replace hh := hh.1 c10
    exact tX11_longest_b22 C hR hh hw (lv_sub hl [0] rfl)
  · replace hh := hh.2 c10
    refine lv_iload_n C.1 C.2.1 dX11_longest_13 rfl (lv_at hl 3 rfl) ?_
    refine lv_iconst (v := (0 : Int32)) C.1 C.2.1 dX11_longest_14 (by decide) ?_
    refine lv_iconst (v := (2 : Int32)) C.1 C.2.1 dX11_longest_15 (by decide) ?_
    refine wd_Si C hw (ctX11_isIn l D x3 (0 : Int32) (2 : Int32) hh) (va_cwS 3 C.2.2.2.2 (gd_S w_1804 w_1805 (ini_cls rfl w_125) w_1806) rfl rfl rfl cdX11_isIn ⟨Nat.le_of_ble_eq_true rfl, Nat.le_of_ble_eq_true rfl⟩) rfl hl.1 (Nat.le_of_ble_eq_true rfl) dX11_longest_16 ⟨Nat.zero_le _, Nat.zero_le _⟩ (fun r16 H locs hh hw => ?_) rfl
    refine lv_if_ne (tgt := 24) C.1 C.2.1 dX11_longest_19 (by decide) (fun c19 => ?_) (fun c19 => ?_)
    · replace hh := hh.1 c19
      refine lv_aload_n C.1 C.2.1 dX11_longest_24 rfl (lv_at hl 0 rfl) ?_
      refine lv_iload_n C.1 C.2.1 dX11_longest_25 rfl (lv_at hl 1 rfl) ?_
      refine lv_iload_n C.1 C.2.1 dX11_longest_26 rfl (lv_at hl 2 rfl) ?_
      refine m_Vv C hw (ctX11_laySmall l D o h cI cZ (upd f 2 (0 : Int32)) g x1 x2 hh) (cwV 2 C.2.2.2.2 (gd_V w_1929 w_1931 w_95 w_125 w_1932) rfl rfl rfl cdX11_laySmall ⟨Nat.le_of_ble_eq_true rfl, Nat.le_of_ble_eq_true rfl⟩) rfl hl.1 (Nat.le_of_ble_eq_true rfl) dX11_longest_27 ⟨Nat.zero_le _, Nat.zero_le _⟩ (fun u27 H locs hh hw => ?_) rfl
      refine lv_iconst (v := (4 : Int32)) C.1 C.2.1 dX11_longest_30 (by decide) ?_
      refine lv_iload_n C.1 C.2.1 dX11_longest_31 rfl (lv_at hl 1 rfl) ?_
      refine lv_iconst (v := (2 : Int32)) C.1 C.2.1 dX11_longest_32 (by decide) ?_
      refine lv_isub C.1 C.2.1 dX11_longest_33 ?_
      refine lv_imul C.1 C.2.1 dX11_longest_34 ?_
      refine lv_iload_n C.1 C.2.1 dX11_longest_35 rfl (lv_at hl 2 rfl) ?_
      refine lv_iadd C.1 C.2.1 dX11_longest_36 ?_
      refine lv_iconst (v := (2 : Int32)) C.1 C.2.1 dX11_longest_37 (by decide) ?_
      refine lv_isub C.1 C.2.1 dX11_longest_38 ?_
      refine lv_topi (fun y39 ey39 => ?_)
      replace hh := hh y39 ey39
      refine lv_istore (lv' := [(4, .int y39), (0, .ref o), (1, .int x1), (2, .int x2), (3, .int x3)]) C.1 C.2.1 dX11_longest_39 hl (by decide) rfl (fun ls hl => ?_)
      refine lv_iload_n C.1 C.2.1 dX11_longest_41 rfl (lv_at hl 4 rfl) ?_
      refine lv_if_ne (tgt := 55) C.1 C.2.1 dX11_longest_42 (by decide) (fun c42 => ?_) (fun c42 => ?_)
      · replace hh := hh.1 c42
        refine lv_iload_n C.1 C.2.1 dX11_longest_55 rfl (lv_at hl 4 rfl) ?_
        refine lv_iconst (v := (1 : Int32)) C.1 C.2.1 dX11_longest_56 (by decide) ?_
        refine lv_icmp_ne (tgt := 70) C.1 C.2.1 dX11_longest_57 (by decide) (fun c57 => ?_) (fun c57 => ?_)
        · replace hh := hh.1 c57
          refine lv_aload_n C.1 C.2.1 dX11_longest_70 rfl (lv_at hl 1 rfl) ?_
          refine m_ga C hw (inC inW11) 63 (by decide) (wc w_1525) mg_63 dX11_longest_71 ?_
          refine lv_iload C.1 C.2.1 dX11_longest_74 (lv_at hl 0 rfl) ?_
          obtain ⟨hi76, hh⟩ := hh
          refine m_ial C hw mp_63 (x := u27.2 63 (ix y39)) hi76 rfl dX11_longest_76 ?_
          exact tX11_longest_b77 C hR hh hw (lv_sub hl [1] rfl)
        · replace hh := hh.2 c57
          refine lv_aload_n C.1 C.2.1 dX11_longest_60 rfl (lv_at hl 1 rfl) ?_
          refine m_ga C hw (inC inW11) 62 (by decide) (wc w_1524) mg_62 dX11_longest_61 ?_
          refine lv_iload C.1 C.2.1 dX11_longest_64 (lv_at hl 0 rfl) ?_
          obtain ⟨hi66, hh⟩ := hh
          refine m_ial C hw mp_62 (x := u27.2 62 (ix y39)) hi66 rfl dX11_longest_66 ?_
          refine lv_goto (tgt := 77) C.1 C.2.1 dX11_longest_67 (by decide) ?_
          exact tX11_longest_b77 C hR hh hw (lv_sub hl [1] rfl)
      · replace hh := hh.2 c42
        refine lv_aload_n C.1 C.2.1 dX11_longest_45 rfl (lv_at hl 1 rfl) ?_
        refine m_ga C hw (inC inW11) 61 (by decide) (wc w_1523) mg_61 dX11_longest_46 ?_
        refine lv_iload C.1 C.2.1 dX11_longest_49 (lv_at hl 0 rfl) ?_
        obtain ⟨hi51, hh⟩ := hh
        refine m_ial C hw mp_61 (x := u27.2 61 (ix y39)) hi51 rfl dX11_longest_51 ?_
        refine lv_goto (tgt := 77) C.1 C.2.1 dX11_longest_52 (by decide) ?_
        exact tX11_longest_b77 C hR hh hw (lv_sub hl [1] rfl)
    · replace hh := hh.2 c19
      exact tX11_longest_b22 C hR hh hw (lv_sub hl [0] rfl)
theorem ctX11_longest (l : Launch) (D : va_G) (o : Nat) (h : Nat → Nat) (cI cZ : ClassId) (f : Nat → Int32) (g : Nat → Nat → Int32) (x1 : Int32) (x2 : Int32) (x3 : Int32) {K : Int32 → ((Nat → Int32) × (Nat → Nat → Int32)) → Prop} (hh : wpX11_longest f g x1 x2 x3 K) : Ci l yX11_longest wsX11_longest rmX11_longest [.ref o, .int x1, .int x2, .int x3] D (mT cI cZ) (mWu o h cI cZ) (f, g) K := by
  refine Ci_of (cc := cX11_longest) (maxL := 5) (by decide) rfl (Nat.le_of_ble_eq_true rfl) ?_
  intro p e s m below meth c A Q C hw hR ls hl
  exact tX11_longest_b0 C hR hh hw hl
theorem cdX11_longest : yX11_longest.cls = RX11 ∧ yX11_longest.cls ≠ "java/lang/invoke/MethodHandle" ∧ yX11_longest.cls ≠ "java/lang/invoke/VarHandle" ∧ (parseMethodDescriptor yX11_longest.desc).map (fun d => d.parameters.length) = some 3 := by decide +kernel
abbrev rmX11_isUnlike : Room := { frames := 5, cells := 0, slots := 0, locals := 107 }
set_option maxHeartbeats 4000000 in
set_option maxRecDepth 100000 in
theorem tX11_isUnlike_b198 {K : Int32 → ((Nat → Int32) × (Nat → Nat → Int32)) → Prop} (C : CallFix p m c cX11_isUnlike 8 s args wsX11_isUnlike RX11) (hR : Rti .boolean p l e rmX11_isUnlike s m args below meth c cX11_isUnlike D A (mT cI cZ) (mWu o h cI cZ) K Q) {f : Nat → Int32} {g : Nat → Nat → Int32} {k0 : Int32} (hh : wpX11_isUnlike_b198 f g k0 K) {H : Heap} {locs : List Loc} {ls : Array Slot} (hw : Wd D A s (mT cI cZ) (mW o h cI cZ f g) H locs) (hl : lv_has ls 8 [(0, .ref o)]) : W p l e rmX11_isUnlike s m args below meth c H locs 0 0 Q (F0 m 198 ls [.int k0]) := by
  unfold wpX11_isUnlike_b198 at hh
  obtain ⟨hb198, hh⟩ := hh
  exact hR _ _ _ (f, g) _ _ dX11_isUnlike_198 (isB_nar hb198) hh hw
set_option maxHeartbeats 4000000 in
set_option maxRecDepth 100000 in
theorem tX11_isUnlike_b193 {K : Int32 → ((Nat → Int32) × (Nat → Nat → Int32)) → Prop} (C : CallFix p m c cX11_isUnlike 8 s args wsX11_isUnlike RX11) (hR : Rti .boolean p l e rmX11_isUnlike s m args below meth c cX11_isUnlike D A (mT cI cZ) (mWu o h cI cZ) K Q) {f : Nat → Int32} {g : Nat → Nat → Int32} (hh : wpX11_isUnlike_b193 f g K) {H : Heap} {locs : List Loc} {ls : Array Slot} (hw : Wd D A s (mT cI cZ) (mW o h cI cZ f g) H locs) (hl : lv_has ls 8 [(0, .ref o)]) : W p l e rmX11_isUnlike s m args below meth c H locs 0 0 Q (F0 m 193 ls []) := by
  unfold wpX11_isUnlike_b193 at hh
  refine lv_iconst (v := (1 : Int32)) C.1 C.2.1 dX11_isUnlike_193 (by decide) ?_
  refine lv_goto (tgt := 198) C.1 C.2.1 dX11_isUnlike_194 (by decide) ?_
  exact tX11_isUnlike_b198 C hR hh hw hl
set_option maxHeartbeats 4000000 in
set_option maxRecDepth 100000 in
theorem tX11_isUnlike_b190 {K : Int32 → ((Nat → Int32) × (Nat → Nat → Int32)) → Prop} (C : CallFix p m c cX11_isUnlike 8 s args wsX11_isUnlike RX11) (hR : Rti .boolean p l e rmX11_isUnlike s m args below meth c cX11_isUnlike D A (mT cI cZ) (mWu o h cI cZ) K Q) {f : Nat → Int32} {g : Nat → Nat → Int32} {k0 : Int32} {k1 : Int32} (hh : wpX11_isUnlike_b190 f g k0 k1 K) {H : Heap} {locs : List Loc} {ls : Array Slot} (hw : Wd D A s (mT cI cZ) (mW o h cI cZ f g) H locs) (hl : lv_has ls 8 [(0, .ref o)]) : W p l e rmX11_isUnlike s m args below meth c H locs 0 0 Q (F0 m 190 ls [.int k1, .int k0]) := by
  unfold wpX11_isUnlike_b190 at hh
  refine lv_icmp_eq (tgt := 197) C.1 C.2.1 dX11_isUnlike_190 (by decide) (fun c190 => ?_) (fun c190 => ?_)
  · replace hh := hh.1 c190
    refine lv_iconst (v := (0 : Int32)) C.1 C.2.1 dX11_isUnlike_197 (by decide) ?_
    exact tX11_isUnlike_b198 C hR hh hw hl
  · replace hh := hh.2 c190
    exact tX11_isUnlike_b193 C hR hh hw hl
set_option maxHeartbeats 4000000 in
set_option maxRecDepth 100000 in
theorem tX11_isUnlike_b156 {K : Int32 → ((Nat → Int32) × (Nat → Nat → Int32)) → Prop} (C : CallFix p m c cX11_isUnlike 8 s args wsX11_isUnlike RX11) (hR : Rti .boolean p l e rmX11_isUnlike s m args below meth c cX11_isUnlike D A (mT cI cZ) (mWu o h cI cZ) K Q) {f : Nat → Int32} {g : Nat → Nat → Int32} {x3 : Int32} {x4 : Int32} {x5 : Int32} {x6 : Int32} (hh : wpX11_isUnlike_b156 f g x3 x4 x5 x6 K) {H : Heap} {locs : List Loc} {ls : Array Slot} (hw : Wd D A s (mT cI cZ) (mW o h cI cZ f g) H locs) (hl : lv_has ls 8 [(0, .ref o), (3, .int x3), (4, .int x4), (5, .int x5), (6, .int x6)]) : W p l e rmX11_isUnlike s m args below meth c H locs 0 0 Q (F0 m 156 ls []) := by
  unfold wpX11_isUnlike_b156 at hh
  refine lv_aload_n C.1 C.2.1 dX11_isUnlike_156 rfl (lv_at hl 0 rfl) ?_
  refine lv_iconst (v := (-1 : Int32)) C.1 C.2.1 dX11_isUnlike_157 (by decide) ?_
  refine m_pi C hw (inC inW11) 52 (by decide) (wc w_1514) rfl (ty := .int) (by decide +kernel) rfl rfl (Nat.le_of_ble_eq_true rfl) ms_52 dX11_isUnlike_158 (fun H locs hw => ?_)
  refine lv_iload C.1 C.2.1 dX11_isUnlike_161 (lv_at hl 4 rfl) ?_
  refine lv_if_ne (tgt := 193) C.1 C.2.1 dX11_isUnlike_163 (by decide) (fun c163 => ?_) (fun c163 => ?_)
  · replace hh := hh.1 c163
    exact tX11_isUnlike_b193 C hR hh hw (lv_sub hl [0] rfl)
  · replace hh := hh.2 c163
    refine lv_iload C.1 C.2.1 dX11_isUnlike_166 (lv_at hl 3 rfl) ?_
    refine lv_iload_n C.1 C.2.1 dX11_isUnlike_168 rfl (lv_at hl 1 rfl) ?_
    refine lv_icmp_ne (tgt := 193) C.1 C.2.1 dX11_isUnlike_169 (by decide) (fun c169 => ?_) (fun c169 => ?_)
    · replace hh := hh.1 c169
      exact tX11_isUnlike_b193 C hR hh hw (lv_sub hl [0] rfl)
    · replace hh := hh.2 c169
      refine lv_iload C.1 C.2.1 dX11_isUnlike_172 (lv_at hl 2 rfl) ?_
      refine lv_aload_n C.1 C.2.1 dX11_isUnlike_174 rfl (lv_at hl 0 rfl) ?_
      refine m_gi C hw (inC inW11) 41 (by decide) (wc w_1503) mg_41 (x := f 41) rfl dX11_isUnlike_175 ?_
      refine lv_aload_n C.1 C.2.1 dX11_isUnlike_178 rfl (lv_at hl 0 rfl) ?_
      refine m_gi C hw (inC inW11) 40 (by decide) (wc w_1502) mg_40 (x := f 40) rfl dX11_isUnlike_179 ?_
      refine lv_icmp_ne (tgt := 189) C.1 C.2.1 dX11_isUnlike_182 (by decide) (fun c182 => ?_) (fun c182 => ?_)
      · replace hh := hh.1 c182
        refine lv_iconst (v := (0 : Int32)) C.1 C.2.1 dX11_isUnlike_189 (by decide) ?_
        exact tX11_isUnlike_b190 C hR hh hw (lv_sub hl [0] rfl)
      · replace hh := hh.2 c182
        refine lv_iconst (v := (1 : Int32)) C.1 C.2.1 dX11_isUnlike_185 (by decide) ?_
        refine lv_goto (tgt := 190) C.1 C.2.1 dX11_isUnlike_186 (by decide) ?_
        exact tX11_isUnlike_b190 C hR hh hw (lv_sub hl [0] rfl)
set_option maxHeartbeats 4000000 in
set_option maxRecDepth 100000 in
theorem tX11_isUnlike_b148 {B87 : (Nat → Int32) → (Nat → Nat → Int32) → Int32 → Int32 → Int32 → Int32 → Prop} {K : Int32 → ((Nat → Int32) × (Nat → Nat → Int32)) → Prop} (C : CallFix p m c cX11_isUnlike 8 s args wsX11_isUnlike RX11) (hR : Rti .boolean p l e rmX11_isUnlike s m args below meth c cX11_isUnlike D A (mT cI cZ) (mWu o h cI cZ) K Q) (hB87 : ∀ (f : Nat → Int32) (g : Nat → Nat → Int32) (x3 : Int32) (x4 : Int32) (x5 : Int32) (x6 : Int32) (H : Heap) (locs : List Loc) (ls : Array Slot), B87 f g x3 x4 x5 x6 → Wd D A s (mT cI cZ) (mW o h cI cZ f g) H locs → lv_has ls 8 [(0, .ref o), (3, .int x3), (4, .int x4), (5, .int x5), (6, .int x6)] → W p l e rmX11_isUnlike s m args below meth c H locs 0 0 Q (F0 m 87 ls [])) {f : Nat → Int32} {g : Nat → Nat → Int32} {k0 : Int32} {x3 : Int32} {x4 : Int32} {x5 : Int32} (hh : wpX11_isUnlike_b148 B87 f g k0 x3 x4 x5 K) {H : Heap} {locs : List Loc} {ls : Array Slot} (hw : Wd D A s (mT cI cZ) (mW o h cI cZ f g) H locs) (hl : lv_has ls 8 [(0, .ref o), (3, .int x3), (4, .int x4), (5, .int x5)]) : W p l e rmX11_isUnlike s m args below meth c H locs 0 0 Q (F0 m 148 ls [.int k0]) := by
  unfold wpX11_isUnlike_b148 at hh
  refine lv_istore (lv' := [(6, .int k0), (0, .ref o), (3, .int x3), (4, .int x4), (5, .int x5)]) C.1 C.2.1 dX11_isUnlike_148 hl (by decide) rfl (fun ls hl => ?_)
  refine lv_iinc (v := x5 + (1 : Int32)) (lv' := [(5, .int (x5 + (1 : Int32))), (6, .int k0), (0, .ref o), (3, .int x3), (4, .int x4)]) C.1 C.2.1 dX11_isUnlike_150 hl (k := 4) rfl rfl (by decide) rfl (fun ls hl => ?_)
  refine lv_goto (tgt := 87) C.1 C.2.1 dX11_isUnlike_153 (by decide) ?_
  exact hB87 _ _ _ _ _ _ _ _ _ hh hw (lv_sub hl [2, 3, 4, 0, 1] rfl)
set_option maxHeartbeats 4000000 in
set_option maxRecDepth 100000 in
theorem tX11_isUnlike_b143 {B87 : (Nat → Int32) → (Nat → Nat → Int32) → Int32 → Int32 → Int32 → Int32 → Prop} {K : Int32 → ((Nat → Int32) × (Nat → Nat → Int32)) → Prop} (C : CallFix p m c cX11_isUnlike 8 s args wsX11_isUnlike RX11) (hR : Rti .boolean p l e rmX11_isUnlike s m args below meth c cX11_isUnlike D A (mT cI cZ) (mWu o h cI cZ) K Q) (hB87 : ∀ (f : Nat → Int32) (g : Nat → Nat → Int32) (x3 : Int32) (x4 : Int32) (x5 : Int32) (x6 : Int32) (H : Heap) (locs : List Loc) (ls : Array Slot), B87 f g x3 x4 x5 x6 → Wd D A s (mT cI cZ) (mW o h cI cZ f g) H locs → lv_has ls 8 [(0, .ref o), (3, .int x3), (4, .int x4), (5, .int x5), (6, .int x6)] → W p l e rmX11_isUnlike s m args below meth c H locs 0 0 Q (F0 m 87 ls [])) {f : Nat → Int32} {g : Nat → Nat → Int32} {x3 : Int32} {x4 : Int32} {x5 : Int32} (hh : wpX11_isUnlike_b143 B87 f g x3 x4 x5 K) {H : Heap} {locs : List Loc} {ls : Array Slot} (hw : Wd D A s (mT cI cZ) (mW o h cI cZ f g) H locs) (hl : lv_has ls 8 [(0, .ref o), (3, .int x3), (4, .int x4), (5, .int x5)]) : W p l e rmX11_isUnlike s m args below meth c H locs 0 0 Q (F0 m 143 ls []) := by
  unfold wpX11_isUnlike_b143 at hh
  refine lv_iconst (v := (1 : Int32)) C.1 C.2.1 dX11_isUnlike_143 (by decide) ?_
  refine lv_goto (tgt := 148) C.1 C.2.1 dX11_isUnlike_144 (by decide) ?_
  exact tX11_isUnlike_b148 C hR hB87 hh hw hl
set_option maxHeartbeats 4000000 in
set_option maxRecDepth 100000 in
theorem tX11_isUnlike_b87_body {B87 : (Nat → Int32) → (Nat → Nat → Int32) → Int32 → Int32 → Int32 → Int32 → Prop} {K : Int32 → ((Nat → Int32) × (Nat → Nat → Int32)) → Prop} (C : CallFix p m c cX11_isUnlike 8 s args wsX11_isUnlike RX11) (hR : Rti .boolean p l e rmX11_isUnlike s m args below meth c cX11_isUnlike D A (mT cI cZ) (mWu o h cI cZ) K Q) (hB87 : ∀ (f : Nat → Int32) (g : Nat → Nat → Int32) (x3 : Int32) (x4 : Int32) (x5 : Int32) (x6 : Int32) (H : Heap) (locs : List Loc) (ls : Array Slot), B87 f g x3 x4 x5 x6 → Wd D A s (mT cI cZ) (mW o h cI cZ f g) H locs → lv_has ls 8 [(0, .ref o), (3, .int x3), (4, .int x4), (5, .int x5), (6, .int x6)] → W p l e rmX11_isUnlike s m args below meth c H locs 0 0 Q (F0 m 87 ls [])) {f : Nat → Int32} {g : Nat → Nat → Int32} {x3 : Int32} {x4 : Int32} {x5 : Int32} {x6 : Int32} (hh : wpX11_isUnlike_b87_body B87 f g x3 x4 x5 x6 K) {H : Heap} {locs : List Loc} {ls : Array Slot} (hw : Wd D A s (mT cI cZ) (mW o h cI cZ f g) H locs) (hl : lv_has ls 8 [(0, .ref o), (3, .int x3), (4, .int x4), (5, .int x5), (6, .int x6)]) : W p l e rmX11_isUnlike s m args below meth c H locs 0 0 Q (F0 m 87 ls []) := by
  unfold wpX11_isUnlike_b87_body at hh
  refine lv_iload C.1 C.2.1 dX11_isUnlike_87 (lv_at hl 3 rfl) ?_
  refine lv_bipush (v := (100 : Int32)) C.1 C.2.1 dX11_isUnlike_89 (by decide) ?_
  refine lv_icmp_ge (tgt := 156) C.1 C.2.1 dX11_isUnlike_91 (by decide) (fun c91 => ?_) (fun c91 => ?_)
  · replace hh := hh.1 c91
    exact tX11_isUnlike_b156 C hR hh hw hl
  · replace hh := hh.2 c91
    refine lv_aload_n C.1 C.2.1 dX11_isUnlike_94 rfl (lv_at hl 0 rfl) ?_
    refine m_gi C hw (inC inW11) 41 (by decide) (wc w_1503) mg_41 (x := f 41) rfl dX11_isUnlike_95 ?_
    refine lv_aload_n C.1 C.2.1 dX11_isUnlike_98 rfl (lv_at hl 0 rfl) ?_
    refine m_gi C hw (inC inW11) 40 (by decide) (wc w_1502) mg_40 (x := f 40) rfl dX11_isUnlike_99 ?_
    refine lv_icmp_eq (tgt := 156) C.1 C.2.1 dX11_isUnlike_102 (by decide) (fun c102 => ?_) (fun c102 => ?_)
    · replace hh := hh.1 c102
      exact tX11_isUnlike_b156 C hR hh hw hl
    · replace hh := hh.2 c102
      refine lv_iload C.1 C.2.1 dX11_isUnlike_105 (lv_at hl 4 rfl) ?_
      refine lv_if_ne (tgt := 156) C.1 C.2.1 dX11_isUnlike_107 (by decide) (fun c107 => ?_) (fun c107 => ?_)
      · replace hh := hh.1 c107
        exact tX11_isUnlike_b156 C hR hh hw hl
      · replace hh := hh.2 c107
        refine lv_aload_n C.1 C.2.1 dX11_isUnlike_110 rfl (lv_at hl 0 rfl) ?_
        refine m_Vi C hw (ctX11_ticks l D o h cI cZ f g  hh) (cwV 0 C.2.2.2.2 (gd_V w_1854 w_1856 w_85 w_125 w_1857) rfl rfl rfl cdX11_ticks ⟨Nat.le_of_ble_eq_true rfl, Nat.le_of_ble_eq_true rfl⟩) rfl hl.1 (Nat.le_of_ble_eq_true rfl) dX11_isUnlike_111 ⟨Nat.zero_le _, Nat.zero_le _⟩ (fun r111 u111 H locs hh hw => ?_) rfl
        refine lv_istore (lv' := [(7, .int r111), (0, .ref o), (3, .int x3), (4, .int x4), (5, .int x5), (6, .int x6)]) C.1 C.2.1 dX11_isUnlike_114 hl (by decide) rfl (fun ls hl => ?_)
        refine lv_iload C.1 C.2.1 dX11_isUnlike_116 (lv_at hl 4 rfl) ?_
        refine lv_iload_n C.1 C.2.1 dX11_isUnlike_118 rfl (lv_at hl 2 rfl) ?_
        refine lv_icmp_ge (tgt := 143) C.1 C.2.1 dX11_isUnlike_119 (by decide) (fun c119 => ?_) (fun c119 => ?_)
        · replace hh := hh.1 c119
          exact tX11_isUnlike_b143 C hR hB87 hh hw (lv_sub hl [1, 2, 3, 4] rfl)
        · replace hh := hh.2 c119
          refine lv_aload_n C.1 C.2.1 dX11_isUnlike_122 rfl (lv_at hl 1 rfl) ?_
          refine m_ga C hw (inC inW11) 64 (by decide) (wc w_1526) mg_64 dX11_isUnlike_123 ?_
          refine lv_iload C.1 C.2.1 dX11_isUnlike_126 (lv_at hl 4 rfl) ?_
          obtain ⟨hi128, hh⟩ := hh
          refine m_ial C hw mp_64 (x := u111.2 64 (ix x5)) hi128 rfl dX11_isUnlike_128 ?_
          refine lv_iconst (v := (4 : Int32)) C.1 C.2.1 dX11_isUnlike_129 (by decide) ?_
          refine lv_aload_n C.1 C.2.1 dX11_isUnlike_130 rfl (lv_at hl 1 rfl) ?_
          refine m_gi C hw (inC inW11) 41 (by decide) (wc w_1503) mg_41 (x := u111.1 41) rfl dX11_isUnlike_131 ?_
          refine lv_imul C.1 C.2.1 dX11_isUnlike_134 ?_
          refine lv_aload_n C.1 C.2.1 dX11_isUnlike_135 rfl (lv_at hl 1 rfl) ?_
          refine m_gi C hw (inC inW11) 42 (by decide) (wc w_1504) mg_42 (x := u111.1 42) rfl dX11_isUnlike_136 ?_
          refine lv_iadd C.1 C.2.1 dX11_isUnlike_139 ?_
          refine lv_icmp_eq (tgt := 147) C.1 C.2.1 dX11_isUnlike_140 (by decide) (fun c140 => ?_) (fun c140 => ?_)
          · replace hh := hh.1 c140
            refine lv_iconst (v := (0 : Int32)) C.1 C.2.1 dX11_isUnlike_147 (by decide) ?_
            exact tX11_isUnlike_b148 C hR hB87 hh hw (lv_sub hl [1, 2, 3, 4] rfl)
          · replace hh := hh.2 c140
            exact tX11_isUnlike_b143 C hR hB87 hh hw (lv_sub hl [1, 2, 3, 4] rfl)
theorem tX11_isUnlike_b87 {K : Int32 → ((Nat → Int32) × (Nat → Nat → Int32)) → Prop} (C : CallFix p m c cX11_isUnlike 8 s args wsX11_isUnlike RX11) (hR : Rti .boolean p l e rmX11_isUnlike s m args below meth c cX11_isUnlike D A (mT cI cZ) (mWu o h cI cZ) K Q) (n : Nat) : ∀ (f : Nat → Int32) (g : Nat → Nat → Int32) (x3 : Int32) (x4 : Int32) (x5 : Int32) (x6 : Int32) (H : Heap) (locs : List Loc) (ls : Array Slot), wpX11_isUnlike_b87 n f g x3 x4 x5 x6 K → Wd D A s (mT cI cZ) (mW o h cI cZ f g) H locs → lv_has ls 8 [(0, .ref o), (3, .int x3), (4, .int x4), (5, .int x5), (6, .int x6)] → W p l e rmX11_isUnlike s m args below meth c H locs 0 0 Q (F0 m 87 ls []) := by
  induction n with
  | zero => intro f g x3 x4 x5 x6 H locs ls hh; exact hh.elim
  | succ n ih => intro f g x3 x4 x5 x6 H locs ls hh hw hl; exact tX11_isUnlike_b87_body C hR ih hh hw hl
set_option maxHeartbeats 4000000 in
set_option maxRecDepth 100000 in
theorem tX11_isUnlike_b69 {K : Int32 → ((Nat → Int32) × (Nat → Nat → Int32)) → Prop} (C : CallFix p m c cX11_isUnlike 8 s args wsX11_isUnlike RX11) (hR : Rti .boolean p l e rmX11_isUnlike s m args below meth c cX11_isUnlike D A (mT cI cZ) (mWu o h cI cZ) K Q) {f : Nat → Int32} {g : Nat → Nat → Int32} {k0 : Int32} {x1 : Int32} {x2 : Int32} {x3 : Int32} (hh : wpX11_isUnlike_b69 f g k0 x1 x2 x3 K) {H : Heap} {locs : List Loc} {ls : Array Slot} (hw : Wd D A s (mT cI cZ) (mW o h cI cZ f g) H locs) (hl : lv_has ls 8 [(0, .ref o), (1, .int x1), (2, .int x2), (3, .int x3)]) : W p l e rmX11_isUnlike s m args below meth c H locs 0 0 Q (F0 m 69 ls [.int k0]) := by
  unfold wpX11_isUnlike_b69 at hh
  refine lv_istore (lv' := [(4, .int k0), (0, .ref o), (1, .int x1), (2, .int x2), (3, .int x3)]) C.1 C.2.1 dX11_isUnlike_69 hl (by decide) rfl (fun ls hl => ?_)
  refine lv_aload_n C.1 C.2.1 dX11_isUnlike_71 rfl (lv_at hl 1 rfl) ?_
  refine lv_iload_n C.1 C.2.1 dX11_isUnlike_72 rfl (lv_at hl 2 rfl) ?_
  refine m_Vv C hw (ctX11_setDown l D o h cI cZ f g x1 hh) (cwV 1 C.2.2.2.2 (gd_V w_1910 w_1912 w_93 w_125 w_1913) rfl rfl rfl cdX11_setDown ⟨Nat.le_of_ble_eq_true rfl, Nat.le_of_ble_eq_true rfl⟩) rfl hl.1 (Nat.le_of_ble_eq_true rfl) dX11_isUnlike_73 ⟨Nat.zero_le _, Nat.zero_le _⟩ (fun u73 H locs hh hw => ?_) rfl
  refine lv_aload_n C.1 C.2.1 dX11_isUnlike_76 rfl (lv_at hl 1 rfl) ?_
  refine lv_iload_n C.1 C.2.1 dX11_isUnlike_77 rfl (lv_at hl 3 rfl) ?_
  refine m_pi C hw (inC inW11) 52 (by decide) (wc w_1514) rfl (ty := .int) (by decide +kernel) rfl rfl (Nat.le_of_ble_eq_true rfl) ms_52 dX11_isUnlike_78 (fun H locs hw => ?_)
  refine lv_iconst (v := (0 : Int32)) C.1 C.2.1 dX11_isUnlike_81 (by decide) ?_
  refine lv_istore (lv' := [(5, .int (0 : Int32)), (4, .int k0), (0, .ref o), (1, .int x1), (2, .int x2), (3, .int x3)]) C.1 C.2.1 dX11_isUnlike_82 hl (by decide) rfl (fun ls hl => ?_)
  refine lv_iconst (v := (0 : Int32)) C.1 C.2.1 dX11_isUnlike_84 (by decide) ?_
  refine lv_istore (lv' := [(6, .int (0 : Int32)), (5, .int (0 : Int32)), (4, .int k0), (0, .ref o), (1, .int x1), (2, .int x2), (3, .int x3)]) C.1 C.2.1 dX11_isUnlike_85 hl (by decide) rfl (fun ls hl => ?_)
  obtain ⟨n, hh⟩ := hh
  exact tX11_isUnlike_b87 C hR n _ _ _ _ _ _ _ _ _ hh hw (lv_sub hl [3, 6, 2, 1, 0] rfl)
set_option maxHeartbeats 4000000 in
set_option maxRecDepth 100000 in
theorem tX11_isUnlike_b53 {K : Int32 → ((Nat → Int32) × (Nat → Nat → Int32)) → Prop} (C : CallFix p m c cX11_isUnlike 8 s args wsX11_isUnlike RX11) (hR : Rti .boolean p l e rmX11_isUnlike s m args below meth c cX11_isUnlike D A (mT cI cZ) (mWu o h cI cZ) K Q) {f : Nat → Int32} {g : Nat → Nat → Int32} {x1 : Int32} {x2 : Int32} {x3 : Int32} (hh : wpX11_isUnlike_b53 f g x1 x2 x3 K) {H : Heap} {locs : List Loc} {ls : Array Slot} (hw : Wd D A s (mT cI cZ) (mW o h cI cZ f g) H locs) (hl : lv_has ls 8 [(0, .ref o), (1, .int x1), (2, .int x2), (3, .int x3)]) : W p l e rmX11_isUnlike s m args below meth c H locs 0 0 Q (F0 m 53 ls []) := by
  unfold wpX11_isUnlike_b53 at hh
  refine lv_aload_n C.1 C.2.1 dX11_isUnlike_53 rfl (lv_at hl 0 rfl) ?_
  refine m_gi C hw (inC inW11) 41 (by decide) (wc w_1503) mg_41 (x := f 41) rfl dX11_isUnlike_54 ?_
  refine lv_aload_n C.1 C.2.1 dX11_isUnlike_57 rfl (lv_at hl 0 rfl) ?_
  refine m_gi C hw (inC inW11) 40 (by decide) (wc w_1502) mg_40 (x := f 40) rfl dX11_isUnlike_58 ?_
  refine lv_icmp_ne (tgt := 68) C.1 C.2.1 dX11_isUnlike_61 (by decide) (fun c61 => ?_) (fun c61 => ?_)
  · replace hh := hh.1 c61
    refine lv_iconst (v := (0 : Int32)) C.1 C.2.1 dX11_isUnlike_68 (by decide) ?_
    exact tX11_isUnlike_b69 C hR hh hw hl
  · replace hh := hh.2 c61
    refine lv_iconst (v := (1 : Int32)) C.1 C.2.1 dX11_isUnlike_64 (by decide) ?_
    refine lv_goto (tgt := 69) C.1 C.2.1 dX11_isUnlike_65 (by decide) ?_
    exact tX11_isUnlike_b69 C hR hh hw hl
set_option maxHeartbeats 4000000 in
set_option maxRecDepth 100000 in
theorem tX11_isUnlike_b7_body {B7 : (Nat → Int32) → (Nat → Nat → Int32) → Int32 → Int32 → Int32 → Prop} {K : Int32 → ((Nat → Int32) × (Nat → Nat → Int32)) → Prop} (C : CallFix p m c cX11_isUnlike 8 s args wsX11_isUnlike RX11) (hR : Rti .boolean p l e rmX11_isUnlike s m args below meth c cX11_isUnlike D A (mT cI cZ) (mWu o h cI cZ) K Q) (hB7 : ∀ (f : Nat → Int32) (g : Nat → Nat → Int32) (x1 : Int32) (x2 : Int32) (x3 : Int32) (H : Heap) (locs : List Loc) (ls : Array Slot), B7 f g x1 x2 x3 → Wd D A s (mT cI cZ) (mW o h cI cZ f g) H locs → lv_has ls 8 [(0, .ref o), (1, .int x1), (2, .int x2), (3, .int x3)] → W p l e rmX11_isUnlike s m args below meth c H locs 0 0 Q (F0 m 7 ls [])) {f : Nat → Int32} {g : Nat → Nat → Int32} {x1 : Int32} {x2 : Int32} {x3 : Int32} (hh : wpX11_isUnlike_b7_body B7 f g x1 x2 x3 K) {H : Heap} {locs : List Loc} {ls : Array Slot} (hw : Wd D A s (mT cI cZ) (mW o h cI cZ f g) H locs) (hl : lv_has ls 8 [(0, .ref o), (1, .int x1), (2, .int x2), (3, .int x3)]) : W p l e rmX11_isUnlike s m args below meth c H locs 0 0 Q (F0 m 7 ls []) := by
  unfold wpX11_isUnlike_b7_body at hh
  refine lv_iload_n C.1 C.2.1 dX11_isUnlike_7 rfl (lv_at hl 3 rfl) ?_
  refine lv_bipush (v := (100 : Int32)) C.1 C.2.1 dX11_isUnlike_8 (by decide) ?_
  refine lv_icmp_ge (tgt := 53) C.1 C.2.1 dX11_isUnlike_10 (by decide) (fun c10 => ?_) (fun c10 => ?_)
  · replace hh := hh.1 c10
    exact tX11_isUnlike_b53 C hR hh hw hl
  · replace hh := hh.2 c10
    refine lv_aload_n C.1 C.2.1 dX11_isUnlike_13 rfl (lv_at hl 0 rfl) ?_
    refine m_gi C hw (inC inW11) 41 (by decide) (wc w_1503) mg_41 (x := f 41) rfl dX11_isUnlike_14 ?_
    refine lv_aload_n C.1 C.2.1 dX11_isUnlike_17 rfl (lv_at hl 0 rfl) ?_
    refine m_gi C hw (inC inW11) 40 (by decide) (wc w_1502) mg_40 (x := f 40) rfl dX11_isUnlike_18 ?_
    refine lv_icmp_eq (tgt := 53) C.1 C.2.1 dX11_isUnlike_21 (by decide) (fun c21 => ?_) (fun c21 => ?_)
    · replace hh := hh.1 c21
      exact tX11_isUnlike_b53 C hR hh hw hl
    · replace hh := hh.2 c21
      refine lv_aload_n C.1 C.2.1 dX11_isUnlike_24 rfl (lv_at hl 0 rfl) ?_
      refine m_Vi C hw (ctX11_ticks l D o h cI cZ f g  hh) (cwV 0 C.2.2.2.2 (gd_V w_1854 w_1856 w_85 w_125 w_1857) rfl rfl rfl cdX11_ticks ⟨Nat.le_of_ble_eq_true rfl, Nat.le_of_ble_eq_true rfl⟩) rfl hl.1 (Nat.le_of_ble_eq_true rfl) dX11_isUnlike_25 ⟨Nat.zero_le _, Nat.zero_le _⟩ (fun r25 u25 H locs hh hw => ?_) rfl
      refine lv_istore (lv' := [(4, .int r25), (0, .ref o), (1, .int x1), (2, .int x2), (3, .int x3)]) C.1 C.2.1 dX11_isUnlike_28 hl (by decide) rfl (fun ls hl => ?_)
      refine lv_aload_n C.1 C.2.1 dX11_isUnlike_30 rfl (lv_at hl 1 rfl) ?_
      refine m_ga C hw (inC inW11) 64 (by decide) (wc w_1526) mg_64 dX11_isUnlike_31 ?_
      refine lv_iload_n C.1 C.2.1 dX11_isUnlike_34 rfl (lv_at hl 4 rfl) ?_
      refine lv_iconst (v := (4 : Int32)) C.1 C.2.1 dX11_isUnlike_35 (by decide) ?_
      refine lv_aload_n C.1 C.2.1 dX11_isUnlike_36 rfl (lv_at hl 1 rfl) ?_
      refine m_gi C hw (inC inW11) 41 (by decide) (wc w_1503) mg_41 (x := u25.1 41) rfl dX11_isUnlike_37 ?_
      refine lv_imul C.1 C.2.1 dX11_isUnlike_40 ?_
      refine lv_aload_n C.1 C.2.1 dX11_isUnlike_41 rfl (lv_at hl 1 rfl) ?_
      refine m_gi C hw (inC inW11) 42 (by decide) (wc w_1504) mg_42 (x := u25.1 42) rfl dX11_isUnlike_42 ?_
      refine lv_iadd C.1 C.2.1 dX11_isUnlike_45 ?_
      obtain ⟨hi46, hh⟩ := hh
      refine m_ias C hw mp_64 mq_64 hi46 dX11_isUnlike_46 (fun H locs hw => ?_)
      refine lv_iinc (v := x3 + (1 : Int32)) (lv' := [(3, .int (x3 + (1 : Int32))), (4, .int r25), (0, .ref o), (1, .int x1), (2, .int x2)]) C.1 C.2.1 dX11_isUnlike_47 hl (k := 4) rfl rfl (by decide) rfl (fun ls hl => ?_)
      refine lv_goto (tgt := 7) C.1 C.2.1 dX11_isUnlike_50 (by decide) ?_
      exact hB7 _ _ _ _ _ _ _ _ hh hw (lv_sub hl [2, 3, 4, 0] rfl)
theorem tX11_isUnlike_b7 {K : Int32 → ((Nat → Int32) × (Nat → Nat → Int32)) → Prop} (C : CallFix p m c cX11_isUnlike 8 s args wsX11_isUnlike RX11) (hR : Rti .boolean p l e rmX11_isUnlike s m args below meth c cX11_isUnlike D A (mT cI cZ) (mWu o h cI cZ) K Q) (n : Nat) : ∀ (f : Nat → Int32) (g : Nat → Nat → Int32) (x1 : Int32) (x2 : Int32) (x3 : Int32) (H : Heap) (locs : List Loc) (ls : Array Slot), wpX11_isUnlike_b7 n f g x1 x2 x3 K → Wd D A s (mT cI cZ) (mW o h cI cZ f g) H locs → lv_has ls 8 [(0, .ref o), (1, .int x1), (2, .int x2), (3, .int x3)] → W p l e rmX11_isUnlike s m args below meth c H locs 0 0 Q (F0 m 7 ls []) := by
  induction n with
  | zero => intro f g x1 x2 x3 H locs ls hh; exact hh.elim
  | succ n ih => intro f g x1 x2 x3 H locs ls hh hw hl; exact tX11_isUnlike_b7_body C hR ih hh hw hl
set_option maxHeartbeats 4000000 in
set_option maxRecDepth 100000 in
theorem tX11_isUnlike_b0 {K : Int32 → ((Nat → Int32) × (Nat → Nat → Int32)) → Prop} (C : CallFix p m c cX11_isUnlike 8 s args wsX11_isUnlike RX11) (hR : Rti .boolean p l e rmX11_isUnlike s m args below meth c cX11_isUnlike D A (mT cI cZ) (mWu o h cI cZ) K Q) {f : Nat → Int32} {g : Nat → Nat → Int32} {x1 : Int32} {x2 : Int32} (hh : wpX11_isUnlike_b0 f g x1 x2 K) {H : Heap} {locs : List Loc} {ls : Array Slot} (hw : Wd D A s (mT cI cZ) (mW o h cI cZ f g) H locs) (hl : lv_has ls 8 [(0, .ref o), (1, .int x1), (2, .int x2)]) : W p l e rmX11_isUnlike s m args below meth c H locs 0 0 Q (F0 m 0 ls []) := by
  unfold wpX11_isUnlike_b0 at hh
  refine lv_aload_n C.1 C.2.1 dX11_isUnlike_0 rfl (lv_at hl 0 rfl) ?_
  refine lv_iload_n C.1 C.2.1 dX11_isUnlike_1 rfl (lv_at hl 1 rfl) ?_
  refine m_Vv C hw (ctX11_setDown l D o h cI cZ f g x1 hh) (cwV 1 C.2.2.2.2 (gd_V w_1910 w_1912 w_93 w_125 w_1913) rfl rfl rfl cdX11_setDown ⟨Nat.le_of_ble_eq_true rfl, Nat.le_of_ble_eq_true rfl⟩) rfl hl.1 (Nat.le_of_ble_eq_true rfl) dX11_isUnlike_2 ⟨Nat.zero_le _, Nat.zero_le _⟩ (fun u2 H locs hh hw => ?_) rfl
  refine lv_iconst (v := (0 : Int32)) C.1 C.2.1 dX11_isUnlike_5 (by decide) ?_
  refine lv_istore_n (lv' := [(3, .int (0 : Int32)), (0, .ref o), (1, .int x1), (2, .int x2)]) C.1 C.2.1 dX11_isUnlike_6 rfl hl (by decide) rfl (fun ls hl => ?_)
  obtain ⟨n, hh⟩ := hh
  exact tX11_isUnlike_b7 C hR n _ _ _ _ _ _ _ _ hh hw (lv_sub hl [1, 2, 3, 0] rfl)
theorem ctX11_isUnlike (l : Launch) (D : va_G) (o : Nat) (h : Nat → Nat) (cI cZ : ClassId) (f : Nat → Int32) (g : Nat → Nat → Int32) (x1 : Int32) (x2 : Int32) {K : Int32 → ((Nat → Int32) × (Nat → Nat → Int32)) → Prop} (hh : wpX11_isUnlike f g x1 x2 K) : Ci l yX11_isUnlike wsX11_isUnlike rmX11_isUnlike [.ref o, .int x1, .int x2] D (mT cI cZ) (mWu o h cI cZ) (f, g) K := by
  refine Ci_of (cc := cX11_isUnlike) (maxL := 8) (by decide) rfl (Nat.le_of_ble_eq_true rfl) ?_
  intro p e s m below meth c A Q C hw hR ls hl
  exact tX11_isUnlike_b0 C hR hh hw hl
theorem cdX11_isUnlike : yX11_isUnlike.cls = RX11 ∧ yX11_isUnlike.cls ≠ "java/lang/invoke/MethodHandle" ∧ yX11_isUnlike.cls ≠ "java/lang/invoke/VarHandle" ∧ (parseMethodDescriptor yX11_isUnlike.desc).map (fun d => d.parameters.length) = some 2 := by decide +kernel
abbrev rmX11_needs : Room := { frames := 6, cells := 0, slots := 0, locals := 134 }
set_option maxHeartbeats 4000000 in
set_option maxRecDepth 100000 in
theorem tX11_needs_b22 {K : Int32 → ((Nat → Int32) × (Nat → Nat → Int32)) → Prop} (C : CallFix p m c cX11_needs 7 s args wsX11_needs RX11) (hR : Rti .int p l e rmX11_needs s m args below meth c cX11_needs D A (mT cI cZ) (mWu o h cI cZ) K Q) {f : Nat → Int32} {g : Nat → Nat → Int32} (hh : wpX11_needs_b22 f g K) {H : Heap} {locs : List Loc} {ls : Array Slot} (hw : Wd D A s (mT cI cZ) (mW o h cI cZ f g) H locs) (hl : lv_has ls 7 [(0, .ref o)]) : W p l e rmX11_needs s m args below meth c H locs 0 0 Q (F0 m 22 ls []) := by
  unfold wpX11_needs_b22 at hh
  refine lv_iconst (v := (-1 : Int32)) C.1 C.2.1 dX11_needs_22 (by decide) ?_
  exact hR _ _ _ (f, g) _ _ dX11_needs_23 rfl hh hw
set_option maxHeartbeats 4000000 in
set_option maxRecDepth 100000 in
theorem tX11_needs_b135 {K : Int32 → ((Nat → Int32) × (Nat → Nat → Int32)) → Prop} (C : CallFix p m c cX11_needs 7 s args wsX11_needs RX11) (hR : Rti .int p l e rmX11_needs s m args below meth c cX11_needs D A (mT cI cZ) (mWu o h cI cZ) K Q) {f : Nat → Int32} {g : Nat → Nat → Int32} {k0 : Int32} (hh : wpX11_needs_b135 f g k0 K) {H : Heap} {locs : List Loc} {ls : Array Slot} (hw : Wd D A s (mT cI cZ) (mW o h cI cZ f g) H locs) (hl : lv_has ls 7 [(0, .ref o)]) : W p l e rmX11_needs s m args below meth c H locs 0 0 Q (F0 m 135 ls [.int k0]) := by
  unfold wpX11_needs_b135 at hh
  exact hR _ _ _ (f, g) _ _ dX11_needs_135 rfl hh hw
set_option maxHeartbeats 4000000 in
set_option maxRecDepth 100000 in
theorem tX11_needs_b120 {K : Int32 → ((Nat → Int32) × (Nat → Nat → Int32)) → Prop} (C : CallFix p m c cX11_needs 7 s args wsX11_needs RX11) (hR : Rti .int p l e rmX11_needs s m args below meth c cX11_needs D A (mT cI cZ) (mWu o h cI cZ) K Q) {f : Nat → Int32} {g : Nat → Nat → Int32} {x4 : Int32} (hh : wpX11_needs_b120 f g x4 K) {H : Heap} {locs : List Loc} {ls : Array Slot} (hw : Wd D A s (mT cI cZ) (mW o h cI cZ f g) H locs) (hl : lv_has ls 7 [(0, .ref o), (4, .int x4)]) : W p l e rmX11_needs s m args below meth c H locs 0 0 Q (F0 m 120 ls []) := by
  unfold wpX11_needs_b120 at hh
  refine lv_aload_n C.1 C.2.1 dX11_needs_120 rfl (lv_at hl 0 rfl) ?_
  refine lv_iconst (v := (4 : Int32)) C.1 C.2.1 dX11_needs_121 (by decide) ?_
  refine m_Vv C hw (ctX11_takes l D o h cI cZ f g (4 : Int32) hh) (cwV 1 C.2.2.2.2 (gd_V w_1902 w_1904 w_92 w_125 w_1905) rfl rfl rfl cdX11_takes ⟨Nat.le_of_ble_eq_true rfl, Nat.le_of_ble_eq_true rfl⟩) rfl hl.1 (Nat.le_of_ble_eq_true rfl) dX11_needs_122 ⟨Nat.zero_le _, Nat.zero_le _⟩ (fun u122 H locs hh hw => ?_) rfl
  refine lv_iload C.1 C.2.1 dX11_needs_125 (lv_at hl 1 rfl) ?_
  refine lv_if_eq (tgt := 134) C.1 C.2.1 dX11_needs_127 (by decide) (fun c127 => ?_) (fun c127 => ?_)
  · replace hh := hh.1 c127
    refine lv_iconst (v := (0 : Int32)) C.1 C.2.1 dX11_needs_134 (by decide) ?_
    exact tX11_needs_b135 C hR hh hw (lv_sub hl [0] rfl)
  · replace hh := hh.2 c127
    refine lv_iconst (v := (1 : Int32)) C.1 C.2.1 dX11_needs_130 (by decide) ?_
    refine lv_goto (tgt := 135) C.1 C.2.1 dX11_needs_131 (by decide) ?_
    exact tX11_needs_b135 C hR hh hw (lv_sub hl [0] rfl)
set_option maxHeartbeats 4000000 in
set_option maxRecDepth 100000 in
theorem tX11_needs_b114 {B41 : (Nat → Int32) → (Nat → Nat → Int32) → Int32 → Int32 → Int32 → Prop} {K : Int32 → ((Nat → Int32) × (Nat → Nat → Int32)) → Prop} (C : CallFix p m c cX11_needs 7 s args wsX11_needs RX11) (hR : Rti .int p l e rmX11_needs s m args below meth c cX11_needs D A (mT cI cZ) (mWu o h cI cZ) K Q) (hB41 : ∀ (f : Nat → Int32) (g : Nat → Nat → Int32) (x1 : Int32) (x4 : Int32) (x5 : Int32) (H : Heap) (locs : List Loc) (ls : Array Slot), B41 f g x1 x4 x5 → Wd D A s (mT cI cZ) (mW o h cI cZ f g) H locs → lv_has ls 7 [(0, .ref o), (1, .int x1), (4, .int x4), (5, .int x5)] → W p l e rmX11_needs s m args below meth c H locs 0 0 Q (F0 m 41 ls [])) {f : Nat → Int32} {g : Nat → Nat → Int32} {x1 : Int32} {x4 : Int32} {x5 : Int32} (hh : wpX11_needs_b114 B41 f g x1 x4 x5 K) {H : Heap} {locs : List Loc} {ls : Array Slot} (hw : Wd D A s (mT cI cZ) (mW o h cI cZ f g) H locs) (hl : lv_has ls 7 [(0, .ref o), (1, .int x1), (4, .int x4), (5, .int x5)]) : W p l e rmX11_needs s m args below meth c H locs 0 0 Q (F0 m 114 ls []) := by
  unfold wpX11_needs_b114 at hh
  refine lv_iinc (v := x5 + (1 : Int32)) (lv' := [(5, .int (x5 + (1 : Int32))), (0, .ref o), (1, .int x1), (4, .int x4)]) C.1 C.2.1 dX11_needs_114 hl (k := 3) rfl rfl (by decide) rfl (fun ls hl => ?_)
  refine lv_goto (tgt := 41) C.1 C.2.1 dX11_needs_117 (by decide) ?_
  exact hB41 _ _ _ _ _ _ _ _ hh hw (lv_sub hl [1, 2, 3, 0] rfl)
set_option maxHeartbeats 4000000 in
set_option maxRecDepth 100000 in
theorem tX11_needs_b106 {B41 : (Nat → Int32) → (Nat → Nat → Int32) → Int32 → Int32 → Int32 → Prop} {B66 : (Nat → Int32) → (Nat → Nat → Int32) → Int32 → Int32 → Int32 → Int32 → Prop} {K : Int32 → ((Nat → Int32) × (Nat → Nat → Int32)) → Prop} (C : CallFix p m c cX11_needs 7 s args wsX11_needs RX11) (hR : Rti .int p l e rmX11_needs s m args below meth c cX11_needs D A (mT cI cZ) (mWu o h cI cZ) K Q) (hB41 : ∀ (f : Nat → Int32) (g : Nat → Nat → Int32) (x1 : Int32) (x4 : Int32) (x5 : Int32) (H : Heap) (locs : List Loc) (ls : Array Slot), B41 f g x1 x4 x5 → Wd D A s (mT cI cZ) (mW o h cI cZ f g) H locs → lv_has ls 7 [(0, .ref o), (1, .int x1), (4, .int x4), (5, .int x5)] → W p l e rmX11_needs s m args below meth c H locs 0 0 Q (F0 m 41 ls [])) (hB66 : ∀ (f : Nat → Int32) (g : Nat → Nat → Int32) (x1 : Int32) (x4 : Int32) (x5 : Int32) (x6 : Int32) (H : Heap) (locs : List Loc) (ls : Array Slot), B66 f g x1 x4 x5 x6 → Wd D A s (mT cI cZ) (mW o h cI cZ f g) H locs → lv_has ls 7 [(0, .ref o), (1, .int x1), (4, .int x4), (5, .int x5), (6, .int x6)] → W p l e rmX11_needs s m args below meth c H locs 0 0 Q (F0 m 66 ls [])) {f : Nat → Int32} {g : Nat → Nat → Int32} {k0 : Int32} {x1 : Int32} {x5 : Int32} {x6 : Int32} (hh : wpX11_needs_b106 B41 B66 f g k0 x1 x5 x6 K) {H : Heap} {locs : List Loc} {ls : Array Slot} (hw : Wd D A s (mT cI cZ) (mW o h cI cZ f g) H locs) (hl : lv_has ls 7 [(0, .ref o), (1, .int x1), (5, .int x5), (6, .int x6)]) : W p l e rmX11_needs s m args below meth c H locs 0 0 Q (F0 m 106 ls [.int k0]) := by
  unfold wpX11_needs_b106 at hh
  refine lv_istore (lv' := [(4, .int k0), (0, .ref o), (1, .int x1), (5, .int x5), (6, .int x6)]) C.1 C.2.1 dX11_needs_106 hl (by decide) rfl (fun ls hl => ?_)
  refine lv_iinc (v := x6 + (1 : Int32)) (lv' := [(6, .int (x6 + (1 : Int32))), (4, .int k0), (0, .ref o), (1, .int x1), (5, .int x5)]) C.1 C.2.1 dX11_needs_108 hl (k := 4) rfl rfl (by decide) rfl (fun ls hl => ?_)
  refine lv_goto (tgt := 66) C.1 C.2.1 dX11_needs_111 (by decide) ?_
  exact hB66 _ _ _ _ _ _ _ _ _ hh hw (lv_sub hl [2, 3, 1, 4, 0] rfl)
set_option maxHeartbeats 4000000 in
set_option maxRecDepth 100000 in
theorem tX11_needs_b105 {B41 : (Nat → Int32) → (Nat → Nat → Int32) → Int32 → Int32 → Int32 → Prop} {B66 : (Nat → Int32) → (Nat → Nat → Int32) → Int32 → Int32 → Int32 → Int32 → Prop} {K : Int32 → ((Nat → Int32) × (Nat → Nat → Int32)) → Prop} (C : CallFix p m c cX11_needs 7 s args wsX11_needs RX11) (hR : Rti .int p l e rmX11_needs s m args below meth c cX11_needs D A (mT cI cZ) (mWu o h cI cZ) K Q) (hB41 : ∀ (f : Nat → Int32) (g : Nat → Nat → Int32) (x1 : Int32) (x4 : Int32) (x5 : Int32) (H : Heap) (locs : List Loc) (ls : Array Slot), B41 f g x1 x4 x5 → Wd D A s (mT cI cZ) (mW o h cI cZ f g) H locs → lv_has ls 7 [(0, .ref o), (1, .int x1), (4, .int x4), (5, .int x5)] → W p l e rmX11_needs s m args below meth c H locs 0 0 Q (F0 m 41 ls [])) (hB66 : ∀ (f : Nat → Int32) (g : Nat → Nat → Int32) (x1 : Int32) (x4 : Int32) (x5 : Int32) (x6 : Int32) (H : Heap) (locs : List Loc) (ls : Array Slot), B66 f g x1 x4 x5 x6 → Wd D A s (mT cI cZ) (mW o h cI cZ f g) H locs → lv_has ls 7 [(0, .ref o), (1, .int x1), (4, .int x4), (5, .int x5), (6, .int x6)] → W p l e rmX11_needs s m args below meth c H locs 0 0 Q (F0 m 66 ls [])) {f : Nat → Int32} {g : Nat → Nat → Int32} {x1 : Int32} {x5 : Int32} {x6 : Int32} (hh : wpX11_needs_b105 B41 B66 f g x1 x5 x6 K) {H : Heap} {locs : List Loc} {ls : Array Slot} (hw : Wd D A s (mT cI cZ) (mW o h cI cZ f g) H locs) (hl : lv_has ls 7 [(0, .ref o), (1, .int x1), (5, .int x5), (6, .int x6)]) : W p l e rmX11_needs s m args below meth c H locs 0 0 Q (F0 m 105 ls []) := by
  unfold wpX11_needs_b105 at hh
  refine lv_iconst (v := (0 : Int32)) C.1 C.2.1 dX11_needs_105 (by decide) ?_
  exact tX11_needs_b106 C hR hB41 hB66 hh hw hl
set_option maxHeartbeats 4000000 in
set_option maxRecDepth 100000 in
theorem tX11_needs_b66_body {B41 : (Nat → Int32) → (Nat → Nat → Int32) → Int32 → Int32 → Int32 → Prop} {B66 : (Nat → Int32) → (Nat → Nat → Int32) → Int32 → Int32 → Int32 → Int32 → Prop} {K : Int32 → ((Nat → Int32) × (Nat → Nat → Int32)) → Prop} (C : CallFix p m c cX11_needs 7 s args wsX11_needs RX11) (hR : Rti .int p l e rmX11_needs s m args below meth c cX11_needs D A (mT cI cZ) (mWu o h cI cZ) K Q) (hB41 : ∀ (f : Nat → Int32) (g : Nat → Nat → Int32) (x1 : Int32) (x4 : Int32) (x5 : Int32) (H : Heap) (locs : List Loc) (ls : Array Slot), B41 f g x1 x4 x5 → Wd D A s (mT cI cZ) (mW o h cI cZ f g) H locs → lv_has ls 7 [(0, .ref o), (1, .int x1), (4, .int x4), (5, .int x5)] → W p l e rmX11_needs s m args below meth c H locs 0 0 Q (F0 m 41 ls [])) (hB66 : ∀ (f : Nat → Int32) (g : Nat → Nat → Int32) (x1 : Int32) (x4 : Int32) (x5 : Int32) (x6 : Int32) (H : Heap) (locs : List Loc) (ls : Array Slot), B66 f g x1 x4 x5 x6 → Wd D A s (mT cI cZ) (mW o h cI cZ f g) H locs → lv_has ls 7 [(0, .ref o), (1, .int x1), (4, .int x4), (5, .int x5), (6, .int x6)] → W p l e rmX11_needs s m args below meth c H locs 0 0 Q (F0 m 66 ls [])) {f : Nat → Int32} {g : Nat → Nat → Int32} {x1 : Int32} {x4 : Int32} {x5 : Int32} {x6 : Int32} (hh : wpX11_needs_b66_body B41 B66 f g x1 x4 x5 x6 K) {H : Heap} {locs : List Loc} {ls : Array Slot} (hw : Wd D A s (mT cI cZ) (mW o h cI cZ f g) H locs) (hl : lv_has ls 7 [(0, .ref o), (1, .int x1), (4, .int x4), (5, .int x5), (6, .int x6)]) : W p l e rmX11_needs s m args below meth c H locs 0 0 Q (F0 m 66 ls []) := by
  unfold wpX11_needs_b66_body at hh
  refine lv_iload C.1 C.2.1 dX11_needs_66 (lv_at hl 4 rfl) ?_
  refine lv_aload_n C.1 C.2.1 dX11_needs_68 rfl (lv_at hl 0 rfl) ?_
  refine m_Vi C hw (ctX11_squares l D o h cI cZ f g  hh) (cwV 0 C.2.2.2.2 (gd_V w_1454 w_1456 w_54 w_125 w_1457) rfl rfl rfl cdX11_squares ⟨Nat.le_of_ble_eq_true rfl, Nat.le_of_ble_eq_true rfl⟩) rfl hl.1 (Nat.le_of_ble_eq_true rfl) dX11_needs_69 ⟨Nat.zero_le _, Nat.zero_le _⟩ (fun r69 u69 H locs hh hw => ?_) rfl
  refine lv_icmp_ge (tgt := 114) C.1 C.2.1 dX11_needs_72 (by decide) (fun c72 => ?_) (fun c72 => ?_)
  · replace hh := hh.1 c72
    exact tX11_needs_b114 C hR hB41 hh hw (lv_sub hl [0, 1, 2, 3] rfl)
  · replace hh := hh.2 c72
    refine lv_iload C.1 C.2.1 dX11_needs_75 (lv_at hl 2 rfl) ?_
    refine lv_if_ne (tgt := 114) C.1 C.2.1 dX11_needs_77 (by decide) (fun c77 => ?_) (fun c77 => ?_)
    · replace hh := hh.1 c77
      exact tX11_needs_b114 C hR hB41 hh hw (lv_sub hl [0, 1, 2, 3] rfl)
    · replace hh := hh.2 c77
      refine lv_aload_n C.1 C.2.1 dX11_needs_80 rfl (lv_at hl 0 rfl) ?_
      refine m_ga C hw (inC inW11) 54 (by decide) (wc w_1516) mg_54 dX11_needs_81 ?_
      refine lv_iload C.1 C.2.1 dX11_needs_84 (lv_at hl 4 rfl) ?_
      obtain ⟨hi86, hh⟩ := hh
      refine m_ial C hw mp_54 (x := u69.2 54 (ix x6)) hi86 rfl dX11_needs_86 ?_
      refine lv_iconst (v := (-1 : Int32)) C.1 C.2.1 dX11_needs_87 (by decide) ?_
      refine lv_icmp_eq (tgt := 105) C.1 C.2.1 dX11_needs_88 (by decide) (fun c88 => ?_) (fun c88 => ?_)
      · replace hh := hh.1 c88
        exact tX11_needs_b105 C hR hB41 hB66 hh hw (lv_sub hl [0, 1, 3, 4] rfl)
      · replace hh := hh.2 c88
        refine lv_aload_n C.1 C.2.1 dX11_needs_91 rfl (lv_at hl 0 rfl) ?_
        refine lv_iload C.1 C.2.1 dX11_needs_92 (lv_at hl 4 rfl) ?_
        refine lv_iload_n C.1 C.2.1 dX11_needs_94 rfl (lv_at hl 1 rfl) ?_
        refine m_Vi C hw (ctX11_isUnlike l D o h cI cZ u69.1 u69.2 x6 x1 hh) (cwV 2 C.2.2.2.2 (gd_V w_1961 w_1963 w_101 w_125 w_1964) rfl rfl rfl cdX11_isUnlike ⟨Nat.le_of_ble_eq_true rfl, Nat.le_of_ble_eq_true rfl⟩) rfl hl.1 (Nat.le_of_ble_eq_true rfl) dX11_needs_95 ⟨Nat.zero_le _, Nat.zero_le _⟩ (fun r95 u95 H locs hh hw => ?_) rfl
        refine lv_if_eq (tgt := 105) C.1 C.2.1 dX11_needs_98 (by decide) (fun c98 => ?_) (fun c98 => ?_)
        · replace hh := hh.1 c98
          exact tX11_needs_b105 C hR hB41 hB66 hh hw (lv_sub hl [0, 1, 3, 4] rfl)
        · replace hh := hh.2 c98
          refine lv_iconst (v := (1 : Int32)) C.1 C.2.1 dX11_needs_101 (by decide) ?_
          refine lv_goto (tgt := 106) C.1 C.2.1 dX11_needs_102 (by decide) ?_
          exact tX11_needs_b106 C hR hB41 hB66 hh hw (lv_sub hl [0, 1, 3, 4] rfl)
theorem tX11_needs_b66 {B41 : (Nat → Int32) → (Nat → Nat → Int32) → Int32 → Int32 → Int32 → Prop} {K : Int32 → ((Nat → Int32) × (Nat → Nat → Int32)) → Prop} (C : CallFix p m c cX11_needs 7 s args wsX11_needs RX11) (hR : Rti .int p l e rmX11_needs s m args below meth c cX11_needs D A (mT cI cZ) (mWu o h cI cZ) K Q) (hB41 : ∀ (f : Nat → Int32) (g : Nat → Nat → Int32) (x1 : Int32) (x4 : Int32) (x5 : Int32) (H : Heap) (locs : List Loc) (ls : Array Slot), B41 f g x1 x4 x5 → Wd D A s (mT cI cZ) (mW o h cI cZ f g) H locs → lv_has ls 7 [(0, .ref o), (1, .int x1), (4, .int x4), (5, .int x5)] → W p l e rmX11_needs s m args below meth c H locs 0 0 Q (F0 m 41 ls [])) (n : Nat) : ∀ (f : Nat → Int32) (g : Nat → Nat → Int32) (x1 : Int32) (x4 : Int32) (x5 : Int32) (x6 : Int32) (H : Heap) (locs : List Loc) (ls : Array Slot), wpX11_needs_b66 B41 n f g x1 x4 x5 x6 K → Wd D A s (mT cI cZ) (mW o h cI cZ f g) H locs → lv_has ls 7 [(0, .ref o), (1, .int x1), (4, .int x4), (5, .int x5), (6, .int x6)] → W p l e rmX11_needs s m args below meth c H locs 0 0 Q (F0 m 66 ls []) := by
  induction n with
  | zero => intro f g x1 x4 x5 x6 H locs ls hh; exact hh.elim
  | succ n ih => intro f g x1 x4 x5 x6 H locs ls hh hw hl; exact tX11_needs_b66_body C hR hB41 ih hh hw hl
set_option maxHeartbeats 4000000 in
set_option maxRecDepth 100000 in
theorem tX11_needs_b41_body {B41 : (Nat → Int32) → (Nat → Nat → Int32) → Int32 → Int32 → Int32 → Prop} {K : Int32 → ((Nat → Int32) × (Nat → Nat → Int32)) → Prop} (C : CallFix p m c cX11_needs 7 s args wsX11_needs RX11) (hR : Rti .int p l e rmX11_needs s m args below meth c cX11_needs D A (mT cI cZ) (mWu o h cI cZ) K Q) (hB41 : ∀ (f : Nat → Int32) (g : Nat → Nat → Int32) (x1 : Int32) (x4 : Int32) (x5 : Int32) (H : Heap) (locs : List Loc) (ls : Array Slot), B41 f g x1 x4 x5 → Wd D A s (mT cI cZ) (mW o h cI cZ f g) H locs → lv_has ls 7 [(0, .ref o), (1, .int x1), (4, .int x4), (5, .int x5)] → W p l e rmX11_needs s m args below meth c H locs 0 0 Q (F0 m 41 ls [])) {f : Nat → Int32} {g : Nat → Nat → Int32} {x1 : Int32} {x4 : Int32} {x5 : Int32} (hh : wpX11_needs_b41_body B41 f g x1 x4 x5 K) {H : Heap} {locs : List Loc} {ls : Array Slot} (hw : Wd D A s (mT cI cZ) (mW o h cI cZ f g) H locs) (hl : lv_has ls 7 [(0, .ref o), (1, .int x1), (4, .int x4), (5, .int x5)]) : W p l e rmX11_needs s m args below meth c H locs 0 0 Q (F0 m 41 ls []) := by
  unfold wpX11_needs_b41_body at hh
  refine lv_iload C.1 C.2.1 dX11_needs_41 (lv_at hl 3 rfl) ?_
  refine lv_iconst (v := (1 : Int32)) C.1 C.2.1 dX11_needs_43 (by decide) ?_
  refine lv_aload_n C.1 C.2.1 dX11_needs_44 rfl (lv_at hl 0 rfl) ?_
  refine m_Vi C hw (ctX11_wallMany l D o h cI cZ f g  hh) (cwV 0 C.2.2.2.2 (gd_V w_1937 w_1939 w_97 w_125 w_1940) rfl rfl rfl cdX11_wallMany ⟨Nat.le_of_ble_eq_true rfl, Nat.le_of_ble_eq_true rfl⟩) rfl hl.1 (Nat.le_of_ble_eq_true rfl) dX11_needs_45 ⟨Nat.zero_le _, Nat.zero_le _⟩ (fun r45 u45 H locs hh hw => ?_) rfl
  refine g_ishl C dX11_needs_48 ?_
  refine lv_icmp_ge (tgt := 120) C.1 C.2.1 dX11_needs_49 (by decide) (fun c49 => ?_) (fun c49 => ?_)
  · replace hh := hh.1 c49
    exact tX11_needs_b120 C hR hh hw (lv_sub hl [0, 2] rfl)
  · replace hh := hh.2 c49
    refine lv_iload C.1 C.2.1 dX11_needs_52 (lv_at hl 2 rfl) ?_
    refine lv_if_ne (tgt := 120) C.1 C.2.1 dX11_needs_54 (by decide) (fun c54 => ?_) (fun c54 => ?_)
    · replace hh := hh.1 c54
      exact tX11_needs_b120 C hR hh hw (lv_sub hl [0, 2] rfl)
    · replace hh := hh.2 c54
      refine lv_aload_n C.1 C.2.1 dX11_needs_57 rfl (lv_at hl 0 rfl) ?_
      refine lv_iload C.1 C.2.1 dX11_needs_58 (lv_at hl 3 rfl) ?_
      refine m_Vv C hw (ctX11_wallsBy l D o h cI cZ u45.1 u45.2 x5 hh) (cwV 1 C.2.2.2.2 (gd_V w_1941 w_1943 w_98 w_125 w_1944) rfl rfl rfl cdX11_wallsBy ⟨Nat.le_of_ble_eq_true rfl, Nat.le_of_ble_eq_true rfl⟩) rfl hl.1 (Nat.le_of_ble_eq_true rfl) dX11_needs_60 ⟨Nat.zero_le _, Nat.zero_le _⟩ (fun u60 H locs hh hw => ?_) rfl
      refine lv_iconst (v := (0 : Int32)) C.1 C.2.1 dX11_needs_63 (by decide) ?_
      refine lv_istore (lv' := [(6, .int (0 : Int32)), (0, .ref o), (1, .int x1), (4, .int x4), (5, .int x5)]) C.1 C.2.1 dX11_needs_64 hl (by decide) rfl (fun ls hl => ?_)
      obtain ⟨n, hh⟩ := hh
      exact tX11_needs_b66 C hR hB41 n _ _ _ _ _ _ _ _ _ hh hw (lv_sub hl [1, 2, 3, 4, 0] rfl)
theorem tX11_needs_b41 {K : Int32 → ((Nat → Int32) × (Nat → Nat → Int32)) → Prop} (C : CallFix p m c cX11_needs 7 s args wsX11_needs RX11) (hR : Rti .int p l e rmX11_needs s m args below meth c cX11_needs D A (mT cI cZ) (mWu o h cI cZ) K Q) (n : Nat) : ∀ (f : Nat → Int32) (g : Nat → Nat → Int32) (x1 : Int32) (x4 : Int32) (x5 : Int32) (H : Heap) (locs : List Loc) (ls : Array Slot), wpX11_needs_b41 n f g x1 x4 x5 K → Wd D A s (mT cI cZ) (mW o h cI cZ f g) H locs → lv_has ls 7 [(0, .ref o), (1, .int x1), (4, .int x4), (5, .int x5)] → W p l e rmX11_needs s m args below meth c H locs 0 0 Q (F0 m 41 ls []) := by
  induction n with
  | zero => intro f g x1 x4 x5 H locs ls hh; exact hh.elim
  | succ n ih => intro f g x1 x4 x5 H locs ls hh hw hl; exact tX11_needs_b41_body C hR ih hh hw hl
set_option maxHeartbeats 4000000 in
set_option maxRecDepth 100000 in
theorem tX11_needs_b0 {K : Int32 → ((Nat → Int32) × (Nat → Nat → Int32)) → Prop} (C : CallFix p m c cX11_needs 7 s args wsX11_needs RX11) (hR : Rti .int p l e rmX11_needs s m args below meth c cX11_needs D A (mT cI cZ) (mWu o h cI cZ) K Q) {f : Nat → Int32} {g : Nat → Nat → Int32} {x1 : Int32} {x2 : Int32} {x3 : Int32} (hh : wpX11_needs_b0 f g x1 x2 x3 K) {H : Heap} {locs : List Loc} {ls : Array Slot} (hw : Wd D A s (mT cI cZ) (mW o h cI cZ f g) H locs) (hl : lv_has ls 7 [(0, .ref o), (1, .int x1), (2, .int x2), (3, .int x3)]) : W p l e rmX11_needs s m args below meth c H locs 0 0 Q (F0 m 0 ls []) := by
  unfold wpX11_needs_b0 at hh
  refine lv_aload_n C.1 C.2.1 dX11_needs_0 rfl (lv_at hl 0 rfl) ?_
  refine lv_iconst (v := (0 : Int32)) C.1 C.2.1 dX11_needs_1 (by decide) ?_
  refine m_pi C hw (inC inW11) 2 (by decide) (wc w_1464) rfl (ty := .int) (by decide +kernel) rfl rfl (Nat.le_of_ble_eq_true rfl) ms_2 dX11_needs_2 (fun H locs hw => ?_)
  refine lv_iload_n C.1 C.2.1 dX11_needs_5 rfl (lv_at hl 1 rfl) ?_
  refine lv_iconst (v := (0 : Int32)) C.1 C.2.1 dX11_needs_6 (by decide) ?_
  refine lv_iconst (v := (2 : Int32)) C.1 C.2.1 dX11_needs_7 (by decide) ?_
  refine wd_Si C hw (ctX11_isIn l D x1 (0 : Int32) (2 : Int32) hh) (va_cwS 3 C.2.2.2.2 (gd_S w_1804 w_1805 (ini_cls rfl w_125) w_1806) rfl rfl rfl cdX11_isIn ⟨Nat.le_of_ble_eq_true rfl, Nat.le_of_ble_eq_true rfl⟩) rfl hl.1 (Nat.le_of_ble_eq_true rfl) dX11_needs_8 ⟨Nat.zero_le _, Nat.zero_le _⟩ (fun r8 H locs hh hw => ?_) rfl
  refine lv_if_eq (tgt := 22) C.1 C.2.1 dX11_needs_11 (by decide) (fun c11 => ?_) (fun c11 => ?_)
  · replace hh := hh.1 c11
    exact tX11_needs_b22 C hR hh hw (lv_sub hl [0] rfl)
  · replace hh := hh.2 c11
    refine lv_iload_n C.1 C.2.1 dX11_needs_14 rfl (lv_at hl 2 rfl) ?_
    refine lv_iload_n C.1 C.2.1 dX11_needs_15 rfl (lv_at hl 3 rfl) ?_
    refine wd_Si C hw (ctX11_isSmallFloor l D x2 x3 hh) (va_cwS 2 C.2.2.2.2 (gd_S w_1926 w_1927 (ini_cls rfl w_125) w_1928) rfl rfl rfl cdX11_isSmallFloor ⟨Nat.le_of_ble_eq_true rfl, Nat.le_of_ble_eq_true rfl⟩) rfl hl.1 (Nat.le_of_ble_eq_true rfl) dX11_needs_16 ⟨Nat.zero_le _, Nat.zero_le _⟩ (fun r16 H locs hh hw => ?_) rfl
    refine lv_if_ne (tgt := 24) C.1 C.2.1 dX11_needs_19 (by decide) (fun c19 => ?_) (fun c19 => ?_)
    · replace hh := hh.1 c19
      refine lv_aload_n C.1 C.2.1 dX11_needs_24 rfl (lv_at hl 0 rfl) ?_
      refine lv_iconst (v := (4 : Int32)) C.1 C.2.1 dX11_needs_25 (by decide) ?_
      refine m_Vv C hw (ctX11_puts l D o h cI cZ (upd f 2 (0 : Int32)) g (4 : Int32) hh) (cwV 1 C.2.2.2.2 (gd_V w_1894 w_1896 w_91 w_125 w_1897) rfl rfl rfl cdX11_puts ⟨Nat.le_of_ble_eq_true rfl, Nat.le_of_ble_eq_true rfl⟩) rfl hl.1 (Nat.le_of_ble_eq_true rfl) dX11_needs_26 ⟨Nat.zero_le _, Nat.zero_le _⟩ (fun u26 H locs hh hw => ?_) rfl
      refine lv_aload_n C.1 C.2.1 dX11_needs_29 rfl (lv_at hl 0 rfl) ?_
      refine lv_iload_n C.1 C.2.1 dX11_needs_30 rfl (lv_at hl 2 rfl) ?_
      refine lv_iload_n C.1 C.2.1 dX11_needs_31 rfl (lv_at hl 3 rfl) ?_
      refine m_Vv C hw (ctX11_small l D o h cI cZ u26.1 u26.2 x2 x3 hh) (cwV 2 C.2.2.2.2 (gd_V w_1933 w_1935 w_96 w_125 w_1936) rfl rfl rfl cdX11_small ⟨Nat.le_of_ble_eq_true rfl, Nat.le_of_ble_eq_true rfl⟩) rfl hl.1 (Nat.le_of_ble_eq_true rfl) dX11_needs_32 ⟨Nat.zero_le _, Nat.zero_le _⟩ (fun u32 H locs hh hw => ?_) rfl
      refine lv_iconst (v := (0 : Int32)) C.1 C.2.1 dX11_needs_35 (by decide) ?_
      refine lv_istore (lv' := [(4, .int (0 : Int32)), (0, .ref o), (1, .int x1), (2, .int x2), (3, .int x3)]) C.1 C.2.1 dX11_needs_36 hl (by decide) rfl (fun ls hl => ?_)
      refine lv_iconst (v := (0 : Int32)) C.1 C.2.1 dX11_needs_38 (by decide) ?_
      refine lv_istore (lv' := [(5, .int (0 : Int32)), (4, .int (0 : Int32)), (0, .ref o), (1, .int x1), (2, .int x2), (3, .int x3)]) C.1 C.2.1 dX11_needs_39 hl (by decide) rfl (fun ls hl => ?_)
      obtain ⟨n, hh⟩ := hh
      exact tX11_needs_b41 C hR n _ _ _ _ _ _ _ _ hh hw (lv_sub hl [2, 3, 1, 0] rfl)
    · replace hh := hh.2 c19
      exact tX11_needs_b22 C hR hh hw (lv_sub hl [0] rfl)
theorem ctX11_needs (l : Launch) (D : va_G) (o : Nat) (h : Nat → Nat) (cI cZ : ClassId) (f : Nat → Int32) (g : Nat → Nat → Int32) (x1 : Int32) (x2 : Int32) (x3 : Int32) {K : Int32 → ((Nat → Int32) × (Nat → Nat → Int32)) → Prop} (hh : wpX11_needs f g x1 x2 x3 K) : Ci l yX11_needs wsX11_needs rmX11_needs [.ref o, .int x1, .int x2, .int x3] D (mT cI cZ) (mWu o h cI cZ) (f, g) K := by
  refine Ci_of (cc := cX11_needs) (maxL := 7) (by decide) rfl (Nat.le_of_ble_eq_true rfl) ?_
  intro p e s m below meth c A Q C hw hR ls hl
  exact tX11_needs_b0 C hR hh hw hl
theorem cdX11_needs : yX11_needs.cls = RX11 ∧ yX11_needs.cls ≠ "java/lang/invoke/MethodHandle" ∧ yX11_needs.cls ≠ "java/lang/invoke/VarHandle" ∧ (parseMethodDescriptor yX11_needs.desc).map (fun d => d.parameters.length) = some 3 := by decide +kernel
end
