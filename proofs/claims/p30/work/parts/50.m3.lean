section
variable {p : Program} {l : Launch} {e : Env} {s : State} {m : MethodId} {args : Array Value} {below : List Frame} {meth : Method} {c : Code} {D : va_G} {A : Nat → Prop} {o : Nat} {h : Nat → Nat} {cI cZ : ClassId} {Q : State → Prop}
abbrev rmX11_wipe : Room := { frames := 2, cells := 0, slots := 0, locals := 41 }
set_option maxHeartbeats 4000000 in
set_option maxRecDepth 100000 in
theorem tX11_wipe_b41 {B9 : (Nat → Int32) → (Nat → Nat → Int32) → Int32 → Int32 → Prop} {K : Int32 → ((Nat → Int32) × (Nat → Nat → Int32)) → Prop} (C : CallFix p m c cX11_wipe 3 s args wsX11_wipe RX11) (hR : Rti .int p l e rmX11_wipe s m args below meth c cX11_wipe D A (mT cI cZ) (mWu o h cI cZ) K Q) (hB9 : ∀ (f : Nat → Int32) (g : Nat → Nat → Int32) (x1 : Int32) (x2 : Int32) (H : Heap) (locs : List Loc) (ls : Array Slot), B9 f g x1 x2 → Wd D A s (mT cI cZ) (mW o h cI cZ f g) H locs → lv_has ls 3 [(0, .ref o), (1, .int x1), (2, .int x2)] → W p l e rmX11_wipe s m args below meth c H locs 0 0 Q (F0 m 9 ls [])) {f : Nat → Int32} {g : Nat → Nat → Int32} {k0 : Int32} {k1 : Int32} {x2 : Int32} (hh : wpX11_wipe_b41 B9 f g k0 k1 x2 K) {H : Heap} {locs : List Loc} {ls : Array Slot} (hw : Wd D A s (mT cI cZ) (mW o h cI cZ f g) H locs) (hl : lv_has ls 3 [(0, .ref o), (2, .int x2)]) : W p l e rmX11_wipe s m args below meth c H locs 0 0 Q (F0 m 41 ls [.int k1, .int k0]) := by
  unfold wpX11_wipe_b41 at hh
  refine lv_iadd C.1 C.2.1 dX11_wipe_41 ?_
  refine lv_istore_n (lv' := [(1, .int (k0 + k1)), (0, .ref o), (2, .int x2)]) C.1 C.2.1 dX11_wipe_42 rfl hl (by decide) rfl (fun ls hl => ?_)
  refine lv_iinc (v := x2 + (1 : Int32)) (lv' := [(2, .int (x2 + (1 : Int32))), (1, .int (k0 + k1)), (0, .ref o)]) C.1 C.2.1 dX11_wipe_43 hl (k := 2) rfl rfl (by decide) rfl (fun ls hl => ?_)
  refine lv_goto (tgt := 9) C.1 C.2.1 dX11_wipe_46 (by decide) ?_
  exact hB9 _ _ _ _ _ _ _ hh hw (lv_sub hl [2, 1, 0] rfl)
set_option maxHeartbeats 4000000 in
set_option maxRecDepth 100000 in
theorem tX11_wipe_b36 {B9 : (Nat → Int32) → (Nat → Nat → Int32) → Int32 → Int32 → Prop} {K : Int32 → ((Nat → Int32) × (Nat → Nat → Int32)) → Prop} (C : CallFix p m c cX11_wipe 3 s args wsX11_wipe RX11) (hR : Rti .int p l e rmX11_wipe s m args below meth c cX11_wipe D A (mT cI cZ) (mWu o h cI cZ) K Q) (hB9 : ∀ (f : Nat → Int32) (g : Nat → Nat → Int32) (x1 : Int32) (x2 : Int32) (H : Heap) (locs : List Loc) (ls : Array Slot), B9 f g x1 x2 → Wd D A s (mT cI cZ) (mW o h cI cZ f g) H locs → lv_has ls 3 [(0, .ref o), (1, .int x1), (2, .int x2)] → W p l e rmX11_wipe s m args below meth c H locs 0 0 Q (F0 m 9 ls [])) {f : Nat → Int32} {g : Nat → Nat → Int32} {k0 : Int32} {x2 : Int32} (hh : wpX11_wipe_b36 B9 f g k0 x2 K) {H : Heap} {locs : List Loc} {ls : Array Slot} (hw : Wd D A s (mT cI cZ) (mW o h cI cZ f g) H locs) (hl : lv_has ls 3 [(0, .ref o), (2, .int x2)]) : W p l e rmX11_wipe s m args below meth c H locs 0 0 Q (F0 m 36 ls [.int k0]) := by
  unfold wpX11_wipe_b36 at hh
  refine lv_iconst (v := (1 : Int32)) C.1 C.2.1 dX11_wipe_36 (by decide) ?_
  refine lv_goto (tgt := 41) C.1 C.2.1 dX11_wipe_37 (by decide) ?_
  exact tX11_wipe_b41 C hR hB9 hh hw hl
set_option maxHeartbeats 4000000 in
set_option maxRecDepth 100000 in
theorem tX11_wipe_b9_body {B9 : (Nat → Int32) → (Nat → Nat → Int32) → Int32 → Int32 → Prop} {K : Int32 → ((Nat → Int32) × (Nat → Nat → Int32)) → Prop} (C : CallFix p m c cX11_wipe 3 s args wsX11_wipe RX11) (hR : Rti .int p l e rmX11_wipe s m args below meth c cX11_wipe D A (mT cI cZ) (mWu o h cI cZ) K Q) (hB9 : ∀ (f : Nat → Int32) (g : Nat → Nat → Int32) (x1 : Int32) (x2 : Int32) (H : Heap) (locs : List Loc) (ls : Array Slot), B9 f g x1 x2 → Wd D A s (mT cI cZ) (mW o h cI cZ f g) H locs → lv_has ls 3 [(0, .ref o), (1, .int x1), (2, .int x2)] → W p l e rmX11_wipe s m args below meth c H locs 0 0 Q (F0 m 9 ls [])) {f : Nat → Int32} {g : Nat → Nat → Int32} {x1 : Int32} {x2 : Int32} (hh : wpX11_wipe_b9_body B9 f g x1 x2 K) {H : Heap} {locs : List Loc} {ls : Array Slot} (hw : Wd D A s (mT cI cZ) (mW o h cI cZ f g) H locs) (hl : lv_has ls 3 [(0, .ref o), (1, .int x1), (2, .int x2)]) : W p l e rmX11_wipe s m args below meth c H locs 0 0 Q (F0 m 9 ls []) := by
  unfold wpX11_wipe_b9_body at hh
  refine lv_iload_n C.1 C.2.1 dX11_wipe_9 rfl (lv_at hl 2 rfl) ?_
  refine lv_aload_n C.1 C.2.1 dX11_wipe_10 rfl (lv_at hl 0 rfl) ?_
  refine m_Vi C hw (ctX11_squares l D o h cI cZ f g  hh) (cwV 0 C.2.2.2.2 (gd_V w_1454 w_1456 w_54 w_125 w_1457) rfl rfl rfl cdX11_squares ⟨Nat.le_of_ble_eq_true rfl, Nat.le_of_ble_eq_true rfl⟩) rfl hl.1 (Nat.le_of_ble_eq_true rfl) dX11_wipe_11 ⟨Nat.zero_le _, Nat.zero_le _⟩ (fun r11 u11 H locs hh hw => ?_) rfl
  refine lv_icmp_ge (tgt := 49) C.1 C.2.1 dX11_wipe_14 (by decide) (fun c14 => ?_) (fun c14 => ?_)
  · replace hh := hh.1 c14
    refine lv_aload_n C.1 C.2.1 dX11_wipe_49 rfl (lv_at hl 0 rfl) ?_
    refine m_Vv C hw (ctX11_wipes l D o h cI cZ u11.1 u11.2  hh) (cwV 0 C.2.2.2.2 (gd_V w_1846 w_1848 w_84 w_125 w_1849) rfl rfl rfl cdX11_wipes ⟨Nat.le_of_ble_eq_true rfl, Nat.le_of_ble_eq_true rfl⟩) rfl hl.1 (Nat.le_of_ble_eq_true rfl) dX11_wipe_50 ⟨Nat.zero_le _, Nat.zero_le _⟩ (fun u50 H locs hh hw => ?_) rfl
    refine lv_aload_n C.1 C.2.1 dX11_wipe_53 rfl (lv_at hl 0 rfl) ?_
    refine lv_iconst (v := (0 : Int32)) C.1 C.2.1 dX11_wipe_54 (by decide) ?_
    refine m_pi C hw (inC inW11) 43 (by decide) (wc w_1505) rfl (ty := .int) (by decide +kernel) rfl rfl (Nat.le_of_ble_eq_true rfl) ms_43 dX11_wipe_55 (fun H locs hw => ?_)
    refine lv_aload_n C.1 C.2.1 dX11_wipe_58 rfl (lv_at hl 0 rfl) ?_
    refine lv_iconst (v := (0 : Int32)) C.1 C.2.1 dX11_wipe_59 (by decide) ?_
    refine m_pi C hw (inC inW11) 44 (by decide) (wc w_1506) rfl (ty := .int) (by decide +kernel) rfl rfl (Nat.le_of_ble_eq_true rfl) ms_44 dX11_wipe_60 (fun H locs hw => ?_)
    refine lv_aload_n C.1 C.2.1 dX11_wipe_63 rfl (lv_at hl 0 rfl) ?_
    refine lv_aload_n C.1 C.2.1 dX11_wipe_64 rfl (lv_at hl 0 rfl) ?_
    refine m_gi C hw (inC inW11) 49 (by decide) (wc w_1511) mg_49 (x := u50.1 49) rfl dX11_wipe_65 ?_
    refine lv_aload_n C.1 C.2.1 dX11_wipe_68 rfl (lv_at hl 0 rfl) ?_
    refine m_gi C hw (inC inW11) 50 (by decide) (wc w_1512) mg_50 (x := u50.1 50) rfl dX11_wipe_69 ?_
    refine lv_iand C.1 C.2.1 dX11_wipe_72 ?_
    refine m_pi C hw (inC inW11) 45 (by decide) (wc w_1507) rfl (ty := .int) (by decide +kernel) rfl rfl (Nat.le_of_ble_eq_true rfl) ms_45 dX11_wipe_73 (fun H locs hw => ?_)
    refine lv_iload_n C.1 C.2.1 dX11_wipe_76 rfl (lv_at hl 1 rfl) ?_
    exact hR _ _ _ (upd (upd (upd u50.1 43 (0 : Int32)) 44 (0 : Int32)) 45 ((u50.1 49) &&& (u50.1 50)), u50.2) _ _ dX11_wipe_77 rfl hh hw
  · replace hh := hh.2 c14
    refine lv_iload_n C.1 C.2.1 dX11_wipe_17 rfl (lv_at hl 1 rfl) ?_
    refine lv_aload_n C.1 C.2.1 dX11_wipe_18 rfl (lv_at hl 0 rfl) ?_
    refine m_ga C hw (inC inW11) 47 (by decide) (wc w_1509) mg_47 dX11_wipe_19 ?_
    refine lv_iload_n C.1 C.2.1 dX11_wipe_22 rfl (lv_at hl 2 rfl) ?_
    obtain ⟨hi23, hh⟩ := hh
    refine m_ial C hw mp_47 (x := u11.2 47 (ix x2)) hi23 rfl dX11_wipe_23 ?_
    refine lv_if_ne (tgt := 36) C.1 C.2.1 dX11_wipe_24 (by decide) (fun c24 => ?_) (fun c24 => ?_)
    · replace hh := hh.1 c24
      exact tX11_wipe_b36 C hR hB9 hh hw (lv_sub hl [0, 2] rfl)
    · replace hh := hh.2 c24
      refine lv_aload_n C.1 C.2.1 dX11_wipe_27 rfl (lv_at hl 0 rfl) ?_
      refine m_ga C hw (inC inW11) 48 (by decide) (wc w_1510) mg_48 dX11_wipe_28 ?_
      refine lv_iload_n C.1 C.2.1 dX11_wipe_31 rfl (lv_at hl 2 rfl) ?_
      obtain ⟨hi32, hh⟩ := hh
      refine m_ial C hw mp_48 (x := u11.2 48 (ix x2)) hi32 rfl dX11_wipe_32 ?_
      refine lv_if_eq (tgt := 40) C.1 C.2.1 dX11_wipe_33 (by decide) (fun c33 => ?_) (fun c33 => ?_)
      · replace hh := hh.1 c33
        refine lv_iconst (v := (0 : Int32)) C.1 C.2.1 dX11_wipe_40 (by decide) ?_
        exact tX11_wipe_b41 C hR hB9 hh hw (lv_sub hl [0, 2] rfl)
      · replace hh := hh.2 c33
        exact tX11_wipe_b36 C hR hB9 hh hw (lv_sub hl [0, 2] rfl)
theorem tX11_wipe_b9 {K : Int32 → ((Nat → Int32) × (Nat → Nat → Int32)) → Prop} (C : CallFix p m c cX11_wipe 3 s args wsX11_wipe RX11) (hR : Rti .int p l e rmX11_wipe s m args below meth c cX11_wipe D A (mT cI cZ) (mWu o h cI cZ) K Q) (n : Nat) : ∀ (f : Nat → Int32) (g : Nat → Nat → Int32) (x1 : Int32) (x2 : Int32) (H : Heap) (locs : List Loc) (ls : Array Slot), wpX11_wipe_b9 n f g x1 x2 K → Wd D A s (mT cI cZ) (mW o h cI cZ f g) H locs → lv_has ls 3 [(0, .ref o), (1, .int x1), (2, .int x2)] → W p l e rmX11_wipe s m args below meth c H locs 0 0 Q (F0 m 9 ls []) := by
  induction n with
  | zero => intro f g x1 x2 H locs ls hh; exact hh.elim
  | succ n ih => intro f g x1 x2 H locs ls hh hw hl; exact tX11_wipe_b9_body C hR ih hh hw hl
set_option maxHeartbeats 4000000 in
set_option maxRecDepth 100000 in
theorem tX11_wipe_b0 {K : Int32 → ((Nat → Int32) × (Nat → Nat → Int32)) → Prop} (C : CallFix p m c cX11_wipe 3 s args wsX11_wipe RX11) (hR : Rti .int p l e rmX11_wipe s m args below meth c cX11_wipe D A (mT cI cZ) (mWu o h cI cZ) K Q) {f : Nat → Int32} {g : Nat → Nat → Int32} (hh : wpX11_wipe_b0 f g K) {H : Heap} {locs : List Loc} {ls : Array Slot} (hw : Wd D A s (mT cI cZ) (mW o h cI cZ f g) H locs) (hl : lv_has ls 3 [(0, .ref o)]) : W p l e rmX11_wipe s m args below meth c H locs 0 0 Q (F0 m 0 ls []) := by
  unfold wpX11_wipe_b0 at hh
  refine lv_aload_n C.1 C.2.1 dX11_wipe_0 rfl (lv_at hl 0 rfl) ?_
  refine lv_iconst (v := (0 : Int32)) C.1 C.2.1 dX11_wipe_1 (by decide) ?_
  refine m_pi C hw (inC inW11) 2 (by decide) (wc w_1464) rfl (ty := .int) (by decide +kernel) rfl rfl (Nat.le_of_ble_eq_true rfl) ms_2 dX11_wipe_2 (fun H locs hw => ?_)
  refine lv_iconst (v := (0 : Int32)) C.1 C.2.1 dX11_wipe_5 (by decide) ?_
  refine lv_istore_n (lv' := [(1, .int (0 : Int32)), (0, .ref o)]) C.1 C.2.1 dX11_wipe_6 rfl hl (by decide) rfl (fun ls hl => ?_)
  refine lv_iconst (v := (0 : Int32)) C.1 C.2.1 dX11_wipe_7 (by decide) ?_
  refine lv_istore_n (lv' := [(2, .int (0 : Int32)), (1, .int (0 : Int32)), (0, .ref o)]) C.1 C.2.1 dX11_wipe_8 rfl hl (by decide) rfl (fun ls hl => ?_)
  obtain ⟨n, hh⟩ := hh
  exact tX11_wipe_b9 C hR n _ _ _ _ _ _ _ hh hw (lv_sub hl [2, 1, 0] rfl)
theorem ctX11_wipe (l : Launch) (D : va_G) (o : Nat) (h : Nat → Nat) (cI cZ : ClassId) (f : Nat → Int32) (g : Nat → Nat → Int32) {K : Int32 → ((Nat → Int32) × (Nat → Nat → Int32)) → Prop} (hh : wpX11_wipe f g K) : Ci l yX11_wipe wsX11_wipe rmX11_wipe [.ref o] D (mT cI cZ) (mWu o h cI cZ) (f, g) K := by
  refine Ci_of (cc := cX11_wipe) (maxL := 3) (by decide) rfl (Nat.le_of_ble_eq_true rfl) ?_
  intro p e s m below meth c A Q C hw hR ls hl
  exact tX11_wipe_b0 C hR hh hw hl
theorem cdX11_wipe : yX11_wipe.cls = RX11 ∧ yX11_wipe.cls ≠ "java/lang/invoke/MethodHandle" ∧ yX11_wipe.cls ≠ "java/lang/invoke/VarHandle" ∧ (parseMethodDescriptor yX11_wipe.desc).map (fun d => d.parameters.length) = some 0 := by decide +kernel
abbrev rmX11_goes : Room := { frames := 2, cells := 0, slots := 0, locals := 43 }
set_option maxHeartbeats 4000000 in
set_option maxRecDepth 100000 in
theorem tX11_goes_b0 {K : ((Nat → Int32) × (Nat → Nat → Int32)) → Prop} (C : CallFix p m c cX11_goes 1 s args wsX11_goes RX11) (hR : Rtv p l e rmX11_goes s m args below meth c cX11_goes D A (mT cI cZ) (mWu o h cI cZ) K Q) {f : Nat → Int32} {g : Nat → Nat → Int32} (hh : wpX11_goes_b0 f g K) {H : Heap} {locs : List Loc} {ls : Array Slot} (hw : Wd D A s (mT cI cZ) (mW o h cI cZ f g) H locs) (hl : lv_has ls 1 [(0, .ref o)]) : W p l e rmX11_goes s m args below meth c H locs 0 0 Q (F0 m 0 ls []) := by
  unfold wpX11_goes_b0 at hh
  refine lv_aload_n C.1 C.2.1 dX11_goes_0 rfl (lv_at hl 0 rfl) ?_
  refine lv_aload_n C.1 C.2.1 dX11_goes_1 rfl (lv_at hl 0 rfl) ?_
  refine m_gi C hw (inC inW11) 41 (by decide) (wc w_1503) mg_41 (x := f 41) rfl dX11_goes_2 ?_
  refine lv_aload_n C.1 C.2.1 dX11_goes_5 rfl (lv_at hl 0 rfl) ?_
  refine m_gi C hw (inC inW11) 42 (by decide) (wc w_1504) mg_42 (x := f 42) rfl dX11_goes_6 ?_
  refine m_Vi C hw (ctX11_isWall l D o h cI cZ f g (f 41) (f 42) hh) (cwV 2 C.2.2.2.2 (gd_V w_1819 w_1821 w_81 w_125 w_1822) rfl rfl rfl cdX11_isWall ⟨Nat.le_of_ble_eq_true rfl, Nat.le_of_ble_eq_true rfl⟩) rfl hl.1 (Nat.le_of_ble_eq_true rfl) dX11_goes_9 ⟨Nat.zero_le _, Nat.zero_le _⟩ (fun r9 u9 H locs hh hw => ?_) rfl
  refine lv_if_eq (tgt := 16) C.1 C.2.1 dX11_goes_12 (by decide) (fun c12 => ?_) (fun c12 => ?_)
  · replace hh := hh.1 c12
    refine lv_aload_n C.1 C.2.1 dX11_goes_16 rfl (lv_at hl 0 rfl) ?_
    refine lv_aload_n C.1 C.2.1 dX11_goes_17 rfl (lv_at hl 0 rfl) ?_
    refine lv_aload_n C.1 C.2.1 dX11_goes_18 rfl (lv_at hl 0 rfl) ?_
    refine m_gi C hw (inC inW11) 41 (by decide) (wc w_1503) mg_41 (x := u9.1 41) rfl dX11_goes_19 ?_
    refine lv_aload_n C.1 C.2.1 dX11_goes_22 rfl (lv_at hl 0 rfl) ?_
    refine m_gi C hw (inC inW11) 42 (by decide) (wc w_1504) mg_42 (x := u9.1 42) rfl dX11_goes_23 ?_
    refine m_Vi C hw (ctX11_ahead l D o h cI cZ u9.1 u9.2 (u9.1 41) (u9.1 42) hh) (cwV 2 C.2.2.2.2 (gd_V w_1830 w_1832 w_83 w_125 w_1833) rfl rfl rfl cdX11_ahead ⟨Nat.le_of_ble_eq_true rfl, Nat.le_of_ble_eq_true rfl⟩) rfl hl.1 (Nat.le_of_ble_eq_true rfl) dX11_goes_26 ⟨Nat.zero_le _, Nat.zero_le _⟩ (fun r26 u26 H locs hh hw => ?_) rfl
    refine m_pi C hw (inC inW11) 41 (by decide) (wc w_1503) rfl (ty := .int) (by decide +kernel) rfl rfl (Nat.le_of_ble_eq_true rfl) ms_41 dX11_goes_29 (fun H locs hw => ?_)
    refine lv_aload_n C.1 C.2.1 dX11_goes_32 rfl (lv_at hl 0 rfl) ?_
    refine lv_dup C.1 C.2.1 dX11_goes_33 rfl ?_
    refine m_gi C hw (inC inW11) 53 (by decide) (wc w_1515) mg_53 (x := u26.1 53) rfl dX11_goes_34 ?_
    refine lv_iconst (v := (1 : Int32)) C.1 C.2.1 dX11_goes_37 (by decide) ?_
    refine lv_iadd C.1 C.2.1 dX11_goes_38 ?_
    refine m_pi C hw (inC inW11) 53 (by decide) (wc w_1515) rfl (ty := .int) (by decide +kernel) rfl rfl (Nat.le_of_ble_eq_true rfl) ms_53 dX11_goes_39 (fun H locs hw => ?_)
    exact hR _ _ (upd (upd u26.1 41 r26) 53 ((u26.1 53) + (1 : Int32)), u26.2) _ _ dX11_goes_42 hh hw
  · replace hh := hh.2 c12
    exact hR _ _ (u9.1, u9.2) _ _ dX11_goes_15 hh hw
theorem ctX11_goes (l : Launch) (D : va_G) (o : Nat) (h : Nat → Nat) (cI cZ : ClassId) (f : Nat → Int32) (g : Nat → Nat → Int32) {K : ((Nat → Int32) × (Nat → Nat → Int32)) → Prop} (hh : wpX11_goes f g K) : Cv l yX11_goes wsX11_goes rmX11_goes [.ref o] D (mT cI cZ) (mWu o h cI cZ) (f, g) K := by
  refine Cv_of (cc := cX11_goes) (maxL := 1) (by decide) rfl (Nat.le_of_ble_eq_true rfl) ?_
  intro p e s m below meth c A Q C hw hR ls hl
  exact tX11_goes_b0 C hR hh hw hl
theorem cdX11_goes : yX11_goes.cls = RX11 ∧ yX11_goes.cls ≠ "java/lang/invoke/MethodHandle" ∧ yX11_goes.cls ≠ "java/lang/invoke/VarHandle" ∧ (parseMethodDescriptor yX11_goes.desc).map (fun d => d.parameters.length) = some 0 := by decide +kernel
abbrev rmX11_holds : Room := { frames := 2, cells := 0, slots := 0, locals := 43 }
set_option maxHeartbeats 4000000 in
set_option maxRecDepth 100000 in
theorem tX11_holds_b179 {K : Int32 → ((Nat → Int32) × (Nat → Nat → Int32)) → Prop} (C : CallFix p m c cX11_holds 3 s args wsX11_holds RX11) (hR : Rti .boolean p l e rmX11_holds s m args below meth c cX11_holds D A (mT cI cZ) (mWu o h cI cZ) K Q) {f : Nat → Int32} {g : Nat → Nat → Int32} {k0 : Int32} (hh : wpX11_holds_b179 f g k0 K) {H : Heap} {locs : List Loc} {ls : Array Slot} (hw : Wd D A s (mT cI cZ) (mW o h cI cZ f g) H locs) (hl : lv_has ls 3 [(0, .ref o)]) : W p l e rmX11_holds s m args below meth c H locs 0 0 Q (F0 m 179 ls [.int k0]) := by
  unfold wpX11_holds_b179 at hh
  obtain ⟨hb179, hh⟩ := hh
  exact hR _ _ _ (f, g) _ _ dX11_holds_179 (isB_nar hb179) hh hw
set_option maxHeartbeats 4000000 in
set_option maxRecDepth 100000 in
theorem tX11_holds_b164 {K : Int32 → ((Nat → Int32) × (Nat → Nat → Int32)) → Prop} (C : CallFix p m c cX11_holds 3 s args wsX11_holds RX11) (hR : Rti .boolean p l e rmX11_holds s m args below meth c cX11_holds D A (mT cI cZ) (mWu o h cI cZ) K Q) {f : Nat → Int32} {g : Nat → Nat → Int32} {x1 : Int32} {x2 : Int32} (hh : wpX11_holds_b164 f g x1 x2 K) {H : Heap} {locs : List Loc} {ls : Array Slot} (hw : Wd D A s (mT cI cZ) (mW o h cI cZ f g) H locs) (hl : lv_has ls 3 [(0, .ref o), (1, .int x1), (2, .int x2)]) : W p l e rmX11_holds s m args below meth c H locs 0 0 Q (F0 m 164 ls []) := by
  unfold wpX11_holds_b164 at hh
  refine lv_iload_n C.1 C.2.1 dX11_holds_164 rfl (lv_at hl 2 rfl) ?_
  refine lv_aload_n C.1 C.2.1 dX11_holds_165 rfl (lv_at hl 0 rfl) ?_
  refine m_ga C hw (inC inW11) 17 (by decide) (wc w_1479) mg_17 dX11_holds_166 ?_
  refine lv_iload_n C.1 C.2.1 dX11_holds_169 rfl (lv_at hl 1 rfl) ?_
  obtain ⟨hi170, hh⟩ := hh
  refine m_zal C hw mp_17 (x := g 17 (ix x1)) hi170 rfl dX11_holds_170 ?_
  refine lv_icmp_eq (tgt := 178) C.1 C.2.1 dX11_holds_171 (by decide) (fun c171 => ?_) (fun c171 => ?_)
  · replace hh := hh.1 c171
    refine lv_iconst (v := (0 : Int32)) C.1 C.2.1 dX11_holds_178 (by decide) ?_
    exact tX11_holds_b179 C hR hh hw (lv_sub hl [0] rfl)
  · replace hh := hh.2 c171
    refine lv_iconst (v := (1 : Int32)) C.1 C.2.1 dX11_holds_174 (by decide) ?_
    refine lv_goto (tgt := 179) C.1 C.2.1 dX11_holds_175 (by decide) ?_
    exact tX11_holds_b179 C hR hh hw (lv_sub hl [0] rfl)
set_option maxHeartbeats 4000000 in
set_option maxRecDepth 100000 in
theorem tX11_holds_b72 {K : Int32 → ((Nat → Int32) × (Nat → Nat → Int32)) → Prop} (C : CallFix p m c cX11_holds 3 s args wsX11_holds RX11) (hR : Rti .boolean p l e rmX11_holds s m args below meth c cX11_holds D A (mT cI cZ) (mWu o h cI cZ) K Q) {f : Nat → Int32} {g : Nat → Nat → Int32} {k0 : Int32} {x1 : Int32} (hh : wpX11_holds_b72 f g k0 x1 K) {H : Heap} {locs : List Loc} {ls : Array Slot} (hw : Wd D A s (mT cI cZ) (mW o h cI cZ f g) H locs) (hl : lv_has ls 3 [(0, .ref o), (1, .int x1)]) : W p l e rmX11_holds s m args below meth c H locs 0 0 Q (F0 m 72 ls [.int k0]) := by
  unfold wpX11_holds_b72 at hh
  refine lv_istore_n (lv' := [(2, .int k0), (0, .ref o), (1, .int x1)]) C.1 C.2.1 dX11_holds_72 rfl hl (by decide) rfl (fun ls hl => ?_)
  refine lv_goto (tgt := 164) C.1 C.2.1 dX11_holds_73 (by decide) ?_
  exact tX11_holds_b164 C hR hh hw (lv_sub hl [1, 2, 0] rfl)
set_option maxHeartbeats 4000000 in
set_option maxRecDepth 100000 in
theorem tX11_holds_b97 {K : Int32 → ((Nat → Int32) × (Nat → Nat → Int32)) → Prop} (C : CallFix p m c cX11_holds 3 s args wsX11_holds RX11) (hR : Rti .boolean p l e rmX11_holds s m args below meth c cX11_holds D A (mT cI cZ) (mWu o h cI cZ) K Q) {f : Nat → Int32} {g : Nat → Nat → Int32} {k0 : Int32} {x1 : Int32} (hh : wpX11_holds_b97 f g k0 x1 K) {H : Heap} {locs : List Loc} {ls : Array Slot} (hw : Wd D A s (mT cI cZ) (mW o h cI cZ f g) H locs) (hl : lv_has ls 3 [(0, .ref o), (1, .int x1)]) : W p l e rmX11_holds s m args below meth c H locs 0 0 Q (F0 m 97 ls [.int k0]) := by
  unfold wpX11_holds_b97 at hh
  refine lv_istore_n (lv' := [(2, .int k0), (0, .ref o), (1, .int x1)]) C.1 C.2.1 dX11_holds_97 rfl hl (by decide) rfl (fun ls hl => ?_)
  refine lv_goto (tgt := 164) C.1 C.2.1 dX11_holds_98 (by decide) ?_
  exact tX11_holds_b164 C hR hh hw (lv_sub hl [1, 2, 0] rfl)
set_option maxHeartbeats 4000000 in
set_option maxRecDepth 100000 in
theorem tX11_holds_b119 {K : Int32 → ((Nat → Int32) × (Nat → Nat → Int32)) → Prop} (C : CallFix p m c cX11_holds 3 s args wsX11_holds RX11) (hR : Rti .boolean p l e rmX11_holds s m args below meth c cX11_holds D A (mT cI cZ) (mWu o h cI cZ) K Q) {f : Nat → Int32} {g : Nat → Nat → Int32} {k0 : Int32} {x1 : Int32} (hh : wpX11_holds_b119 f g k0 x1 K) {H : Heap} {locs : List Loc} {ls : Array Slot} (hw : Wd D A s (mT cI cZ) (mW o h cI cZ f g) H locs) (hl : lv_has ls 3 [(0, .ref o), (1, .int x1)]) : W p l e rmX11_holds s m args below meth c H locs 0 0 Q (F0 m 119 ls [.int k0]) := by
  unfold wpX11_holds_b119 at hh
  refine lv_istore_n (lv' := [(2, .int k0), (0, .ref o), (1, .int x1)]) C.1 C.2.1 dX11_holds_119 rfl hl (by decide) rfl (fun ls hl => ?_)
  refine lv_goto (tgt := 164) C.1 C.2.1 dX11_holds_120 (by decide) ?_
  exact tX11_holds_b164 C hR hh hw (lv_sub hl [1, 2, 0] rfl)
set_option maxHeartbeats 4000000 in
set_option maxRecDepth 100000 in
theorem tX11_holds_b141 {K : Int32 → ((Nat → Int32) × (Nat → Nat → Int32)) → Prop} (C : CallFix p m c cX11_holds 3 s args wsX11_holds RX11) (hR : Rti .boolean p l e rmX11_holds s m args below meth c cX11_holds D A (mT cI cZ) (mWu o h cI cZ) K Q) {f : Nat → Int32} {g : Nat → Nat → Int32} {k0 : Int32} {x1 : Int32} (hh : wpX11_holds_b141 f g k0 x1 K) {H : Heap} {locs : List Loc} {ls : Array Slot} (hw : Wd D A s (mT cI cZ) (mW o h cI cZ f g) H locs) (hl : lv_has ls 3 [(0, .ref o), (1, .int x1)]) : W p l e rmX11_holds s m args below meth c H locs 0 0 Q (F0 m 141 ls [.int k0]) := by
  unfold wpX11_holds_b141 at hh
  refine lv_istore_n (lv' := [(2, .int k0), (0, .ref o), (1, .int x1)]) C.1 C.2.1 dX11_holds_141 rfl hl (by decide) rfl (fun ls hl => ?_)
  refine lv_goto (tgt := 164) C.1 C.2.1 dX11_holds_142 (by decide) ?_
  exact tX11_holds_b164 C hR hh hw (lv_sub hl [1, 2, 0] rfl)
set_option maxHeartbeats 4000000 in
set_option maxRecDepth 100000 in
theorem tX11_holds_b0 {K : Int32 → ((Nat → Int32) × (Nat → Nat → Int32)) → Prop} (C : CallFix p m c cX11_holds 3 s args wsX11_holds RX11) (hR : Rti .boolean p l e rmX11_holds s m args below meth c cX11_holds D A (mT cI cZ) (mWu o h cI cZ) K Q) {f : Nat → Int32} {g : Nat → Nat → Int32} {x1 : Int32} (hh : wpX11_holds_b0 f g x1 K) {H : Heap} {locs : List Loc} {ls : Array Slot} (hw : Wd D A s (mT cI cZ) (mW o h cI cZ f g) H locs) (hl : lv_has ls 3 [(0, .ref o), (1, .int x1)]) : W p l e rmX11_holds s m args below meth c H locs 0 0 Q (F0 m 0 ls []) := by
  unfold wpX11_holds_b0 at hh
  refine lv_aload_n C.1 C.2.1 dX11_holds_0 rfl (lv_at hl 0 rfl) ?_
  refine m_ga C hw (inC inW11) 15 (by decide) (wc w_1477) mg_15 dX11_holds_1 ?_
  refine lv_iload_n C.1 C.2.1 dX11_holds_4 rfl (lv_at hl 1 rfl) ?_
  obtain ⟨hi5, hh⟩ := hh
  refine m_ial C hw mp_15 (x := g 15 (ix x1)) hi5 rfl dX11_holds_5 ?_
  refine sw_in (x := g 15 (ix x1)) (lo := 3) (hi := 7) (fun hlo hhi => ?_) (fun ho => ?_)
  · have hv : (g 15 (ix x1)).toInt = 3 ∨ (g 15 (ix x1)).toInt = 4 ∨ (g 15 (ix x1)).toInt = 5 ∨ (g 15 (ix x1)).toInt = 6 ∨ (g 15 (ix x1)).toInt = 7 := by omega
    rcases hv with hv | hv | hv | hv | hv
    · replace hh := hh.1 (sw_eq hv (by decide))
      refine lv_tableIn (off := 34) (tgt := 40) C.1 C.2.1 dX11_holds_6 hlo hhi (by rw [hv]; rfl) (by decide) ?_
      refine lv_aload_n C.1 C.2.1 dX11_holds_40 rfl (lv_at hl 0 rfl) ?_
      refine lv_aload_n C.1 C.2.1 dX11_holds_41 rfl (lv_at hl 0 rfl) ?_
      refine m_gi C hw (inC inW11) 41 (by decide) (wc w_1503) mg_41 (x := f 41) rfl dX11_holds_42 ?_
      refine lv_aload_n C.1 C.2.1 dX11_holds_45 rfl (lv_at hl 0 rfl) ?_
      refine m_gi C hw (inC inW11) 42 (by decide) (wc w_1504) mg_42 (x := f 42) rfl dX11_holds_46 ?_
      refine m_Vi C hw (ctX11_isWall l D o h cI cZ f g (f 41) (f 42) hh) (cwV 2 C.2.2.2.2 (gd_V w_1819 w_1821 w_81 w_125 w_1822) rfl rfl rfl cdX11_isWall ⟨Nat.le_of_ble_eq_true rfl, Nat.le_of_ble_eq_true rfl⟩) rfl hl.1 (Nat.le_of_ble_eq_true rfl) dX11_holds_49 ⟨Nat.zero_le _, Nat.zero_le _⟩ (fun r49 u49 H locs hh hw => ?_) rfl
      refine lv_istore_n (lv' := [(2, .int r49), (0, .ref o), (1, .int x1)]) C.1 C.2.1 dX11_holds_52 rfl hl (by decide) rfl (fun ls hl => ?_)
      refine lv_goto (tgt := 164) C.1 C.2.1 dX11_holds_53 (by decide) ?_
      exact tX11_holds_b164 C hR hh hw (lv_sub hl [1, 2, 0] rfl)
    · replace hh := hh.2.1 (sw_eq hv (by decide))
      refine lv_tableIn (off := 50) (tgt := 56) C.1 C.2.1 dX11_holds_6 hlo hhi (by rw [hv]; rfl) (by decide) ?_
      refine lv_aload_n C.1 C.2.1 dX11_holds_56 rfl (lv_at hl 0 rfl) ?_
      refine m_gi C hw (inC inW11) 41 (by decide) (wc w_1503) mg_41 (x := f 41) rfl dX11_holds_57 ?_
      refine lv_aload_n C.1 C.2.1 dX11_holds_60 rfl (lv_at hl 0 rfl) ?_
      refine m_gi C hw (inC inW11) 40 (by decide) (wc w_1502) mg_40 (x := f 40) rfl dX11_holds_61 ?_
      refine lv_icmp_ne (tgt := 71) C.1 C.2.1 dX11_holds_64 (by decide) (fun c64 => ?_) (fun c64 => ?_)
      · replace hh := hh.1 c64
        refine lv_iconst (v := (0 : Int32)) C.1 C.2.1 dX11_holds_71 (by decide) ?_
        exact tX11_holds_b72 C hR hh hw hl
      · replace hh := hh.2 c64
        refine lv_iconst (v := (1 : Int32)) C.1 C.2.1 dX11_holds_67 (by decide) ?_
        refine lv_goto (tgt := 72) C.1 C.2.1 dX11_holds_68 (by decide) ?_
        exact tX11_holds_b72 C hR hh hw hl
    · replace hh := hh.2.2.1 (sw_eq hv (by decide))
      refine lv_tableIn (off := 70) (tgt := 76) C.1 C.2.1 dX11_holds_6 hlo hhi (by rw [hv]; rfl) (by decide) ?_
      refine lv_aload_n C.1 C.2.1 dX11_holds_76 rfl (lv_at hl 0 rfl) ?_
      refine m_gi C hw (inC inW11) 42 (by decide) (wc w_1504) mg_42 (x := f 42) rfl dX11_holds_77 ?_
      refine lv_aload_n C.1 C.2.1 dX11_holds_80 rfl (lv_at hl 0 rfl) ?_
      refine m_ga C hw (inC inW11) 47 (by decide) (wc w_1509) mg_47 dX11_holds_81 ?_
      refine lv_aload_n C.1 C.2.1 dX11_holds_84 rfl (lv_at hl 0 rfl) ?_
      refine m_gi C hw (inC inW11) 41 (by decide) (wc w_1503) mg_41 (x := f 41) rfl dX11_holds_85 ?_
      obtain ⟨hi88, hh⟩ := hh
      refine m_ial C hw mp_47 (x := g 47 (ix (f 41))) hi88 rfl dX11_holds_88 ?_
      refine lv_icmp_ne (tgt := 96) C.1 C.2.1 dX11_holds_89 (by decide) (fun c89 => ?_) (fun c89 => ?_)
      · replace hh := hh.1 c89
        refine lv_iconst (v := (0 : Int32)) C.1 C.2.1 dX11_holds_96 (by decide) ?_
        exact tX11_holds_b97 C hR hh hw hl
      · replace hh := hh.2 c89
        refine lv_iconst (v := (1 : Int32)) C.1 C.2.1 dX11_holds_92 (by decide) ?_
        refine lv_goto (tgt := 97) C.1 C.2.1 dX11_holds_93 (by decide) ?_
        exact tX11_holds_b97 C hR hh hw hl
    · replace hh := hh.2.2.2.1 (sw_eq hv (by decide))
      refine lv_tableIn (off := 95) (tgt := 101) C.1 C.2.1 dX11_holds_6 hlo hhi (by rw [hv]; rfl) (by decide) ?_
      refine lv_aload_n C.1 C.2.1 dX11_holds_101 rfl (lv_at hl 0 rfl) ?_
      refine m_gi C hw (inC inW11) 43 (by decide) (wc w_1505) mg_43 (x := f 43) rfl dX11_holds_102 ?_
      refine lv_aload_n C.1 C.2.1 dX11_holds_105 rfl (lv_at hl 0 rfl) ?_
      refine m_ga C hw (inC inW11) 16 (by decide) (wc w_1478) mg_16 dX11_holds_106 ?_
      refine lv_iload_n C.1 C.2.1 dX11_holds_109 rfl (lv_at hl 1 rfl) ?_
      obtain ⟨hi110, hh⟩ := hh
      refine m_ial C hw mp_16 (x := g 16 (ix x1)) hi110 rfl dX11_holds_110 ?_
      refine lv_icmp_ne (tgt := 118) C.1 C.2.1 dX11_holds_111 (by decide) (fun c111 => ?_) (fun c111 => ?_)
      · replace hh := hh.1 c111
        refine lv_iconst (v := (0 : Int32)) C.1 C.2.1 dX11_holds_118 (by decide) ?_
        exact tX11_holds_b119 C hR hh hw hl
      · replace hh := hh.2 c111
        refine lv_iconst (v := (1 : Int32)) C.1 C.2.1 dX11_holds_114 (by decide) ?_
        refine lv_goto (tgt := 119) C.1 C.2.1 dX11_holds_115 (by decide) ?_
        exact tX11_holds_b119 C hR hh hw hl
    · replace hh := hh.2.2.2.2.1 (sw_eq hv (by decide))
      refine lv_tableIn (off := 117) (tgt := 123) C.1 C.2.1 dX11_holds_6 hlo hhi (by rw [hv]; rfl) (by decide) ?_
      refine lv_aload_n C.1 C.2.1 dX11_holds_123 rfl (lv_at hl 0 rfl) ?_
      refine m_gi C hw (inC inW11) 44 (by decide) (wc w_1506) mg_44 (x := f 44) rfl dX11_holds_124 ?_
      refine lv_aload_n C.1 C.2.1 dX11_holds_127 rfl (lv_at hl 0 rfl) ?_
      refine m_ga C hw (inC inW11) 16 (by decide) (wc w_1478) mg_16 dX11_holds_128 ?_
      refine lv_iload_n C.1 C.2.1 dX11_holds_131 rfl (lv_at hl 1 rfl) ?_
      obtain ⟨hi132, hh⟩ := hh
      refine m_ial C hw mp_16 (x := g 16 (ix x1)) hi132 rfl dX11_holds_132 ?_
      refine lv_icmp_lt (tgt := 140) C.1 C.2.1 dX11_holds_133 (by decide) (fun c133 => ?_) (fun c133 => ?_)
      · replace hh := hh.1 c133
        refine lv_iconst (v := (0 : Int32)) C.1 C.2.1 dX11_holds_140 (by decide) ?_
        exact tX11_holds_b141 C hR hh hw hl
      · replace hh := hh.2 c133
        refine lv_iconst (v := (1 : Int32)) C.1 C.2.1 dX11_holds_136 (by decide) ?_
        refine lv_goto (tgt := 141) C.1 C.2.1 dX11_holds_137 (by decide) ?_
        exact tX11_holds_b141 C hR hh hw hl
  · replace hh := hh.2.2.2.2.2 ho
    refine lv_tableOut (tgt := 145) C.1 C.2.1 dX11_holds_6 ho (by decide) ?_
    refine lv_aload_n C.1 C.2.1 dX11_holds_145 rfl (lv_at hl 0 rfl) ?_
    refine m_ga C hw (inC inW11) 48 (by decide) (wc w_1510) mg_48 dX11_holds_146 ?_
    refine lv_aload_n C.1 C.2.1 dX11_holds_149 rfl (lv_at hl 0 rfl) ?_
    refine m_gi C hw (inC inW11) 41 (by decide) (wc w_1503) mg_41 (x := f 41) rfl dX11_holds_150 ?_
    obtain ⟨hi153, hh⟩ := hh
    refine m_ial C hw mp_48 (x := g 48 (ix (f 41))) hi153 rfl dX11_holds_153 ?_
    refine lv_aload_n C.1 C.2.1 dX11_holds_154 rfl (lv_at hl 0 rfl) ?_
    refine m_ga C hw (inC inW11) 16 (by decide) (wc w_1478) mg_16 dX11_holds_155 ?_
    refine lv_iload_n C.1 C.2.1 dX11_holds_158 rfl (lv_at hl 1 rfl) ?_
    obtain ⟨hi159, hh⟩ := hh
    refine m_ial C hw mp_16 (x := g 16 (ix x1)) hi159 rfl dX11_holds_159 ?_
    refine wd_Si C hw (ctX11_isOf l D (g 48 (ix (f 41))) (g 16 (ix x1)) hh) (va_cwS 2 C.2.2.2.2 (gd_S w_1823 w_1824 (ini_cls rfl w_125) w_1825) rfl rfl rfl cdX11_isOf ⟨Nat.le_of_ble_eq_true rfl, Nat.le_of_ble_eq_true rfl⟩) rfl hl.1 (Nat.le_of_ble_eq_true rfl) dX11_holds_160 ⟨Nat.zero_le _, Nat.zero_le _⟩ (fun r160 H locs hh hw => ?_) rfl
    refine lv_istore_n (lv' := [(2, .int r160), (0, .ref o), (1, .int x1)]) C.1 C.2.1 dX11_holds_163 rfl hl (by decide) rfl (fun ls hl => ?_)
    exact tX11_holds_b164 C hR hh hw (lv_sub hl [1, 2, 0] rfl)
theorem ctX11_holds (l : Launch) (D : va_G) (o : Nat) (h : Nat → Nat) (cI cZ : ClassId) (f : Nat → Int32) (g : Nat → Nat → Int32) (x1 : Int32) {K : Int32 → ((Nat → Int32) × (Nat → Nat → Int32)) → Prop} (hh : wpX11_holds f g x1 K) : Ci l yX11_holds wsX11_holds rmX11_holds [.ref o, .int x1] D (mT cI cZ) (mWu o h cI cZ) (f, g) K := by
  refine Ci_of (cc := cX11_holds) (maxL := 3) (by decide) rfl (Nat.le_of_ble_eq_true rfl) ?_
  intro p e s m below meth c A Q C hw hR ls hl
  exact tX11_holds_b0 C hR hh hw hl
theorem cdX11_holds : yX11_holds.cls = RX11 ∧ yX11_holds.cls ≠ "java/lang/invoke/MethodHandle" ∧ yX11_holds.cls ≠ "java/lang/invoke/VarHandle" ∧ (parseMethodDescriptor yX11_holds.desc).map (fun d => d.parameters.length) = some 1 := by decide +kernel
abbrev rmX11_does : Room := { frames := 3, cells := 0, slots := 0, locals := 63 }
set_option maxHeartbeats 4000000 in
set_option maxRecDepth 100000 in
theorem tX11_does_b272 {K : ((Nat → Int32) × (Nat → Nat → Int32)) → Prop} (C : CallFix p m c cX11_does 2 s args wsX11_does RX11) (hR : Rtv p l e rmX11_does s m args below meth c cX11_does D A (mT cI cZ) (mWu o h cI cZ) K Q) {f : Nat → Int32} {g : Nat → Nat → Int32} (hh : wpX11_does_b272 f g K) {H : Heap} {locs : List Loc} {ls : Array Slot} (hw : Wd D A s (mT cI cZ) (mW o h cI cZ f g) H locs) (hl : lv_has ls 2 [(0, .ref o)]) : W p l e rmX11_does s m args below meth c H locs 0 0 Q (F0 m 272 ls []) := by
  unfold wpX11_does_b272 at hh
  exact hR _ _ (f, g) _ _ dX11_does_272 hh hw
set_option maxHeartbeats 4000000 in
set_option maxRecDepth 100000 in
theorem tX11_does_b191 {K : ((Nat → Int32) × (Nat → Nat → Int32)) → Prop} (C : CallFix p m c cX11_does 2 s args wsX11_does RX11) (hR : Rtv p l e rmX11_does s m args below meth c cX11_does D A (mT cI cZ) (mWu o h cI cZ) K Q) {f : Nat → Int32} {g : Nat → Nat → Int32} {k1 : Int32} {k2 : Int32} {k3 : Int32} (hh : wpX11_does_b191 f g k1 k2 k3 K) {H : Heap} {locs : List Loc} {ls : Array Slot} (hw : Wd D A s (mT cI cZ) (mW o h cI cZ f g) H locs) (hl : lv_has ls 2 [(0, .ref o)]) : W p l e rmX11_does s m args below meth c H locs 0 0 Q (F0 m 191 ls [.int k3, .int k2, .int k1, .ref (h 48)]) := by
  unfold wpX11_does_b191 at hh
  refine lv_ior C.1 C.2.1 dX11_does_191 ?_
  obtain ⟨hi192, hh⟩ := hh
  refine m_ias C hw mp_48 mq_48 hi192 dX11_does_192 (fun H locs hw => ?_)
  refine lv_goto (tgt := 272) C.1 C.2.1 dX11_does_193 (by decide) ?_
  exact tX11_does_b272 C hR hh hw hl
set_option maxHeartbeats 4000000 in
set_option maxRecDepth 100000 in
theorem tX11_does_b253 {K : ((Nat → Int32) × (Nat → Nat → Int32)) → Prop} (C : CallFix p m c cX11_does 2 s args wsX11_does RX11) (hR : Rtv p l e rmX11_does s m args below meth c cX11_does D A (mT cI cZ) (mWu o h cI cZ) K Q) {f : Nat → Int32} {g : Nat → Nat → Int32} {k1 : Int32} {k2 : Int32} (hh : wpX11_does_b253 f g k1 k2 K) {H : Heap} {locs : List Loc} {ls : Array Slot} (hw : Wd D A s (mT cI cZ) (mW o h cI cZ f g) H locs) (hl : lv_has ls 2 [(0, .ref o)]) : W p l e rmX11_does s m args below meth c H locs 0 0 Q (F0 m 253 ls [.int k2, .int k1, .ref o]) := by
  unfold wpX11_does_b253 at hh
  refine lv_iadd C.1 C.2.1 dX11_does_253 ?_
  refine m_pi C hw (inC inW11) 44 (by decide) (wc w_1506) rfl (ty := .int) (by decide +kernel) rfl rfl (Nat.le_of_ble_eq_true rfl) ms_44 dX11_does_254 (fun H locs hw => ?_)
  refine lv_goto (tgt := 272) C.1 C.2.1 dX11_does_257 (by decide) ?_
  exact tX11_does_b272 C hR hh hw hl
set_option maxHeartbeats 4000000 in
set_option maxRecDepth 100000 in
theorem tX11_does_b0 {K : ((Nat → Int32) × (Nat → Nat → Int32)) → Prop} (C : CallFix p m c cX11_does 2 s args wsX11_does RX11) (hR : Rtv p l e rmX11_does s m args below meth c cX11_does D A (mT cI cZ) (mWu o h cI cZ) K Q) {f : Nat → Int32} {g : Nat → Nat → Int32} {x1 : Int32} (hh : wpX11_does_b0 f g x1 K) {H : Heap} {locs : List Loc} {ls : Array Slot} (hw : Wd D A s (mT cI cZ) (mW o h cI cZ f g) H locs) (hl : lv_has ls 2 [(0, .ref o), (1, .int x1)]) : W p l e rmX11_does s m args below meth c H locs 0 0 Q (F0 m 0 ls []) := by
  unfold wpX11_does_b0 at hh
  refine lv_aload_n C.1 C.2.1 dX11_does_0 rfl (lv_at hl 0 rfl) ?_
  refine m_ga C hw (inC inW11) 18 (by decide) (wc w_1480) mg_18 dX11_does_1 ?_
  refine lv_iload_n C.1 C.2.1 dX11_does_4 rfl (lv_at hl 1 rfl) ?_
  obtain ⟨hi5, hh⟩ := hh
  refine m_ial C hw mp_18 (x := g 18 (ix x1)) hi5 rfl dX11_does_5 ?_
  refine sw_in (x := g 18 (ix x1)) (lo := 6) (hi := 18) (fun hlo hhi => ?_) (fun ho => ?_)
  · have hv : (g 18 (ix x1)).toInt = 6 ∨ (g 18 (ix x1)).toInt = 7 ∨ (g 18 (ix x1)).toInt = 8 ∨ (g 18 (ix x1)).toInt = 9 ∨ (g 18 (ix x1)).toInt = 10 ∨ (g 18 (ix x1)).toInt = 11 ∨ (g 18 (ix x1)).toInt = 12 ∨ (g 18 (ix x1)).toInt = 13 ∨ (g 18 (ix x1)).toInt = 14 ∨ (g 18 (ix x1)).toInt = 15 ∨ (g 18 (ix x1)).toInt = 16 ∨ (g 18 (ix x1)).toInt = 17 ∨ (g 18 (ix x1)).toInt = 18 := by omega
    rcases hv with hv | hv | hv | hv | hv | hv | hv | hv | hv | hv | hv | hv | hv
    · replace hh := hh.1 (sw_eq hv (by decide))
      refine lv_tableIn (off := 215) (tgt := 221) C.1 C.2.1 dX11_does_6 hlo hhi (by rw [hv]; rfl) (by decide) ?_
      refine lv_aload_n C.1 C.2.1 dX11_does_221 rfl (lv_at hl 0 rfl) ?_
      refine lv_aload_n C.1 C.2.1 dX11_does_222 rfl (lv_at hl 0 rfl) ?_
      refine m_ga C hw (inC inW11) 19 (by decide) (wc w_1481) mg_19 dX11_does_223 ?_
      refine lv_iload_n C.1 C.2.1 dX11_does_226 rfl (lv_at hl 1 rfl) ?_
      obtain ⟨hi227, hh⟩ := hh
      refine m_ial C hw mp_19 (x := g 19 (ix x1)) hi227 rfl dX11_does_227 ?_
      refine m_pi C hw (inC inW11) 43 (by decide) (wc w_1505) rfl (ty := .int) (by decide +kernel) rfl rfl (Nat.le_of_ble_eq_true rfl) ms_43 dX11_does_228 (fun H locs hw => ?_)
      refine lv_goto (tgt := 272) C.1 C.2.1 dX11_does_231 (by decide) ?_
      exact tX11_does_b272 C hR hh hw (lv_sub hl [0] rfl)
    · replace hh := hh.2.1 (sw_eq hv (by decide))
      refine lv_tableIn (off := 262) (tgt := 268) C.1 C.2.1 dX11_does_6 hlo hhi (by rw [hv]; rfl) (by decide) ?_
      refine lv_aload_n C.1 C.2.1 dX11_does_268 rfl (lv_at hl 0 rfl) ?_
      refine m_Vv C hw (ctX11_wipes l D o h cI cZ f g  hh) (cwV 0 C.2.2.2.2 (gd_V w_1846 w_1848 w_84 w_125 w_1849) rfl rfl rfl cdX11_wipes ⟨Nat.le_of_ble_eq_true rfl, Nat.le_of_ble_eq_true rfl⟩) rfl hl.1 (Nat.le_of_ble_eq_true rfl) dX11_does_269 ⟨Nat.zero_le _, Nat.zero_le _⟩ (fun u269 H locs hh hw => ?_) rfl
      exact tX11_does_b272 C hR hh hw (lv_sub hl [0] rfl)
    · replace hh := hh.2.2.1 (sw_eq hv (by decide))
      refine lv_tableIn (off := 262) (tgt := 268) C.1 C.2.1 dX11_does_6 hlo hhi (by rw [hv]; rfl) (by decide) ?_
      refine lv_aload_n C.1 C.2.1 dX11_does_268 rfl (lv_at hl 0 rfl) ?_
      refine m_Vv C hw (ctX11_wipes l D o h cI cZ f g  hh) (cwV 0 C.2.2.2.2 (gd_V w_1846 w_1848 w_84 w_125 w_1849) rfl rfl rfl cdX11_wipes ⟨Nat.le_of_ble_eq_true rfl, Nat.le_of_ble_eq_true rfl⟩) rfl hl.1 (Nat.le_of_ble_eq_true rfl) dX11_does_269 ⟨Nat.zero_le _, Nat.zero_le _⟩ (fun u269 H locs hh hw => ?_) rfl
      exact tX11_does_b272 C hR hh hw (lv_sub hl [0] rfl)
    · replace hh := hh.2.2.2.1 (sw_eq hv (by decide))
      refine lv_tableIn (off := 66) (tgt := 72) C.1 C.2.1 dX11_does_6 hlo hhi (by rw [hv]; rfl) (by decide) ?_
      refine lv_aload_n C.1 C.2.1 dX11_does_72 rfl (lv_at hl 0 rfl) ?_
      refine lv_aload_n C.1 C.2.1 dX11_does_73 rfl (lv_at hl 0 rfl) ?_
      refine m_gi C hw (inC inW11) 42 (by decide) (wc w_1504) mg_42 (x := f 42) rfl dX11_does_74 ?_
      refine lv_iconst (v := (1 : Int32)) C.1 C.2.1 dX11_does_77 (by decide) ?_
      refine lv_iadd C.1 C.2.1 dX11_does_78 ?_
      refine lv_iconst (v := (4 : Int32)) C.1 C.2.1 dX11_does_79 (by decide) ?_
      refine g_irem C dX11_does_80 (by decide) ?_
      refine m_pi C hw (inC inW11) 42 (by decide) (wc w_1504) rfl (ty := .int) (by decide +kernel) rfl rfl (Nat.le_of_ble_eq_true rfl) ms_42 dX11_does_81 (fun H locs hw => ?_)
      refine lv_goto (tgt := 272) C.1 C.2.1 dX11_does_84 (by decide) ?_
      exact tX11_does_b272 C hR hh hw (lv_sub hl [0] rfl)
    · replace hh := hh.2.2.2.2.1 (sw_eq hv (by decide))
      refine lv_tableIn (off := 81) (tgt := 87) C.1 C.2.1 dX11_does_6 hlo hhi (by rw [hv]; rfl) (by decide) ?_
      refine lv_aload_n C.1 C.2.1 dX11_does_87 rfl (lv_at hl 0 rfl) ?_
      refine lv_aload_n C.1 C.2.1 dX11_does_88 rfl (lv_at hl 0 rfl) ?_
      refine m_gi C hw (inC inW11) 42 (by decide) (wc w_1504) mg_42 (x := f 42) rfl dX11_does_89 ?_
      refine lv_iconst (v := (3 : Int32)) C.1 C.2.1 dX11_does_92 (by decide) ?_
      refine lv_iadd C.1 C.2.1 dX11_does_93 ?_
      refine lv_iconst (v := (4 : Int32)) C.1 C.2.1 dX11_does_94 (by decide) ?_
      refine g_irem C dX11_does_95 (by decide) ?_
      refine m_pi C hw (inC inW11) 42 (by decide) (wc w_1504) rfl (ty := .int) (by decide +kernel) rfl rfl (Nat.le_of_ble_eq_true rfl) ms_42 dX11_does_96 (fun H locs hw => ?_)
      refine lv_goto (tgt := 272) C.1 C.2.1 dX11_does_99 (by decide) ?_
      exact tX11_does_b272 C hR hh hw (lv_sub hl [0] rfl)
    · replace hh := hh.2.2.2.2.2.1 (sw_eq hv (by decide))
      refine lv_tableIn (off := 96) (tgt := 102) C.1 C.2.1 dX11_does_6 hlo hhi (by rw [hv]; rfl) (by decide) ?_
      refine lv_aload_n C.1 C.2.1 dX11_does_102 rfl (lv_at hl 0 rfl) ?_
      refine lv_aload_n C.1 C.2.1 dX11_does_103 rfl (lv_at hl 0 rfl) ?_
      refine m_gi C hw (inC inW11) 42 (by decide) (wc w_1504) mg_42 (x := f 42) rfl dX11_does_104 ?_
      refine lv_iconst (v := (2 : Int32)) C.1 C.2.1 dX11_does_107 (by decide) ?_
      refine lv_iadd C.1 C.2.1 dX11_does_108 ?_
      refine lv_iconst (v := (4 : Int32)) C.1 C.2.1 dX11_does_109 (by decide) ?_
      refine g_irem C dX11_does_110 (by decide) ?_
      refine m_pi C hw (inC inW11) 42 (by decide) (wc w_1504) rfl (ty := .int) (by decide +kernel) rfl rfl (Nat.le_of_ble_eq_true rfl) ms_42 dX11_does_111 (fun H locs hw => ?_)
      refine lv_goto (tgt := 272) C.1 C.2.1 dX11_does_114 (by decide) ?_
      exact tX11_does_b272 C hR hh hw (lv_sub hl [0] rfl)
    · replace hh := hh.2.2.2.2.2.2.1 (sw_eq hv (by decide))
      refine lv_tableIn (off := 111) (tgt := 117) C.1 C.2.1 dX11_does_6 hlo hhi (by rw [hv]; rfl) (by decide) ?_
      refine lv_aload_n C.1 C.2.1 dX11_does_117 rfl (lv_at hl 0 rfl) ?_
      refine lv_aload_n C.1 C.2.1 dX11_does_118 rfl (lv_at hl 0 rfl) ?_
      refine m_ga C hw (inC inW11) 47 (by decide) (wc w_1509) mg_47 dX11_does_119 ?_
      refine lv_aload_n C.1 C.2.1 dX11_does_122 rfl (lv_at hl 0 rfl) ?_
      refine m_gi C hw (inC inW11) 41 (by decide) (wc w_1503) mg_41 (x := f 41) rfl dX11_does_123 ?_
      obtain ⟨hi126, hh⟩ := hh
      refine m_ial C hw mp_47 (x := g 47 (ix (f 41))) hi126 rfl dX11_does_126 ?_
      refine m_pi C hw (inC inW11) 42 (by decide) (wc w_1504) rfl (ty := .int) (by decide +kernel) rfl rfl (Nat.le_of_ble_eq_true rfl) ms_42 dX11_does_127 (fun H locs hw => ?_)
      refine lv_goto (tgt := 272) C.1 C.2.1 dX11_does_130 (by decide) ?_
      exact tX11_does_b272 C hR hh hw (lv_sub hl [0] rfl)
    · replace hh := hh.2.2.2.2.2.2.2.1 (sw_eq hv (by decide))
      refine lv_tableIn (off := 127) (tgt := 133) C.1 C.2.1 dX11_does_6 hlo hhi (by rw [hv]; rfl) (by decide) ?_
      refine lv_aload_n C.1 C.2.1 dX11_does_133 rfl (lv_at hl 0 rfl) ?_
      refine m_ga C hw (inC inW11) 47 (by decide) (wc w_1509) mg_47 dX11_does_134 ?_
      refine lv_aload_n C.1 C.2.1 dX11_does_137 rfl (lv_at hl 0 rfl) ?_
      refine m_gi C hw (inC inW11) 41 (by decide) (wc w_1503) mg_41 (x := f 41) rfl dX11_does_138 ?_
      refine lv_aload_n C.1 C.2.1 dX11_does_141 rfl (lv_at hl 0 rfl) ?_
      refine m_gi C hw (inC inW11) 42 (by decide) (wc w_1504) mg_42 (x := f 42) rfl dX11_does_142 ?_
      obtain ⟨hi145, hh⟩ := hh
      refine m_ias C hw mp_47 mq_47 hi145 dX11_does_145 (fun H locs hw => ?_)
      refine lv_goto (tgt := 272) C.1 C.2.1 dX11_does_146 (by decide) ?_
      exact tX11_does_b272 C hR hh hw (lv_sub hl [0] rfl)
    · replace hh := hh.2.2.2.2.2.2.2.2.1 (sw_eq hv (by decide))
      refine lv_tableIn (off := 143) (tgt := 149) C.1 C.2.1 dX11_does_6 hlo hhi (by rw [hv]; rfl) (by decide) ?_
      refine lv_aload_n C.1 C.2.1 dX11_does_149 rfl (lv_at hl 0 rfl) ?_
      refine m_Vv C hw (ctX11_goes l D o h cI cZ f g  hh) (cwV 0 C.2.2.2.2 (gd_V w_1866 w_1868 w_88 w_125 w_1869) rfl rfl rfl cdX11_goes ⟨Nat.le_of_ble_eq_true rfl, Nat.le_of_ble_eq_true rfl⟩) rfl hl.1 (Nat.le_of_ble_eq_true rfl) dX11_does_150 ⟨Nat.zero_le _, Nat.zero_le _⟩ (fun u150 H locs hh hw => ?_) rfl
      refine lv_goto (tgt := 272) C.1 C.2.1 dX11_does_153 (by decide) ?_
      exact tX11_does_b272 C hR hh hw (lv_sub hl [0] rfl)
    · replace hh := hh.2.2.2.2.2.2.2.2.2.1 (sw_eq hv (by decide))
      refine lv_tableIn (off := 150) (tgt := 156) C.1 C.2.1 dX11_does_6 hlo hhi (by rw [hv]; rfl) (by decide) ?_
      refine lv_aload_n C.1 C.2.1 dX11_does_156 rfl (lv_at hl 0 rfl) ?_
      refine m_ga C hw (inC inW11) 48 (by decide) (wc w_1510) mg_48 dX11_does_157 ?_
      refine lv_aload_n C.1 C.2.1 dX11_does_160 rfl (lv_at hl 0 rfl) ?_
      refine m_gi C hw (inC inW11) 41 (by decide) (wc w_1503) mg_41 (x := f 41) rfl dX11_does_161 ?_
      refine lv_dup2_11 C.1 C.2.1 dX11_does_164 rfl rfl ?_
      obtain ⟨hi165, hh⟩ := hh
      refine m_ial C hw mp_48 (x := g 48 (ix (f 41))) hi165 rfl dX11_does_165 ?_
      refine lv_aload_n C.1 C.2.1 dX11_does_166 rfl (lv_at hl 0 rfl) ?_
      refine m_ga C hw (inC inW11) 19 (by decide) (wc w_1481) mg_19 dX11_does_167 ?_
      refine lv_iload_n C.1 C.2.1 dX11_does_170 rfl (lv_at hl 1 rfl) ?_
      obtain ⟨hi171, hh⟩ := hh
      refine m_ial C hw mp_19 (x := g 19 (ix x1)) hi171 rfl dX11_does_171 ?_
      refine lv_aload_n C.1 C.2.1 dX11_does_172 rfl (lv_at hl 0 rfl) ?_
      refine m_gi C hw (inC inW11) 52 (by decide) (wc w_1514) mg_52 (x := f 52) rfl dX11_does_173 ?_
      refine lv_icmp_ne (tgt := 183) C.1 C.2.1 dX11_does_176 (by decide) (fun c176 => ?_) (fun c176 => ?_)
      · replace hh := hh.1 c176
        refine lv_iconst (v := (1 : Int32)) C.1 C.2.1 dX11_does_183 (by decide) ?_
        refine lv_aload_n C.1 C.2.1 dX11_does_184 rfl (lv_at hl 0 rfl) ?_
        refine m_ga C hw (inC inW11) 19 (by decide) (wc w_1481) mg_19 dX11_does_185 ?_
        refine lv_iload_n C.1 C.2.1 dX11_does_188 rfl (lv_at hl 1 rfl) ?_
        obtain ⟨hi189, hh⟩ := hh
        refine m_ial C hw mp_19 (x := g 19 (ix x1)) hi189 rfl dX11_does_189 ?_
        refine g_ishl C dX11_does_190 ?_
        exact tX11_does_b191 C hR hh hw (lv_sub hl [0] rfl)
      · replace hh := hh.2 c176
        refine lv_iconst (v := (0 : Int32)) C.1 C.2.1 dX11_does_179 (by decide) ?_
        refine lv_goto (tgt := 191) C.1 C.2.1 dX11_does_180 (by decide) ?_
        exact tX11_does_b191 C hR hh hw (lv_sub hl [0] rfl)
    · replace hh := hh.2.2.2.2.2.2.2.2.2.2.1 (sw_eq hv (by decide))
      refine lv_tableIn (off := 190) (tgt := 196) C.1 C.2.1 dX11_does_6 hlo hhi (by rw [hv]; rfl) (by decide) ?_
      refine lv_aload_n C.1 C.2.1 dX11_does_196 rfl (lv_at hl 0 rfl) ?_
      refine m_ga C hw (inC inW11) 48 (by decide) (wc w_1510) mg_48 dX11_does_197 ?_
      refine lv_aload_n C.1 C.2.1 dX11_does_200 rfl (lv_at hl 0 rfl) ?_
      refine m_gi C hw (inC inW11) 41 (by decide) (wc w_1503) mg_41 (x := f 41) rfl dX11_does_201 ?_
      refine lv_dup2_11 C.1 C.2.1 dX11_does_204 rfl rfl ?_
      obtain ⟨hi205, hh⟩ := hh
      refine m_ial C hw mp_48 (x := g 48 (ix (f 41))) hi205 rfl dX11_does_205 ?_
      refine lv_iconst (v := (1 : Int32)) C.1 C.2.1 dX11_does_206 (by decide) ?_
      refine lv_aload_n C.1 C.2.1 dX11_does_207 rfl (lv_at hl 0 rfl) ?_
      refine m_ga C hw (inC inW11) 19 (by decide) (wc w_1481) mg_19 dX11_does_208 ?_
      refine lv_iload_n C.1 C.2.1 dX11_does_211 rfl (lv_at hl 1 rfl) ?_
      obtain ⟨hi212, hh⟩ := hh
      refine m_ial C hw mp_19 (x := g 19 (ix x1)) hi212 rfl dX11_does_212 ?_
      refine g_ishl C dX11_does_213 ?_
      refine lv_iconst (v := (-1 : Int32)) C.1 C.2.1 dX11_does_214 (by decide) ?_
      refine lv_ixor C.1 C.2.1 dX11_does_215 ?_
      refine lv_iand C.1 C.2.1 dX11_does_216 ?_
      obtain ⟨hi217, hh⟩ := hh
      refine m_ias C hw mp_48 mq_48 hi217 dX11_does_217 (fun H locs hw => ?_)
      refine lv_goto (tgt := 272) C.1 C.2.1 dX11_does_218 (by decide) ?_
      exact tX11_does_b272 C hR hh hw (lv_sub hl [0] rfl)
    · replace hh := hh.2.2.2.2.2.2.2.2.2.2.2.1 (sw_eq hv (by decide))
      refine lv_tableIn (off := 228) (tgt := 234) C.1 C.2.1 dX11_does_6 hlo hhi (by rw [hv]; rfl) (by decide) ?_
      refine lv_aload_n C.1 C.2.1 dX11_does_234 rfl (lv_at hl 0 rfl) ?_
      refine lv_dup C.1 C.2.1 dX11_does_235 rfl ?_
      refine m_gi C hw (inC inW11) 44 (by decide) (wc w_1506) mg_44 (x := f 44) rfl dX11_does_236 ?_
      refine lv_aload_n C.1 C.2.1 dX11_does_239 rfl (lv_at hl 0 rfl) ?_
      refine m_gi C hw (inC inW11) 44 (by decide) (wc w_1506) mg_44 (x := f 44) rfl dX11_does_240 ?_
      refine lv_bipush (v := (99 : Int32)) C.1 C.2.1 dX11_does_243 (by decide) ?_
      refine lv_icmp_ge (tgt := 252) C.1 C.2.1 dX11_does_245 (by decide) (fun c245 => ?_) (fun c245 => ?_)
      · replace hh := hh.1 c245
        refine lv_iconst (v := (0 : Int32)) C.1 C.2.1 dX11_does_252 (by decide) ?_
        exact tX11_does_b253 C hR hh hw (lv_sub hl [0] rfl)
      · replace hh := hh.2 c245
        refine lv_iconst (v := (1 : Int32)) C.1 C.2.1 dX11_does_248 (by decide) ?_
        refine lv_goto (tgt := 253) C.1 C.2.1 dX11_does_249 (by decide) ?_
        exact tX11_does_b253 C hR hh hw (lv_sub hl [0] rfl)
    · replace hh := hh.2.2.2.2.2.2.2.2.2.2.2.2.1 (sw_eq hv (by decide))
      refine lv_tableIn (off := 254) (tgt := 260) C.1 C.2.1 dX11_does_6 hlo hhi (by rw [hv]; rfl) (by decide) ?_
      refine lv_aload_n C.1 C.2.1 dX11_does_260 rfl (lv_at hl 0 rfl) ?_
      refine lv_iconst (v := (0 : Int32)) C.1 C.2.1 dX11_does_261 (by decide) ?_
      refine m_pi C hw (inC inW11) 44 (by decide) (wc w_1506) rfl (ty := .int) (by decide +kernel) rfl rfl (Nat.le_of_ble_eq_true rfl) ms_44 dX11_does_262 (fun H locs hw => ?_)
      refine lv_goto (tgt := 272) C.1 C.2.1 dX11_does_265 (by decide) ?_
      exact tX11_does_b272 C hR hh hw (lv_sub hl [0] rfl)
  · replace hh := hh.2.2.2.2.2.2.2.2.2.2.2.2.2 ho
    refine lv_tableOut (tgt := 268) C.1 C.2.1 dX11_does_6 ho (by decide) ?_
    refine lv_aload_n C.1 C.2.1 dX11_does_268 rfl (lv_at hl 0 rfl) ?_
    refine m_Vv C hw (ctX11_wipes l D o h cI cZ f g  hh) (cwV 0 C.2.2.2.2 (gd_V w_1846 w_1848 w_84 w_125 w_1849) rfl rfl rfl cdX11_wipes ⟨Nat.le_of_ble_eq_true rfl, Nat.le_of_ble_eq_true rfl⟩) rfl hl.1 (Nat.le_of_ble_eq_true rfl) dX11_does_269 ⟨Nat.zero_le _, Nat.zero_le _⟩ (fun u269 H locs hh hw => ?_) rfl
    exact tX11_does_b272 C hR hh hw (lv_sub hl [0] rfl)
theorem ctX11_does (l : Launch) (D : va_G) (o : Nat) (h : Nat → Nat) (cI cZ : ClassId) (f : Nat → Int32) (g : Nat → Nat → Int32) (x1 : Int32) {K : ((Nat → Int32) × (Nat → Nat → Int32)) → Prop} (hh : wpX11_does f g x1 K) : Cv l yX11_does wsX11_does rmX11_does [.ref o, .int x1] D (mT cI cZ) (mWu o h cI cZ) (f, g) K := by
  refine Cv_of (cc := cX11_does) (maxL := 2) (by decide) rfl (Nat.le_of_ble_eq_true rfl) ?_
  intro p e s m below meth c A Q C hw hR ls hl
  exact tX11_does_b0 C hR hh hw hl
theorem cdX11_does : yX11_does.cls = RX11 ∧ yX11_does.cls ≠ "java/lang/invoke/MethodHandle" ∧ yX11_does.cls ≠ "java/lang/invoke/VarHandle" ∧ (parseMethodDescriptor yX11_does.desc).map (fun d => d.parameters.length) = some 1 := by decide +kernel
abbrev rmX11_ticks : Room := { frames := 4, cells := 0, slots := 0, locals := 84 }
set_option maxHeartbeats 4000000 in
set_option maxRecDepth 100000 in
theorem tX11_ticks_b60_body {B60 : (Nat → Int32) → (Nat → Nat → Int32) → Int32 → Int32 → Prop} {K : Int32 → ((Nat → Int32) × (Nat → Nat → Int32)) → Prop} (C : CallFix p m c cX11_ticks 4 s args wsX11_ticks RX11) (hR : Rti .int p l e rmX11_ticks s m args below meth c cX11_ticks D A (mT cI cZ) (mWu o h cI cZ) K Q) (hB60 : ∀ (f : Nat → Int32) (g : Nat → Nat → Int32) (x1 : Int32) (x3 : Int32) (H : Heap) (locs : List Loc) (ls : Array Slot), B60 f g x1 x3 → Wd D A s (mT cI cZ) (mW o h cI cZ f g) H locs → lv_has ls 4 [(0, .ref o), (1, .int x1), (3, .int x3)] → W p l e rmX11_ticks s m args below meth c H locs 0 0 Q (F0 m 60 ls [])) {f : Nat → Int32} {g : Nat → Nat → Int32} {x1 : Int32} {x3 : Int32} (hh : wpX11_ticks_b60_body B60 f g x1 x3 K) {H : Heap} {locs : List Loc} {ls : Array Slot} (hw : Wd D A s (mT cI cZ) (mW o h cI cZ f g) H locs) (hl : lv_has ls 4 [(0, .ref o), (1, .int x1), (3, .int x3)]) : W p l e rmX11_ticks s m args below meth c H locs 0 0 Q (F0 m 60 ls []) := by
  unfold wpX11_ticks_b60_body at hh
  refine lv_iload_n C.1 C.2.1 dX11_ticks_60 rfl (lv_at hl 2 rfl) ?_
  refine lv_bipush (v := (12 : Int32)) C.1 C.2.1 dX11_ticks_61 (by decide) ?_
  refine lv_iload_n C.1 C.2.1 dX11_ticks_63 rfl (lv_at hl 1 rfl) ?_
  refine lv_imul C.1 C.2.1 dX11_ticks_64 ?_
  refine lv_aload_n C.1 C.2.1 dX11_ticks_65 rfl (lv_at hl 0 rfl) ?_
  refine m_ga C hw (inC inW11) 14 (by decide) (wc w_1476) mg_14 dX11_ticks_66 ?_
  refine lv_iload_n C.1 C.2.1 dX11_ticks_69 rfl (lv_at hl 1 rfl) ?_
  obtain ⟨hi70, hh⟩ := hh
  refine m_ial C hw mp_14 (x := g 14 (ix x1)) hi70 rfl dX11_ticks_70 ?_
  refine lv_iadd C.1 C.2.1 dX11_ticks_71 ?_
  refine lv_icmp_ge (tgt := 86) C.1 C.2.1 dX11_ticks_72 (by decide) (fun c72 => ?_) (fun c72 => ?_)
  · replace hh := hh.1 c72
    refine lv_iload_n C.1 C.2.1 dX11_ticks_86 rfl (lv_at hl 1 rfl) ?_
    exact hR _ _ _ (f, g) _ _ dX11_ticks_87 rfl hh hw
  · replace hh := hh.2 c72
    refine lv_aload_n C.1 C.2.1 dX11_ticks_75 rfl (lv_at hl 0 rfl) ?_
    refine lv_iload_n C.1 C.2.1 dX11_ticks_76 rfl (lv_at hl 2 rfl) ?_
    refine m_Vv C hw (ctX11_does l D o h cI cZ f g x3 hh) (cwV 1 C.2.2.2.2 (gd_V w_1862 w_1864 w_87 w_125 w_1865) rfl rfl rfl cdX11_does ⟨Nat.le_of_ble_eq_true rfl, Nat.le_of_ble_eq_true rfl⟩) rfl hl.1 (Nat.le_of_ble_eq_true rfl) dX11_ticks_77 ⟨Nat.zero_le _, Nat.zero_le _⟩ (fun u77 H locs hh hw => ?_) rfl
    refine lv_iinc (v := x3 + (1 : Int32)) (lv' := [(3, .int (x3 + (1 : Int32))), (0, .ref o), (1, .int x1)]) C.1 C.2.1 dX11_ticks_80 hl (k := 2) rfl rfl (by decide) rfl (fun ls hl => ?_)
    refine lv_goto (tgt := 60) C.1 C.2.1 dX11_ticks_83 (by decide) ?_
    exact hB60 _ _ _ _ _ _ _ hh hw (lv_sub hl [1, 2, 0] rfl)
theorem tX11_ticks_b60 {K : Int32 → ((Nat → Int32) × (Nat → Nat → Int32)) → Prop} (C : CallFix p m c cX11_ticks 4 s args wsX11_ticks RX11) (hR : Rti .int p l e rmX11_ticks s m args below meth c cX11_ticks D A (mT cI cZ) (mWu o h cI cZ) K Q) (n : Nat) : ∀ (f : Nat → Int32) (g : Nat → Nat → Int32) (x1 : Int32) (x3 : Int32) (H : Heap) (locs : List Loc) (ls : Array Slot), wpX11_ticks_b60 n f g x1 x3 K → Wd D A s (mT cI cZ) (mW o h cI cZ f g) H locs → lv_has ls 4 [(0, .ref o), (1, .int x1), (3, .int x3)] → W p l e rmX11_ticks s m args below meth c H locs 0 0 Q (F0 m 60 ls []) := by
  induction n with
  | zero => intro f g x1 x3 H locs ls hh; exact hh.elim
  | succ n ih => intro f g x1 x3 H locs ls hh hw hl; exact tX11_ticks_b60_body C hR ih hh hw hl
set_option maxHeartbeats 4000000 in
set_option maxRecDepth 100000 in
theorem tX11_ticks_b48 {B2 : (Nat → Int32) → (Nat → Nat → Int32) → Int32 → Prop} {K : Int32 → ((Nat → Int32) × (Nat → Nat → Int32)) → Prop} (C : CallFix p m c cX11_ticks 4 s args wsX11_ticks RX11) (hR : Rti .int p l e rmX11_ticks s m args below meth c cX11_ticks D A (mT cI cZ) (mWu o h cI cZ) K Q) (hB2 : ∀ (f : Nat → Int32) (g : Nat → Nat → Int32) (x1 : Int32) (H : Heap) (locs : List Loc) (ls : Array Slot), B2 f g x1 → Wd D A s (mT cI cZ) (mW o h cI cZ f g) H locs → lv_has ls 4 [(0, .ref o), (1, .int x1)] → W p l e rmX11_ticks s m args below meth c H locs 0 0 Q (F0 m 2 ls [])) {f : Nat → Int32} {g : Nat → Nat → Int32} {x1 : Int32} {x2 : Int32} (hh : wpX11_ticks_b48 B2 f g x1 x2 K) {H : Heap} {locs : List Loc} {ls : Array Slot} (hw : Wd D A s (mT cI cZ) (mW o h cI cZ f g) H locs) (hl : lv_has ls 4 [(0, .ref o), (1, .int x1), (2, .int x2)]) : W p l e rmX11_ticks s m args below meth c H locs 0 0 Q (F0 m 48 ls []) := by
  unfold wpX11_ticks_b48 at hh
  refine lv_iload_n C.1 C.2.1 dX11_ticks_48 rfl (lv_at hl 2 rfl) ?_
  refine lv_if_ne (tgt := 55) C.1 C.2.1 dX11_ticks_49 (by decide) (fun c49 => ?_) (fun c49 => ?_)
  · replace hh := hh.1 c49
    refine lv_bipush (v := (12 : Int32)) C.1 C.2.1 dX11_ticks_55 (by decide) ?_
    refine lv_iload_n C.1 C.2.1 dX11_ticks_57 rfl (lv_at hl 1 rfl) ?_
    refine lv_imul C.1 C.2.1 dX11_ticks_58 ?_
    refine lv_istore_n (lv' := [(3, .int ((12 : Int32) * x1)), (0, .ref o), (1, .int x1), (2, .int x2)]) C.1 C.2.1 dX11_ticks_59 rfl hl (by decide) rfl (fun ls hl => ?_)
    obtain ⟨n, hh⟩ := hh
    exact tX11_ticks_b60 C hR n _ _ _ _ _ _ _ hh hw (lv_sub hl [1, 2, 0] rfl)
  · replace hh := hh.2 c49
    refine lv_goto (tgt := 88) C.1 C.2.1 dX11_ticks_52 (by decide) ?_
    refine lv_iinc (v := x1 + (1 : Int32)) (lv' := [(1, .int (x1 + (1 : Int32))), (0, .ref o), (2, .int x2)]) C.1 C.2.1 dX11_ticks_88 hl (k := 1) rfl rfl (by decide) rfl (fun ls hl => ?_)
    refine lv_goto (tgt := 2) C.1 C.2.1 dX11_ticks_91 (by decide) ?_
    exact hB2 _ _ _ _ _ _ hh hw (lv_sub hl [1, 0] rfl)
set_option maxHeartbeats 4000000 in
set_option maxRecDepth 100000 in
theorem tX11_ticks_b17_body {B2 : (Nat → Int32) → (Nat → Nat → Int32) → Int32 → Prop} {B17 : (Nat → Int32) → (Nat → Nat → Int32) → Int32 → Int32 → Int32 → Prop} {K : Int32 → ((Nat → Int32) × (Nat → Nat → Int32)) → Prop} (C : CallFix p m c cX11_ticks 4 s args wsX11_ticks RX11) (hR : Rti .int p l e rmX11_ticks s m args below meth c cX11_ticks D A (mT cI cZ) (mWu o h cI cZ) K Q) (hB2 : ∀ (f : Nat → Int32) (g : Nat → Nat → Int32) (x1 : Int32) (H : Heap) (locs : List Loc) (ls : Array Slot), B2 f g x1 → Wd D A s (mT cI cZ) (mW o h cI cZ f g) H locs → lv_has ls 4 [(0, .ref o), (1, .int x1)] → W p l e rmX11_ticks s m args below meth c H locs 0 0 Q (F0 m 2 ls [])) (hB17 : ∀ (f : Nat → Int32) (g : Nat → Nat → Int32) (x1 : Int32) (x2 : Int32) (x3 : Int32) (H : Heap) (locs : List Loc) (ls : Array Slot), B17 f g x1 x2 x3 → Wd D A s (mT cI cZ) (mW o h cI cZ f g) H locs → lv_has ls 4 [(0, .ref o), (1, .int x1), (2, .int x2), (3, .int x3)] → W p l e rmX11_ticks s m args below meth c H locs 0 0 Q (F0 m 17 ls [])) {f : Nat → Int32} {g : Nat → Nat → Int32} {x1 : Int32} {x2 : Int32} {x3 : Int32} (hh : wpX11_ticks_b17_body B2 B17 f g x1 x2 x3 K) {H : Heap} {locs : List Loc} {ls : Array Slot} (hw : Wd D A s (mT cI cZ) (mW o h cI cZ f g) H locs) (hl : lv_has ls 4 [(0, .ref o), (1, .int x1), (2, .int x2), (3, .int x3)]) : W p l e rmX11_ticks s m args below meth c H locs 0 0 Q (F0 m 17 ls []) := by
  unfold wpX11_ticks_b17_body at hh
  refine lv_iload_n C.1 C.2.1 dX11_ticks_17 rfl (lv_at hl 3 rfl) ?_
  refine lv_bipush (v := (12 : Int32)) C.1 C.2.1 dX11_ticks_18 (by decide) ?_
  refine lv_iload_n C.1 C.2.1 dX11_ticks_20 rfl (lv_at hl 1 rfl) ?_
  refine lv_imul C.1 C.2.1 dX11_ticks_21 ?_
  refine lv_aload_n C.1 C.2.1 dX11_ticks_22 rfl (lv_at hl 0 rfl) ?_
  refine m_ga C hw (inC inW11) 13 (by decide) (wc w_1475) mg_13 dX11_ticks_23 ?_
  refine lv_iload_n C.1 C.2.1 dX11_ticks_26 rfl (lv_at hl 1 rfl) ?_
  obtain ⟨hi27, hh⟩ := hh
  refine m_ial C hw mp_13 (x := g 13 (ix x1)) hi27 rfl dX11_ticks_27 ?_
  refine lv_iadd C.1 C.2.1 dX11_ticks_28 ?_
  refine lv_icmp_ge (tgt := 48) C.1 C.2.1 dX11_ticks_29 (by decide) (fun c29 => ?_) (fun c29 => ?_)
  · replace hh := hh.1 c29
    exact tX11_ticks_b48 C hR hB2 hh hw (lv_sub hl [0, 1, 2] rfl)
  · replace hh := hh.2 c29
    refine lv_iload_n C.1 C.2.1 dX11_ticks_32 rfl (lv_at hl 2 rfl) ?_
    refine lv_if_eq (tgt := 48) C.1 C.2.1 dX11_ticks_33 (by decide) (fun c33 => ?_) (fun c33 => ?_)
    · replace hh := hh.1 c33
      exact tX11_ticks_b48 C hR hB2 hh hw (lv_sub hl [0, 1, 2] rfl)
    · replace hh := hh.2 c33
      refine lv_aload_n C.1 C.2.1 dX11_ticks_36 rfl (lv_at hl 0 rfl) ?_
      refine lv_iload_n C.1 C.2.1 dX11_ticks_37 rfl (lv_at hl 3 rfl) ?_
      refine m_Vi C hw (ctX11_holds l D o h cI cZ f g x3 hh) (cwV 1 C.2.2.2.2 (gd_V w_1858 w_1860 w_86 w_125 w_1861) rfl rfl rfl cdX11_holds ⟨Nat.le_of_ble_eq_true rfl, Nat.le_of_ble_eq_true rfl⟩) rfl hl.1 (Nat.le_of_ble_eq_true rfl) dX11_ticks_38 ⟨Nat.zero_le _, Nat.zero_le _⟩ (fun r38 u38 H locs hh hw => ?_) rfl
      refine lv_istore_n (lv' := [(2, .int r38), (0, .ref o), (1, .int x1), (3, .int x3)]) C.1 C.2.1 dX11_ticks_41 rfl hl (by decide) rfl (fun ls hl => ?_)
      refine lv_iinc (v := x3 + (1 : Int32)) (lv' := [(3, .int (x3 + (1 : Int32))), (2, .int r38), (0, .ref o), (1, .int x1)]) C.1 C.2.1 dX11_ticks_42 hl (k := 3) rfl rfl (by decide) rfl (fun ls hl => ?_)
      refine lv_goto (tgt := 17) C.1 C.2.1 dX11_ticks_45 (by decide) ?_
      exact hB17 _ _ _ _ _ _ _ _ hh hw (lv_sub hl [2, 3, 1, 0] rfl)
theorem tX11_ticks_b17 {B2 : (Nat → Int32) → (Nat → Nat → Int32) → Int32 → Prop} {K : Int32 → ((Nat → Int32) × (Nat → Nat → Int32)) → Prop} (C : CallFix p m c cX11_ticks 4 s args wsX11_ticks RX11) (hR : Rti .int p l e rmX11_ticks s m args below meth c cX11_ticks D A (mT cI cZ) (mWu o h cI cZ) K Q) (hB2 : ∀ (f : Nat → Int32) (g : Nat → Nat → Int32) (x1 : Int32) (H : Heap) (locs : List Loc) (ls : Array Slot), B2 f g x1 → Wd D A s (mT cI cZ) (mW o h cI cZ f g) H locs → lv_has ls 4 [(0, .ref o), (1, .int x1)] → W p l e rmX11_ticks s m args below meth c H locs 0 0 Q (F0 m 2 ls [])) (n : Nat) : ∀ (f : Nat → Int32) (g : Nat → Nat → Int32) (x1 : Int32) (x2 : Int32) (x3 : Int32) (H : Heap) (locs : List Loc) (ls : Array Slot), wpX11_ticks_b17 B2 n f g x1 x2 x3 K → Wd D A s (mT cI cZ) (mW o h cI cZ f g) H locs → lv_has ls 4 [(0, .ref o), (1, .int x1), (2, .int x2), (3, .int x3)] → W p l e rmX11_ticks s m args below meth c H locs 0 0 Q (F0 m 17 ls []) := by
  induction n with
  | zero => intro f g x1 x2 x3 H locs ls hh; exact hh.elim
  | succ n ih => intro f g x1 x2 x3 H locs ls hh hw hl; exact tX11_ticks_b17_body C hR hB2 ih hh hw hl
set_option maxHeartbeats 4000000 in
set_option maxRecDepth 100000 in
theorem tX11_ticks_b2_body {B2 : (Nat → Int32) → (Nat → Nat → Int32) → Int32 → Prop} {K : Int32 → ((Nat → Int32) × (Nat → Nat → Int32)) → Prop} (C : CallFix p m c cX11_ticks 4 s args wsX11_ticks RX11) (hR : Rti .int p l e rmX11_ticks s m args below meth c cX11_ticks D A (mT cI cZ) (mWu o h cI cZ) K Q) (hB2 : ∀ (f : Nat → Int32) (g : Nat → Nat → Int32) (x1 : Int32) (H : Heap) (locs : List Loc) (ls : Array Slot), B2 f g x1 → Wd D A s (mT cI cZ) (mW o h cI cZ f g) H locs → lv_has ls 4 [(0, .ref o), (1, .int x1)] → W p l e rmX11_ticks s m args below meth c H locs 0 0 Q (F0 m 2 ls [])) {f : Nat → Int32} {g : Nat → Nat → Int32} {x1 : Int32} (hh : wpX11_ticks_b2_body B2 f g x1 K) {H : Heap} {locs : List Loc} {ls : Array Slot} (hw : Wd D A s (mT cI cZ) (mW o h cI cZ f g) H locs) (hl : lv_has ls 4 [(0, .ref o), (1, .int x1)]) : W p l e rmX11_ticks s m args below meth c H locs 0 0 Q (F0 m 2 ls []) := by
  unfold wpX11_ticks_b2_body at hh
  refine lv_iload_n C.1 C.2.1 dX11_ticks_2 rfl (lv_at hl 1 rfl) ?_
  refine lv_aload_n C.1 C.2.1 dX11_ticks_3 rfl (lv_at hl 0 rfl) ?_
  refine m_gi C hw (inC inW11) 12 (by decide) (wc w_1474) mg_12 (x := f 12) rfl dX11_ticks_4 ?_
  refine lv_icmp_ge (tgt := 94) C.1 C.2.1 dX11_ticks_7 (by decide) (fun c7 => ?_) (fun c7 => ?_)
  · replace hh := hh.1 c7
    refine lv_iconst (v := (-1 : Int32)) C.1 C.2.1 dX11_ticks_94 (by decide) ?_
    exact hR _ _ _ (f, g) _ _ dX11_ticks_95 rfl hh hw
  · replace hh := hh.2 c7
    refine lv_iconst (v := (1 : Int32)) C.1 C.2.1 dX11_ticks_10 (by decide) ?_
    refine lv_istore_n (lv' := [(2, .int (1 : Int32)), (0, .ref o), (1, .int x1)]) C.1 C.2.1 dX11_ticks_11 rfl hl (by decide) rfl (fun ls hl => ?_)
    refine lv_bipush (v := (12 : Int32)) C.1 C.2.1 dX11_ticks_12 (by decide) ?_
    refine lv_iload_n C.1 C.2.1 dX11_ticks_14 rfl (lv_at hl 2 rfl) ?_
    refine lv_imul C.1 C.2.1 dX11_ticks_15 ?_
    refine lv_istore_n (lv' := [(3, .int ((12 : Int32) * x1)), (2, .int (1 : Int32)), (0, .ref o), (1, .int x1)]) C.1 C.2.1 dX11_ticks_16 rfl hl (by decide) rfl (fun ls hl => ?_)
    obtain ⟨n, hh⟩ := hh
    exact tX11_ticks_b17 C hR hB2 n _ _ _ _ _ _ _ _ hh hw (lv_sub hl [2, 3, 1, 0] rfl)
theorem tX11_ticks_b2 {K : Int32 → ((Nat → Int32) × (Nat → Nat → Int32)) → Prop} (C : CallFix p m c cX11_ticks 4 s args wsX11_ticks RX11) (hR : Rti .int p l e rmX11_ticks s m args below meth c cX11_ticks D A (mT cI cZ) (mWu o h cI cZ) K Q) (n : Nat) : ∀ (f : Nat → Int32) (g : Nat → Nat → Int32) (x1 : Int32) (H : Heap) (locs : List Loc) (ls : Array Slot), wpX11_ticks_b2 n f g x1 K → Wd D A s (mT cI cZ) (mW o h cI cZ f g) H locs → lv_has ls 4 [(0, .ref o), (1, .int x1)] → W p l e rmX11_ticks s m args below meth c H locs 0 0 Q (F0 m 2 ls []) := by
  induction n with
  | zero => intro f g x1 H locs ls hh; exact hh.elim
  | succ n ih => intro f g x1 H locs ls hh hw hl; exact tX11_ticks_b2_body C hR ih hh hw hl
set_option maxHeartbeats 4000000 in
set_option maxRecDepth 100000 in
theorem tX11_ticks_b0 {K : Int32 → ((Nat → Int32) × (Nat → Nat → Int32)) → Prop} (C : CallFix p m c cX11_ticks 4 s args wsX11_ticks RX11) (hR : Rti .int p l e rmX11_ticks s m args below meth c cX11_ticks D A (mT cI cZ) (mWu o h cI cZ) K Q) {f : Nat → Int32} {g : Nat → Nat → Int32} (hh : wpX11_ticks_b0 f g K) {H : Heap} {locs : List Loc} {ls : Array Slot} (hw : Wd D A s (mT cI cZ) (mW o h cI cZ f g) H locs) (hl : lv_has ls 4 [(0, .ref o)]) : W p l e rmX11_ticks s m args below meth c H locs 0 0 Q (F0 m 0 ls []) := by
  unfold wpX11_ticks_b0 at hh
  refine lv_iconst (v := (0 : Int32)) C.1 C.2.1 dX11_ticks_0 (by decide) ?_
  refine lv_istore_n (lv' := [(1, .int (0 : Int32)), (0, .ref o)]) C.1 C.2.1 dX11_ticks_1 rfl hl (by decide) rfl (fun ls hl => ?_)
  obtain ⟨n, hh⟩ := hh
  exact tX11_ticks_b2 C hR n _ _ _ _ _ _ hh hw (lv_sub hl [1, 0] rfl)
theorem ctX11_ticks (l : Launch) (D : va_G) (o : Nat) (h : Nat → Nat) (cI cZ : ClassId) (f : Nat → Int32) (g : Nat → Nat → Int32) {K : Int32 → ((Nat → Int32) × (Nat → Nat → Int32)) → Prop} (hh : wpX11_ticks f g K) : Ci l yX11_ticks wsX11_ticks rmX11_ticks [.ref o] D (mT cI cZ) (mWu o h cI cZ) (f, g) K := by
  refine Ci_of (cc := cX11_ticks) (maxL := 4) (by decide) rfl (Nat.le_of_ble_eq_true rfl) ?_
  intro p e s m below meth c A Q C hw hR ls hl
  exact tX11_ticks_b0 C hR hh hw hl
theorem cdX11_ticks : yX11_ticks.cls = RX11 ∧ yX11_ticks.cls ≠ "java/lang/invoke/MethodHandle" ∧ yX11_ticks.cls ≠ "java/lang/invoke/VarHandle" ∧ (parseMethodDescriptor yX11_ticks.desc).map (fun d => d.parameters.length) = some 0 := by decide +kernel
abbrev rmX11_tick : Room := { frames := 5, cells := 0, slots := 0, locals := 107 }
set_option maxHeartbeats 4000000 in
set_option maxRecDepth 100000 in
theorem tX11_tick_b48 {B22 : (Nat → Int32) → (Nat → Nat → Int32) → Int32 → Int32 → Int32 → Prop} {K : Int32 → ((Nat → Int32) × (Nat → Nat → Int32)) → Prop} (C : CallFix p m c cX11_tick 4 s args wsX11_tick RX11) (hR : Rti .int p l e rmX11_tick s m args below meth c cX11_tick D A (mT cI cZ) (mWu o h cI cZ) K Q) (hB22 : ∀ (f : Nat → Int32) (g : Nat → Nat → Int32) (x1 : Int32) (x2 : Int32) (x3 : Int32) (H : Heap) (locs : List Loc) (ls : Array Slot), B22 f g x1 x2 x3 → Wd D A s (mT cI cZ) (mW o h cI cZ f g) H locs → lv_has ls 4 [(0, .ref o), (1, .int x1), (2, .int x2), (3, .int x3)] → W p l e rmX11_tick s m args below meth c H locs 0 0 Q (F0 m 22 ls [])) {f : Nat → Int32} {g : Nat → Nat → Int32} {k0 : Int32} {k1 : Int32} {x1 : Int32} {x3 : Int32} (hh : wpX11_tick_b48 B22 f g k0 k1 x1 x3 K) {H : Heap} {locs : List Loc} {ls : Array Slot} (hw : Wd D A s (mT cI cZ) (mW o h cI cZ f g) H locs) (hl : lv_has ls 4 [(0, .ref o), (1, .int x1), (3, .int x3)]) : W p l e rmX11_tick s m args below meth c H locs 0 0 Q (F0 m 48 ls [.int k1, .int k0]) := by
  unfold wpX11_tick_b48 at hh
  refine lv_iadd C.1 C.2.1 dX11_tick_48 ?_
  refine lv_istore_n (lv' := [(2, .int (k0 + k1)), (0, .ref o), (1, .int x1), (3, .int x3)]) C.1 C.2.1 dX11_tick_49 rfl hl (by decide) rfl (fun ls hl => ?_)
  refine lv_iinc (v := x3 + (1 : Int32)) (lv' := [(3, .int (x3 + (1 : Int32))), (2, .int (k0 + k1)), (0, .ref o), (1, .int x1)]) C.1 C.2.1 dX11_tick_50 hl (k := 3) rfl rfl (by decide) rfl (fun ls hl => ?_)
  refine lv_goto (tgt := 22) C.1 C.2.1 dX11_tick_53 (by decide) ?_
  exact hB22 _ _ _ _ _ _ _ _ hh hw (lv_sub hl [2, 3, 1, 0] rfl)
set_option maxHeartbeats 4000000 in
set_option maxRecDepth 100000 in
theorem tX11_tick_b22_body {B22 : (Nat → Int32) → (Nat → Nat → Int32) → Int32 → Int32 → Int32 → Prop} {K : Int32 → ((Nat → Int32) × (Nat → Nat → Int32)) → Prop} (C : CallFix p m c cX11_tick 4 s args wsX11_tick RX11) (hR : Rti .int p l e rmX11_tick s m args below meth c cX11_tick D A (mT cI cZ) (mWu o h cI cZ) K Q) (hB22 : ∀ (f : Nat → Int32) (g : Nat → Nat → Int32) (x1 : Int32) (x2 : Int32) (x3 : Int32) (H : Heap) (locs : List Loc) (ls : Array Slot), B22 f g x1 x2 x3 → Wd D A s (mT cI cZ) (mW o h cI cZ f g) H locs → lv_has ls 4 [(0, .ref o), (1, .int x1), (2, .int x2), (3, .int x3)] → W p l e rmX11_tick s m args below meth c H locs 0 0 Q (F0 m 22 ls [])) {f : Nat → Int32} {g : Nat → Nat → Int32} {x1 : Int32} {x2 : Int32} {x3 : Int32} (hh : wpX11_tick_b22_body B22 f g x1 x2 x3 K) {H : Heap} {locs : List Loc} {ls : Array Slot} (hw : Wd D A s (mT cI cZ) (mW o h cI cZ f g) H locs) (hl : lv_has ls 4 [(0, .ref o), (1, .int x1), (2, .int x2), (3, .int x3)]) : W p l e rmX11_tick s m args below meth c H locs 0 0 Q (F0 m 22 ls []) := by
  unfold wpX11_tick_b22_body at hh
  refine lv_iload_n C.1 C.2.1 dX11_tick_22 rfl (lv_at hl 3 rfl) ?_
  refine lv_iload_n C.1 C.2.1 dX11_tick_23 rfl (lv_at hl 1 rfl) ?_
  refine lv_icmp_ge (tgt := 56) C.1 C.2.1 dX11_tick_24 (by decide) (fun c24 => ?_) (fun c24 => ?_)
  · replace hh := hh.1 c24
    refine lv_iload_n C.1 C.2.1 dX11_tick_56 rfl (lv_at hl 2 rfl) ?_
    exact hR _ _ _ (f, g) _ _ dX11_tick_57 rfl hh hw
  · replace hh := hh.2 c24
    refine lv_aload_n C.1 C.2.1 dX11_tick_27 rfl (lv_at hl 0 rfl) ?_
    refine lv_aload_n C.1 C.2.1 dX11_tick_28 rfl (lv_at hl 0 rfl) ?_
    refine m_Vi C hw (ctX11_ticks l D o h cI cZ f g  hh) (cwV 0 C.2.2.2.2 (gd_V w_1854 w_1856 w_85 w_125 w_1857) rfl rfl rfl cdX11_ticks ⟨Nat.le_of_ble_eq_true rfl, Nat.le_of_ble_eq_true rfl⟩) rfl hl.1 (Nat.le_of_ble_eq_true rfl) dX11_tick_29 ⟨Nat.zero_le _, Nat.zero_le _⟩ (fun r29 u29 H locs hh hw => ?_) rfl
    refine m_pi C hw (inC inW11) 51 (by decide) (wc w_1513) rfl (ty := .int) (by decide +kernel) rfl rfl (Nat.le_of_ble_eq_true rfl) ms_51 dX11_tick_32 (fun H locs hw => ?_)
    refine lv_iload_n C.1 C.2.1 dX11_tick_35 rfl (lv_at hl 2 rfl) ?_
    refine lv_aload_n C.1 C.2.1 dX11_tick_36 rfl (lv_at hl 0 rfl) ?_
    refine m_gi C hw (inC inW11) 51 (by decide) (wc w_1513) mg_51 (x := r29) rfl dX11_tick_37 ?_
    refine lv_if_lt (tgt := 47) C.1 C.2.1 dX11_tick_40 (by decide) (fun c40 => ?_) (fun c40 => ?_)
    · replace hh := hh.1 c40
      refine lv_iconst (v := (0 : Int32)) C.1 C.2.1 dX11_tick_47 (by decide) ?_
      exact tX11_tick_b48 C hR hB22 hh hw (lv_sub hl [0, 1, 3] rfl)
    · replace hh := hh.2 c40
      refine lv_iconst (v := (1 : Int32)) C.1 C.2.1 dX11_tick_43 (by decide) ?_
      refine lv_goto (tgt := 48) C.1 C.2.1 dX11_tick_44 (by decide) ?_
      exact tX11_tick_b48 C hR hB22 hh hw (lv_sub hl [0, 1, 3] rfl)
theorem tX11_tick_b22 {K : Int32 → ((Nat → Int32) × (Nat → Nat → Int32)) → Prop} (C : CallFix p m c cX11_tick 4 s args wsX11_tick RX11) (hR : Rti .int p l e rmX11_tick s m args below meth c cX11_tick D A (mT cI cZ) (mWu o h cI cZ) K Q) (n : Nat) : ∀ (f : Nat → Int32) (g : Nat → Nat → Int32) (x1 : Int32) (x2 : Int32) (x3 : Int32) (H : Heap) (locs : List Loc) (ls : Array Slot), wpX11_tick_b22 n f g x1 x2 x3 K → Wd D A s (mT cI cZ) (mW o h cI cZ f g) H locs → lv_has ls 4 [(0, .ref o), (1, .int x1), (2, .int x2), (3, .int x3)] → W p l e rmX11_tick s m args below meth c H locs 0 0 Q (F0 m 22 ls []) := by
  induction n with
  | zero => intro f g x1 x2 x3 H locs ls hh; exact hh.elim
  | succ n ih => intro f g x1 x2 x3 H locs ls hh hw hl; exact tX11_tick_b22_body C hR ih hh hw hl
set_option maxHeartbeats 4000000 in
set_option maxRecDepth 100000 in
theorem tX11_tick_b0 {K : Int32 → ((Nat → Int32) × (Nat → Nat → Int32)) → Prop} (C : CallFix p m c cX11_tick 4 s args wsX11_tick RX11) (hR : Rti .int p l e rmX11_tick s m args below meth c cX11_tick D A (mT cI cZ) (mWu o h cI cZ) K Q) {f : Nat → Int32} {g : Nat → Nat → Int32} {x1 : Int32} (hh : wpX11_tick_b0 f g x1 K) {H : Heap} {locs : List Loc} {ls : Array Slot} (hw : Wd D A s (mT cI cZ) (mW o h cI cZ f g) H locs) (hl : lv_has ls 4 [(0, .ref o), (1, .int x1)]) : W p l e rmX11_tick s m args below meth c H locs 0 0 Q (F0 m 0 ls []) := by
  unfold wpX11_tick_b0 at hh
  refine lv_aload_n C.1 C.2.1 dX11_tick_0 rfl (lv_at hl 0 rfl) ?_
  refine lv_iconst (v := (0 : Int32)) C.1 C.2.1 dX11_tick_1 (by decide) ?_
  refine m_pi C hw (inC inW11) 2 (by decide) (wc w_1464) rfl (ty := .int) (by decide +kernel) rfl rfl (Nat.le_of_ble_eq_true rfl) ms_2 dX11_tick_2 (fun H locs hw => ?_)
  refine lv_iload_n C.1 C.2.1 dX11_tick_5 rfl (lv_at hl 1 rfl) ?_
  refine lv_iconst (v := (0 : Int32)) C.1 C.2.1 dX11_tick_6 (by decide) ?_
  refine lv_sipush (v := (5000 : Int32)) C.1 C.2.1 dX11_tick_7 (by decide) ?_
  refine wd_Si C hw (ctX11_isIn l D x1 (0 : Int32) (5000 : Int32) hh) (va_cwS 3 C.2.2.2.2 (gd_S w_1804 w_1805 (ini_cls rfl w_125) w_1806) rfl rfl rfl cdX11_isIn ⟨Nat.le_of_ble_eq_true rfl, Nat.le_of_ble_eq_true rfl⟩) rfl hl.1 (Nat.le_of_ble_eq_true rfl) dX11_tick_10 ⟨Nat.zero_le _, Nat.zero_le _⟩ (fun r10 H locs hh hw => ?_) rfl
  refine lv_if_ne (tgt := 18) C.1 C.2.1 dX11_tick_13 (by decide) (fun c13 => ?_) (fun c13 => ?_)
  · replace hh := hh.1 c13
    refine lv_iconst (v := (0 : Int32)) C.1 C.2.1 dX11_tick_18 (by decide) ?_
    refine lv_istore_n (lv' := [(2, .int (0 : Int32)), (0, .ref o), (1, .int x1)]) C.1 C.2.1 dX11_tick_19 rfl hl (by decide) rfl (fun ls hl => ?_)
    refine lv_iconst (v := (0 : Int32)) C.1 C.2.1 dX11_tick_20 (by decide) ?_
    refine lv_istore_n (lv' := [(3, .int (0 : Int32)), (2, .int (0 : Int32)), (0, .ref o), (1, .int x1)]) C.1 C.2.1 dX11_tick_21 rfl hl (by decide) rfl (fun ls hl => ?_)
    obtain ⟨n, hh⟩ := hh
    exact tX11_tick_b22 C hR n _ _ _ _ _ _ _ _ hh hw (lv_sub hl [2, 3, 1, 0] rfl)
  · replace hh := hh.2 c13
    refine lv_iconst (v := (-1 : Int32)) C.1 C.2.1 dX11_tick_16 (by decide) ?_
    exact hR _ _ _ (upd f 2 (0 : Int32), g) _ _ dX11_tick_17 rfl hh hw
theorem ctX11_tick (l : Launch) (D : va_G) (o : Nat) (h : Nat → Nat) (cI cZ : ClassId) (f : Nat → Int32) (g : Nat → Nat → Int32) (x1 : Int32) {K : Int32 → ((Nat → Int32) × (Nat → Nat → Int32)) → Prop} (hh : wpX11_tick f g x1 K) : Ci l yX11_tick wsX11_tick rmX11_tick [.ref o, .int x1] D (mT cI cZ) (mWu o h cI cZ) (f, g) K := by
  refine Ci_of (cc := cX11_tick) (maxL := 4) (by decide) rfl (Nat.le_of_ble_eq_true rfl) ?_
  intro p e s m below meth c A Q C hw hR ls hl
  exact tX11_tick_b0 C hR hh hw hl
theorem cdX11_tick : yX11_tick.cls = RX11 ∧ yX11_tick.cls ≠ "java/lang/invoke/MethodHandle" ∧ yX11_tick.cls ≠ "java/lang/invoke/VarHandle" ∧ (parseMethodDescriptor yX11_tick.desc).map (fun d => d.parameters.length) = some 1 := by decide +kernel
abbrev rmX11_run : Room := { frames := 5, cells := 0, slots := 0, locals := 107 }
set_option maxHeartbeats 4000000 in
set_option maxRecDepth 100000 in
theorem tX11_run_b20_body {B20 : (Nat → Int32) → (Nat → Nat → Int32) → Int32 → Int32 → Prop} {K : Int32 → ((Nat → Int32) × (Nat → Nat → Int32)) → Prop} (C : CallFix p m c cX11_run 3 s args wsX11_run RX11) (hR : Rti .int p l e rmX11_run s m args below meth c cX11_run D A (mT cI cZ) (mWu o h cI cZ) K Q) (hB20 : ∀ (f : Nat → Int32) (g : Nat → Nat → Int32) (x1 : Int32) (x2 : Int32) (H : Heap) (locs : List Loc) (ls : Array Slot), B20 f g x1 x2 → Wd D A s (mT cI cZ) (mW o h cI cZ f g) H locs → lv_has ls 3 [(0, .ref o), (1, .int x1), (2, .int x2)] → W p l e rmX11_run s m args below meth c H locs 0 0 Q (F0 m 20 ls [])) {f : Nat → Int32} {g : Nat → Nat → Int32} {x1 : Int32} {x2 : Int32} (hh : wpX11_run_b20_body B20 f g x1 x2 K) {H : Heap} {locs : List Loc} {ls : Array Slot} (hw : Wd D A s (mT cI cZ) (mW o h cI cZ f g) H locs) (hl : lv_has ls 3 [(0, .ref o), (1, .int x1), (2, .int x2)]) : W p l e rmX11_run s m args below meth c H locs 0 0 Q (F0 m 20 ls []) := by
  unfold wpX11_run_b20_body at hh
  refine lv_aload_n C.1 C.2.1 dX11_run_20 rfl (lv_at hl 0 rfl) ?_
  refine m_gi C hw (inC inW11) 41 (by decide) (wc w_1503) mg_41 (x := f 41) rfl dX11_run_21 ?_
  refine lv_aload_n C.1 C.2.1 dX11_run_24 rfl (lv_at hl 0 rfl) ?_
  refine m_gi C hw (inC inW11) 40 (by decide) (wc w_1502) mg_40 (x := f 40) rfl dX11_run_25 ?_
  refine lv_icmp_eq (tgt := 53) C.1 C.2.1 dX11_run_28 (by decide) (fun c28 => ?_) (fun c28 => ?_)
  · replace hh := hh.1 c28
    refine lv_iload_n C.1 C.2.1 dX11_run_53 rfl (lv_at hl 2 rfl) ?_
    exact hR _ _ _ (f, g) _ _ dX11_run_54 rfl hh hw
  · replace hh := hh.2 c28
    refine lv_iload_n C.1 C.2.1 dX11_run_31 rfl (lv_at hl 2 rfl) ?_
    refine lv_iload_n C.1 C.2.1 dX11_run_32 rfl (lv_at hl 1 rfl) ?_
    refine lv_icmp_ne (tgt := 39) C.1 C.2.1 dX11_run_33 (by decide) (fun c33 => ?_) (fun c33 => ?_)
    · replace hh := hh.1 c33
      refine lv_aload_n C.1 C.2.1 dX11_run_39 rfl (lv_at hl 0 rfl) ?_
      refine lv_aload_n C.1 C.2.1 dX11_run_40 rfl (lv_at hl 0 rfl) ?_
      refine m_Vi C hw (ctX11_ticks l D o h cI cZ f g  hh) (cwV 0 C.2.2.2.2 (gd_V w_1854 w_1856 w_85 w_125 w_1857) rfl rfl rfl cdX11_ticks ⟨Nat.le_of_ble_eq_true rfl, Nat.le_of_ble_eq_true rfl⟩) rfl hl.1 (Nat.le_of_ble_eq_true rfl) dX11_run_41 ⟨Nat.zero_le _, Nat.zero_le _⟩ (fun r41 u41 H locs hh hw => ?_) rfl
      refine m_pi C hw (inC inW11) 51 (by decide) (wc w_1513) rfl (ty := .int) (by decide +kernel) rfl rfl (Nat.le_of_ble_eq_true rfl) ms_51 dX11_run_44 (fun H locs hw => ?_)
      refine lv_iinc (v := x2 + (1 : Int32)) (lv' := [(2, .int (x2 + (1 : Int32))), (0, .ref o), (1, .int x1)]) C.1 C.2.1 dX11_run_47 hl (k := 2) rfl rfl (by decide) rfl (fun ls hl => ?_)
      refine lv_goto (tgt := 20) C.1 C.2.1 dX11_run_50 (by decide) ?_
      exact hB20 _ _ _ _ _ _ _ hh hw (lv_sub hl [1, 2, 0] rfl)
    · replace hh := hh.2 c33
      refine lv_bipush (v := (-2 : Int32)) C.1 C.2.1 dX11_run_36 (by decide) ?_
      exact hR _ _ _ (f, g) _ _ dX11_run_38 rfl hh hw
theorem tX11_run_b20 {K : Int32 → ((Nat → Int32) × (Nat → Nat → Int32)) → Prop} (C : CallFix p m c cX11_run 3 s args wsX11_run RX11) (hR : Rti .int p l e rmX11_run s m args below meth c cX11_run D A (mT cI cZ) (mWu o h cI cZ) K Q) (n : Nat) : ∀ (f : Nat → Int32) (g : Nat → Nat → Int32) (x1 : Int32) (x2 : Int32) (H : Heap) (locs : List Loc) (ls : Array Slot), wpX11_run_b20 n f g x1 x2 K → Wd D A s (mT cI cZ) (mW o h cI cZ f g) H locs → lv_has ls 3 [(0, .ref o), (1, .int x1), (2, .int x2)] → W p l e rmX11_run s m args below meth c H locs 0 0 Q (F0 m 20 ls []) := by
  induction n with
  | zero => intro f g x1 x2 H locs ls hh; exact hh.elim
  | succ n ih => intro f g x1 x2 H locs ls hh hw hl; exact tX11_run_b20_body C hR ih hh hw hl
set_option maxHeartbeats 4000000 in
set_option maxRecDepth 100000 in
theorem tX11_run_b0 {K : Int32 → ((Nat → Int32) × (Nat → Nat → Int32)) → Prop} (C : CallFix p m c cX11_run 3 s args wsX11_run RX11) (hR : Rti .int p l e rmX11_run s m args below meth c cX11_run D A (mT cI cZ) (mWu o h cI cZ) K Q) {f : Nat → Int32} {g : Nat → Nat → Int32} {x1 : Int32} (hh : wpX11_run_b0 f g x1 K) {H : Heap} {locs : List Loc} {ls : Array Slot} (hw : Wd D A s (mT cI cZ) (mW o h cI cZ f g) H locs) (hl : lv_has ls 3 [(0, .ref o), (1, .int x1)]) : W p l e rmX11_run s m args below meth c H locs 0 0 Q (F0 m 0 ls []) := by
  unfold wpX11_run_b0 at hh
  refine lv_aload_n C.1 C.2.1 dX11_run_0 rfl (lv_at hl 0 rfl) ?_
  refine lv_iconst (v := (0 : Int32)) C.1 C.2.1 dX11_run_1 (by decide) ?_
  refine m_pi C hw (inC inW11) 2 (by decide) (wc w_1464) rfl (ty := .int) (by decide +kernel) rfl rfl (Nat.le_of_ble_eq_true rfl) ms_2 dX11_run_2 (fun H locs hw => ?_)
  refine lv_iload_n C.1 C.2.1 dX11_run_5 rfl (lv_at hl 1 rfl) ?_
  refine lv_iconst (v := (0 : Int32)) C.1 C.2.1 dX11_run_6 (by decide) ?_
  refine lv_sipush (v := (5000 : Int32)) C.1 C.2.1 dX11_run_7 (by decide) ?_
  refine wd_Si C hw (ctX11_isIn l D x1 (0 : Int32) (5000 : Int32) hh) (va_cwS 3 C.2.2.2.2 (gd_S w_1804 w_1805 (ini_cls rfl w_125) w_1806) rfl rfl rfl cdX11_isIn ⟨Nat.le_of_ble_eq_true rfl, Nat.le_of_ble_eq_true rfl⟩) rfl hl.1 (Nat.le_of_ble_eq_true rfl) dX11_run_10 ⟨Nat.zero_le _, Nat.zero_le _⟩ (fun r10 H locs hh hw => ?_) rfl
  refine lv_if_ne (tgt := 18) C.1 C.2.1 dX11_run_13 (by decide) (fun c13 => ?_) (fun c13 => ?_)
  · replace hh := hh.1 c13
    refine lv_iconst (v := (0 : Int32)) C.1 C.2.1 dX11_run_18 (by decide) ?_
    refine lv_istore_n (lv' := [(2, .int (0 : Int32)), (0, .ref o), (1, .int x1)]) C.1 C.2.1 dX11_run_19 rfl hl (by decide) rfl (fun ls hl => ?_)
    obtain ⟨n, hh⟩ := hh
    exact tX11_run_b20 C hR n _ _ _ _ _ _ _ hh hw (lv_sub hl [1, 2, 0] rfl)
  · replace hh := hh.2 c13
    refine lv_iconst (v := (-1 : Int32)) C.1 C.2.1 dX11_run_16 (by decide) ?_
    exact hR _ _ _ (upd f 2 (0 : Int32), g) _ _ dX11_run_17 rfl hh hw
theorem ctX11_run (l : Launch) (D : va_G) (o : Nat) (h : Nat → Nat) (cI cZ : ClassId) (f : Nat → Int32) (g : Nat → Nat → Int32) (x1 : Int32) {K : Int32 → ((Nat → Int32) × (Nat → Nat → Int32)) → Prop} (hh : wpX11_run f g x1 K) : Ci l yX11_run wsX11_run rmX11_run [.ref o, .int x1] D (mT cI cZ) (mWu o h cI cZ) (f, g) K := by
  refine Ci_of (cc := cX11_run) (maxL := 3) (by decide) rfl (Nat.le_of_ble_eq_true rfl) ?_
  intro p e s m below meth c A Q C hw hR ls hl
  exact tX11_run_b0 C hR hh hw hl
theorem cdX11_run : yX11_run.cls = RX11 ∧ yX11_run.cls ≠ "java/lang/invoke/MethodHandle" ∧ yX11_run.cls ≠ "java/lang/invoke/VarHandle" ∧ (parseMethodDescriptor yX11_run.desc).map (fun d => d.parameters.length) = some 1 := by decide +kernel
abbrev rmX11_comesIn : Room := { frames := 5, cells := 0, slots := 0, locals := 107 }
set_option maxHeartbeats 4000000 in
set_option maxRecDepth 100000 in
theorem tX11_comesIn_b2_body {B2 : (Nat → Int32) → (Nat → Nat → Int32) → Int32 → Int32 → Prop} {K : Int32 → ((Nat → Int32) × (Nat → Nat → Int32)) → Prop} (C : CallFix p m c cX11_comesIn 4 s args wsX11_comesIn RX11) (hR : Rti .int p l e rmX11_comesIn s m args below meth c cX11_comesIn D A (mT cI cZ) (mWu o h cI cZ) K Q) (hB2 : ∀ (f : Nat → Int32) (g : Nat → Nat → Int32) (x1 : Int32) (x2 : Int32) (H : Heap) (locs : List Loc) (ls : Array Slot), B2 f g x1 x2 → Wd D A s (mT cI cZ) (mW o h cI cZ f g) H locs → lv_has ls 4 [(0, .ref o), (1, .int x1), (2, .int x2)] → W p l e rmX11_comesIn s m args below meth c H locs 0 0 Q (F0 m 2 ls [])) {f : Nat → Int32} {g : Nat → Nat → Int32} {x1 : Int32} {x2 : Int32} (hh : wpX11_comesIn_b2_body B2 f g x1 x2 K) {H : Heap} {locs : List Loc} {ls : Array Slot} (hw : Wd D A s (mT cI cZ) (mW o h cI cZ f g) H locs) (hl : lv_has ls 4 [(0, .ref o), (1, .int x1), (2, .int x2)]) : W p l e rmX11_comesIn s m args below meth c H locs 0 0 Q (F0 m 2 ls []) := by
  unfold wpX11_comesIn_b2_body at hh
  refine lv_aload_n C.1 C.2.1 dX11_comesIn_2 rfl (lv_at hl 0 rfl) ?_
  refine m_gi C hw (inC inW11) 41 (by decide) (wc w_1503) mg_41 (x := f 41) rfl dX11_comesIn_3 ?_
  refine lv_aload_n C.1 C.2.1 dX11_comesIn_6 rfl (lv_at hl 0 rfl) ?_
  refine m_gi C hw (inC inW11) 40 (by decide) (wc w_1502) mg_40 (x := f 40) rfl dX11_comesIn_7 ?_
  refine lv_icmp_eq (tgt := 32) C.1 C.2.1 dX11_comesIn_10 (by decide) (fun c10 => ?_) (fun c10 => ?_)
  · replace hh := hh.1 c10
    refine lv_iload_n C.1 C.2.1 dX11_comesIn_32 rfl (lv_at hl 2 rfl) ?_
    exact hR _ _ _ (f, g) _ _ dX11_comesIn_33 rfl hh hw
  · replace hh := hh.2 c10
    refine lv_iload_n C.1 C.2.1 dX11_comesIn_13 rfl (lv_at hl 2 rfl) ?_
    refine lv_iload_n C.1 C.2.1 dX11_comesIn_14 rfl (lv_at hl 1 rfl) ?_
    refine lv_icmp_ne (tgt := 21) C.1 C.2.1 dX11_comesIn_15 (by decide) (fun c15 => ?_) (fun c15 => ?_)
    · replace hh := hh.1 c15
      refine lv_aload_n C.1 C.2.1 dX11_comesIn_21 rfl (lv_at hl 0 rfl) ?_
      refine m_Vi C hw (ctX11_ticks l D o h cI cZ f g  hh) (cwV 0 C.2.2.2.2 (gd_V w_1854 w_1856 w_85 w_125 w_1857) rfl rfl rfl cdX11_ticks ⟨Nat.le_of_ble_eq_true rfl, Nat.le_of_ble_eq_true rfl⟩) rfl hl.1 (Nat.le_of_ble_eq_true rfl) dX11_comesIn_22 ⟨Nat.zero_le _, Nat.zero_le _⟩ (fun r22 u22 H locs hh hw => ?_) rfl
      refine lv_istore_n (lv' := [(3, .int r22), (0, .ref o), (1, .int x1), (2, .int x2)]) C.1 C.2.1 dX11_comesIn_25 rfl hl (by decide) rfl (fun ls hl => ?_)
      refine lv_iinc (v := x2 + (1 : Int32)) (lv' := [(2, .int (x2 + (1 : Int32))), (3, .int r22), (0, .ref o), (1, .int x1)]) C.1 C.2.1 dX11_comesIn_26 hl (k := 3) rfl rfl (by decide) rfl (fun ls hl => ?_)
      refine lv_goto (tgt := 2) C.1 C.2.1 dX11_comesIn_29 (by decide) ?_
      exact hB2 _ _ _ _ _ _ _ hh hw (lv_sub hl [2, 3, 0] rfl)
    · replace hh := hh.2 c15
      refine lv_bipush (v := (-2 : Int32)) C.1 C.2.1 dX11_comesIn_18 (by decide) ?_
      exact hR _ _ _ (f, g) _ _ dX11_comesIn_20 rfl hh hw
theorem tX11_comesIn_b2 {K : Int32 → ((Nat → Int32) × (Nat → Nat → Int32)) → Prop} (C : CallFix p m c cX11_comesIn 4 s args wsX11_comesIn RX11) (hR : Rti .int p l e rmX11_comesIn s m args below meth c cX11_comesIn D A (mT cI cZ) (mWu o h cI cZ) K Q) (n : Nat) : ∀ (f : Nat → Int32) (g : Nat → Nat → Int32) (x1 : Int32) (x2 : Int32) (H : Heap) (locs : List Loc) (ls : Array Slot), wpX11_comesIn_b2 n f g x1 x2 K → Wd D A s (mT cI cZ) (mW o h cI cZ f g) H locs → lv_has ls 4 [(0, .ref o), (1, .int x1), (2, .int x2)] → W p l e rmX11_comesIn s m args below meth c H locs 0 0 Q (F0 m 2 ls []) := by
  induction n with
  | zero => intro f g x1 x2 H locs ls hh; exact hh.elim
  | succ n ih => intro f g x1 x2 H locs ls hh hw hl; exact tX11_comesIn_b2_body C hR ih hh hw hl
set_option maxHeartbeats 4000000 in
set_option maxRecDepth 100000 in
theorem tX11_comesIn_b0 {K : Int32 → ((Nat → Int32) × (Nat → Nat → Int32)) → Prop} (C : CallFix p m c cX11_comesIn 4 s args wsX11_comesIn RX11) (hR : Rti .int p l e rmX11_comesIn s m args below meth c cX11_comesIn D A (mT cI cZ) (mWu o h cI cZ) K Q) {f : Nat → Int32} {g : Nat → Nat → Int32} {x1 : Int32} (hh : wpX11_comesIn_b0 f g x1 K) {H : Heap} {locs : List Loc} {ls : Array Slot} (hw : Wd D A s (mT cI cZ) (mW o h cI cZ f g) H locs) (hl : lv_has ls 4 [(0, .ref o), (1, .int x1)]) : W p l e rmX11_comesIn s m args below meth c H locs 0 0 Q (F0 m 0 ls []) := by
  unfold wpX11_comesIn_b0 at hh
  refine lv_iconst (v := (0 : Int32)) C.1 C.2.1 dX11_comesIn_0 (by decide) ?_
  refine lv_istore_n (lv' := [(2, .int (0 : Int32)), (0, .ref o), (1, .int x1)]) C.1 C.2.1 dX11_comesIn_1 rfl hl (by decide) rfl (fun ls hl => ?_)
  obtain ⟨n, hh⟩ := hh
  exact tX11_comesIn_b2 C hR n _ _ _ _ _ _ _ hh hw (lv_sub hl [1, 2, 0] rfl)
theorem ctX11_comesIn (l : Launch) (D : va_G) (o : Nat) (h : Nat → Nat) (cI cZ : ClassId) (f : Nat → Int32) (g : Nat → Nat → Int32) (x1 : Int32) {K : Int32 → ((Nat → Int32) × (Nat → Nat → Int32)) → Prop} (hh : wpX11_comesIn f g x1 K) : Ci l yX11_comesIn wsX11_comesIn rmX11_comesIn [.ref o, .int x1] D (mT cI cZ) (mWu o h cI cZ) (f, g) K := by
  refine Ci_of (cc := cX11_comesIn) (maxL := 4) (by decide) rfl (Nat.le_of_ble_eq_true rfl) ?_
  intro p e s m below meth c A Q C hw hR ls hl
  exact tX11_comesIn_b0 C hR hh hw hl
theorem cdX11_comesIn : yX11_comesIn.cls = RX11 ∧ yX11_comesIn.cls ≠ "java/lang/invoke/MethodHandle" ∧ yX11_comesIn.cls ≠ "java/lang/invoke/VarHandle" ∧ (parseMethodDescriptor yX11_comesIn.desc).map (fun d => d.parameters.length) = some 1 := by decide +kernel
abbrev rmX11_mouse : Room := { frames := 0, cells := 0, slots := 0, locals := 0 }
set_option maxHeartbeats 4000000 in
set_option maxRecDepth 100000 in
theorem tX11_mouse_b0 {K : Int32 → ((Nat → Int32) × (Nat → Nat → Int32)) → Prop} (C : CallFix p m c cX11_mouse 2 s args wsX11_mouse RX11) (hR : Rti .int p l e rmX11_mouse s m args below meth c cX11_mouse D A (mT cI cZ) (mWu o h cI cZ) K Q) {f : Nat → Int32} {g : Nat → Nat → Int32} {x1 : Int32} (hh : wpX11_mouse_b0 f g x1 K) {H : Heap} {locs : List Loc} {ls : Array Slot} (hw : Wd D A s (mT cI cZ) (mW o h cI cZ f g) H locs) (hl : lv_has ls 2 [(0, .ref o), (1, .int x1)]) : W p l e rmX11_mouse s m args below meth c H locs 0 0 Q (F0 m 0 ls []) := by
  unfold wpX11_mouse_b0 at hh
  refine lv_aload_n C.1 C.2.1 dX11_mouse_0 rfl (lv_at hl 0 rfl) ?_
  refine lv_iconst (v := (0 : Int32)) C.1 C.2.1 dX11_mouse_1 (by decide) ?_
  refine m_pi C hw (inC inW11) 2 (by decide) (wc w_1464) rfl (ty := .int) (by decide +kernel) rfl rfl (Nat.le_of_ble_eq_true rfl) ms_2 dX11_mouse_2 (fun H locs hw => ?_)
  refine lv_iload_n C.1 C.2.1 dX11_mouse_5 rfl (lv_at hl 1 rfl) ?_
  refine sw_in (x := x1) (lo := 0) (hi := 4) (fun hlo hhi => ?_) (fun ho => ?_)
  · have hv : (x1).toInt = 0 ∨ (x1).toInt = 1 ∨ (x1).toInt = 2 ∨ (x1).toInt = 3 ∨ (x1).toInt = 4 := by omega
    rcases hv with hv | hv | hv | hv | hv
    · replace hh := hh.1 (sw_eq hv (by decide))
      refine lv_tableIn (off := 34) (tgt := 40) C.1 C.2.1 dX11_mouse_6 hlo hhi (by rw [hv]; rfl) (by decide) ?_
      refine lv_aload_n C.1 C.2.1 dX11_mouse_40 rfl (lv_at hl 0 rfl) ?_
      refine m_gi C hw (inC inW11) 41 (by decide) (wc w_1503) mg_41 (x := f 41) rfl dX11_mouse_41 ?_
      exact hR _ _ _ (upd f 2 (0 : Int32), g) _ _ dX11_mouse_44 rfl hh hw
    · replace hh := hh.2.1 (sw_eq hv (by decide))
      refine lv_tableIn (off := 39) (tgt := 45) C.1 C.2.1 dX11_mouse_6 hlo hhi (by rw [hv]; rfl) (by decide) ?_
      refine lv_aload_n C.1 C.2.1 dX11_mouse_45 rfl (lv_at hl 0 rfl) ?_
      refine m_gi C hw (inC inW11) 42 (by decide) (wc w_1504) mg_42 (x := f 42) rfl dX11_mouse_46 ?_
      exact hR _ _ _ (upd f 2 (0 : Int32), g) _ _ dX11_mouse_49 rfl hh hw
    · replace hh := hh.2.2.1 (sw_eq hv (by decide))
      refine lv_tableIn (off := 44) (tgt := 50) C.1 C.2.1 dX11_mouse_6 hlo hhi (by rw [hv]; rfl) (by decide) ?_
      refine lv_aload_n C.1 C.2.1 dX11_mouse_50 rfl (lv_at hl 0 rfl) ?_
      refine m_gi C hw (inC inW11) 43 (by decide) (wc w_1505) mg_43 (x := f 43) rfl dX11_mouse_51 ?_
      exact hR _ _ _ (upd f 2 (0 : Int32), g) _ _ dX11_mouse_54 rfl hh hw
    · replace hh := hh.2.2.2.1 (sw_eq hv (by decide))
      refine lv_tableIn (off := 49) (tgt := 55) C.1 C.2.1 dX11_mouse_6 hlo hhi (by rw [hv]; rfl) (by decide) ?_
      refine lv_aload_n C.1 C.2.1 dX11_mouse_55 rfl (lv_at hl 0 rfl) ?_
      refine m_gi C hw (inC inW11) 44 (by decide) (wc w_1506) mg_44 (x := f 44) rfl dX11_mouse_56 ?_
      exact hR _ _ _ (upd f 2 (0 : Int32), g) _ _ dX11_mouse_59 rfl hh hw
    · replace hh := hh.2.2.2.2.1 (sw_eq hv (by decide))
      refine lv_tableIn (off := 54) (tgt := 60) C.1 C.2.1 dX11_mouse_6 hlo hhi (by rw [hv]; rfl) (by decide) ?_
      refine lv_aload_n C.1 C.2.1 dX11_mouse_60 rfl (lv_at hl 0 rfl) ?_
      refine m_gi C hw (inC inW11) 51 (by decide) (wc w_1513) mg_51 (x := f 51) rfl dX11_mouse_61 ?_
      exact hR _ _ _ (upd f 2 (0 : Int32), g) _ _ dX11_mouse_64 rfl hh hw
  · replace hh := hh.2.2.2.2.2 ho
    refine lv_tableOut (tgt := 65) C.1 C.2.1 dX11_mouse_6 ho (by decide) ?_
    refine lv_iconst (v := (-1 : Int32)) C.1 C.2.1 dX11_mouse_65 (by decide) ?_
    exact hR _ _ _ (upd f 2 (0 : Int32), g) _ _ dX11_mouse_66 rfl hh hw
theorem ctX11_mouse (l : Launch) (D : va_G) (o : Nat) (h : Nat → Nat) (cI cZ : ClassId) (f : Nat → Int32) (g : Nat → Nat → Int32) (x1 : Int32) {K : Int32 → ((Nat → Int32) × (Nat → Nat → Int32)) → Prop} (hh : wpX11_mouse f g x1 K) : Ci l yX11_mouse wsX11_mouse rmX11_mouse [.ref o, .int x1] D (mT cI cZ) (mWu o h cI cZ) (f, g) K := by
  refine Ci_of (cc := cX11_mouse) (maxL := 2) (by decide) rfl (Nat.le_of_ble_eq_true rfl) ?_
  intro p e s m below meth c A Q C hw hR ls hl
  exact tX11_mouse_b0 C hR hh hw hl
theorem cdX11_mouse : yX11_mouse.cls = RX11 ∧ yX11_mouse.cls ≠ "java/lang/invoke/MethodHandle" ∧ yX11_mouse.cls ≠ "java/lang/invoke/VarHandle" ∧ (parseMethodDescriptor yX11_mouse.desc).map (fun d => d.parameters.length) = some 1 := by decide +kernel
abbrev rmX11_fails : Room := { frames := 0, cells := 0, slots := 0, locals := 0 }
set_option maxHeartbeats 4000000 in
set_option maxRecDepth 100000 in
theorem tX11_fails_b0 {K : Int32 → ((Nat → Int32) × (Nat → Nat → Int32)) → Prop} (C : CallFix p m c cX11_fails 2 s args wsX11_fails RX11) (hR : Rti .int p l e rmX11_fails s m args below meth c cX11_fails D A (mT cI cZ) (mWu o h cI cZ) K Q) {f : Nat → Int32} {g : Nat → Nat → Int32} {x1 : Int32} (hh : wpX11_fails_b0 f g x1 K) {H : Heap} {locs : List Loc} {ls : Array Slot} (hw : Wd D A s (mT cI cZ) (mW o h cI cZ f g) H locs) (hl : lv_has ls 2 [(0, .ref o), (1, .int x1)]) : W p l e rmX11_fails s m args below meth c H locs 0 0 Q (F0 m 0 ls []) := by
  unfold wpX11_fails_b0 at hh
  refine lv_aload_n C.1 C.2.1 dX11_fails_0 rfl (lv_at hl 0 rfl) ?_
  refine lv_iload_n C.1 C.2.1 dX11_fails_1 rfl (lv_at hl 1 rfl) ?_
  refine m_pi C hw (inC inW11) 2 (by decide) (wc w_1464) rfl (ty := .int) (by decide +kernel) rfl rfl (Nat.le_of_ble_eq_true rfl) ms_2 dX11_fails_2 (fun H locs hw => ?_)
  refine lv_iconst (v := (0 : Int32)) C.1 C.2.1 dX11_fails_5 (by decide) ?_
  exact hR _ _ _ (upd f 2 x1, g) _ _ dX11_fails_6 rfl hh hw
theorem ctX11_fails (l : Launch) (D : va_G) (o : Nat) (h : Nat → Nat) (cI cZ : ClassId) (f : Nat → Int32) (g : Nat → Nat → Int32) (x1 : Int32) {K : Int32 → ((Nat → Int32) × (Nat → Nat → Int32)) → Prop} (hh : wpX11_fails f g x1 K) : Ci l yX11_fails wsX11_fails rmX11_fails [.ref o, .int x1] D (mT cI cZ) (mWu o h cI cZ) (f, g) K := by
  refine Ci_of (cc := cX11_fails) (maxL := 2) (by decide) rfl (Nat.le_of_ble_eq_true rfl) ?_
  intro p e s m below meth c A Q C hw hR ls hl
  exact tX11_fails_b0 C hR hh hw hl
theorem cdX11_fails : yX11_fails.cls = RX11 ∧ yX11_fails.cls ≠ "java/lang/invoke/MethodHandle" ∧ yX11_fails.cls ≠ "java/lang/invoke/VarHandle" ∧ (parseMethodDescriptor yX11_fails.desc).map (fun d => d.parameters.length) = some 1 := by decide +kernel
abbrev rmX11_layFar : Room := { frames := 2, cells := 0, slots := 0, locals := 43 }
set_option maxHeartbeats 4000000 in
set_option maxRecDepth 100000 in
theorem tX11_layFar_b132 {B45 : (Nat → Int32) → (Nat → Nat → Int32) → Int32 → Int32 → Prop} {B52 : (Nat → Int32) → (Nat → Nat → Int32) → Int32 → Int32 → Int32 → Prop} {K : ((Nat → Int32) × (Nat → Nat → Int32)) → Prop} (C : CallFix p m c cX11_layFar 5 s args wsX11_layFar RX11) (hR : Rtv p l e rmX11_layFar s m args below meth c cX11_layFar D A (mT cI cZ) (mWu o h cI cZ) K Q) (hB45 : ∀ (f : Nat → Int32) (g : Nat → Nat → Int32) (x1 : Int32) (x2 : Int32) (H : Heap) (locs : List Loc) (ls : Array Slot), B45 f g x1 x2 → Wd D A s (mT cI cZ) (mW o h cI cZ f g) H locs → lv_has ls 5 [(0, .ref o), (1, .int x1), (2, .int x2)] → W p l e rmX11_layFar s m args below meth c H locs 0 0 Q (F0 m 45 ls [])) (hB52 : ∀ (f : Nat → Int32) (g : Nat → Nat → Int32) (x1 : Int32) (x2 : Int32) (x3 : Int32) (H : Heap) (locs : List Loc) (ls : Array Slot), B52 f g x1 x2 x3 → Wd D A s (mT cI cZ) (mW o h cI cZ f g) H locs → lv_has ls 5 [(0, .ref o), (1, .int x1), (2, .int x2), (3, .int x3)] → W p l e rmX11_layFar s m args below meth c H locs 0 0 Q (F0 m 52 ls [])) {f : Nat → Int32} {g : Nat → Nat → Int32} {x1 : Int32} {x2 : Int32} {x3 : Int32} (hh : wpX11_layFar_b132 B45 B52 f g x1 x2 x3 K) {H : Heap} {locs : List Loc} {ls : Array Slot} (hw : Wd D A s (mT cI cZ) (mW o h cI cZ f g) H locs) (hl : lv_has ls 5 [(0, .ref o), (1, .int x1), (2, .int x2), (3, .int x3)]) : W p l e rmX11_layFar s m args below meth c H locs 0 0 Q (F0 m 132 ls []) := by
  unfold wpX11_layFar_b132 at hh
  refine lv_iinc (v := x3 + (1 : Int32)) (lv' := [(3, .int (x3 + (1 : Int32))), (0, .ref o), (1, .int x1), (2, .int x2)]) C.1 C.2.1 dX11_layFar_132 hl (k := 3) rfl rfl (by decide) rfl (fun ls hl => ?_)
  refine lv_goto (tgt := 52) C.1 C.2.1 dX11_layFar_135 (by decide) ?_
  exact hB52 _ _ _ _ _ _ _ _ hh hw (lv_sub hl [1, 2, 3, 0] rfl)
set_option maxHeartbeats 4000000 in
set_option maxRecDepth 100000 in
theorem tX11_layFar_b52_body {B45 : (Nat → Int32) → (Nat → Nat → Int32) → Int32 → Int32 → Prop} {B52 : (Nat → Int32) → (Nat → Nat → Int32) → Int32 → Int32 → Int32 → Prop} {K : ((Nat → Int32) × (Nat → Nat → Int32)) → Prop} (C : CallFix p m c cX11_layFar 5 s args wsX11_layFar RX11) (hR : Rtv p l e rmX11_layFar s m args below meth c cX11_layFar D A (mT cI cZ) (mWu o h cI cZ) K Q) (hB45 : ∀ (f : Nat → Int32) (g : Nat → Nat → Int32) (x1 : Int32) (x2 : Int32) (H : Heap) (locs : List Loc) (ls : Array Slot), B45 f g x1 x2 → Wd D A s (mT cI cZ) (mW o h cI cZ f g) H locs → lv_has ls 5 [(0, .ref o), (1, .int x1), (2, .int x2)] → W p l e rmX11_layFar s m args below meth c H locs 0 0 Q (F0 m 45 ls [])) (hB52 : ∀ (f : Nat → Int32) (g : Nat → Nat → Int32) (x1 : Int32) (x2 : Int32) (x3 : Int32) (H : Heap) (locs : List Loc) (ls : Array Slot), B52 f g x1 x2 x3 → Wd D A s (mT cI cZ) (mW o h cI cZ f g) H locs → lv_has ls 5 [(0, .ref o), (1, .int x1), (2, .int x2), (3, .int x3)] → W p l e rmX11_layFar s m args below meth c H locs 0 0 Q (F0 m 52 ls [])) {f : Nat → Int32} {g : Nat → Nat → Int32} {x1 : Int32} {x2 : Int32} {x3 : Int32} (hh : wpX11_layFar_b52_body B45 B52 f g x1 x2 x3 K) {H : Heap} {locs : List Loc} {ls : Array Slot} (hw : Wd D A s (mT cI cZ) (mW o h cI cZ f g) H locs) (hl : lv_has ls 5 [(0, .ref o), (1, .int x1), (2, .int x2), (3, .int x3)]) : W p l e rmX11_layFar s m args below meth c H locs 0 0 Q (F0 m 52 ls []) := by
  unfold wpX11_layFar_b52_body at hh
  refine lv_iload_n C.1 C.2.1 dX11_layFar_52 rfl (lv_at hl 3 rfl) ?_
  refine lv_iconst (v := (4 : Int32)) C.1 C.2.1 dX11_layFar_53 (by decide) ?_
  refine lv_icmp_ge (tgt := 138) C.1 C.2.1 dX11_layFar_54 (by decide) (fun c54 => ?_) (fun c54 => ?_)
  · replace hh := hh.1 c54
    refine lv_iinc (v := x2 + (1 : Int32)) (lv' := [(2, .int (x2 + (1 : Int32))), (0, .ref o), (1, .int x1), (3, .int x3)]) C.1 C.2.1 dX11_layFar_138 hl (k := 2) rfl rfl (by decide) rfl (fun ls hl => ?_)
    refine lv_goto (tgt := 45) C.1 C.2.1 dX11_layFar_141 (by decide) ?_
    exact hB45 _ _ _ _ _ _ _ hh hw (lv_sub hl [1, 2, 0] rfl)
  · replace hh := hh.2 c54
    refine lv_aload_n C.1 C.2.1 dX11_layFar_57 rfl (lv_at hl 0 rfl) ?_
    refine lv_aload_n C.1 C.2.1 dX11_layFar_58 rfl (lv_at hl 0 rfl) ?_
    refine m_ga C hw (inC inW11) 55 (by decide) (wc w_1517) mg_55 dX11_layFar_59 ?_
    refine lv_iload_n C.1 C.2.1 dX11_layFar_62 rfl (lv_at hl 2 rfl) ?_
    obtain ⟨hi63, hh⟩ := hh
    refine m_ial C hw mp_55 (x := g 55 (ix x2)) hi63 rfl dX11_layFar_63 ?_
    refine lv_iload_n C.1 C.2.1 dX11_layFar_64 rfl (lv_at hl 3 rfl) ?_
    refine m_Vi C hw (ctX11_isWall l D o h cI cZ f g (g 55 (ix x2)) x3 hh) (cwV 2 C.2.2.2.2 (gd_V w_1819 w_1821 w_81 w_125 w_1822) rfl rfl rfl cdX11_isWall ⟨Nat.le_of_ble_eq_true rfl, Nat.le_of_ble_eq_true rfl⟩) rfl hl.1 (Nat.le_of_ble_eq_true rfl) dX11_layFar_65 ⟨Nat.zero_le _, Nat.zero_le _⟩ (fun r65 u65 H locs hh hw => ?_) rfl
    refine lv_if_eq (tgt := 74) C.1 C.2.1 dX11_layFar_68 (by decide) (fun c68 => ?_) (fun c68 => ?_)
    · replace hh := hh.1 c68
      refine lv_aload_n C.1 C.2.1 dX11_layFar_74 rfl (lv_at hl 0 rfl) ?_
      refine lv_aload_n C.1 C.2.1 dX11_layFar_75 rfl (lv_at hl 0 rfl) ?_
      refine m_ga C hw (inC inW11) 55 (by decide) (wc w_1517) mg_55 dX11_layFar_76 ?_
      refine lv_iload_n C.1 C.2.1 dX11_layFar_79 rfl (lv_at hl 2 rfl) ?_
      obtain ⟨hi80, hh⟩ := hh
      refine m_ial C hw mp_55 (x := u65.2 55 (ix x2)) hi80 rfl dX11_layFar_80 ?_
      refine lv_iload_n C.1 C.2.1 dX11_layFar_81 rfl (lv_at hl 3 rfl) ?_
      refine m_Vi C hw (ctX11_ahead l D o h cI cZ u65.1 u65.2 (u65.2 55 (ix x2)) x3 hh) (cwV 2 C.2.2.2.2 (gd_V w_1830 w_1832 w_83 w_125 w_1833) rfl rfl rfl cdX11_ahead ⟨Nat.le_of_ble_eq_true rfl, Nat.le_of_ble_eq_true rfl⟩) rfl hl.1 (Nat.le_of_ble_eq_true rfl) dX11_layFar_82 ⟨Nat.zero_le _, Nat.zero_le _⟩ (fun r82 u82 H locs hh hw => ?_) rfl
      refine lv_istore (lv' := [(4, .int r82), (0, .ref o), (1, .int x1), (2, .int x2), (3, .int x3)]) C.1 C.2.1 dX11_layFar_85 hl (by decide) rfl (fun ls hl => ?_)
      refine lv_aload_n C.1 C.2.1 dX11_layFar_87 rfl (lv_at hl 1 rfl) ?_
      refine m_ga C hw (inC inW11) 54 (by decide) (wc w_1516) mg_54 dX11_layFar_88 ?_
      refine lv_iload C.1 C.2.1 dX11_layFar_91 (lv_at hl 0 rfl) ?_
      obtain ⟨hi93, hh⟩ := hh
      refine m_ial C hw mp_54 (x := u82.2 54 (ix r82)) hi93 rfl dX11_layFar_93 ?_
      refine lv_iconst (v := (-1 : Int32)) C.1 C.2.1 dX11_layFar_94 (by decide) ?_
      refine lv_icmp_eq (tgt := 101) C.1 C.2.1 dX11_layFar_95 (by decide) (fun c95 => ?_) (fun c95 => ?_)
      · replace hh := hh.1 c95
        refine lv_aload_n C.1 C.2.1 dX11_layFar_101 rfl (lv_at hl 1 rfl) ?_
        refine m_ga C hw (inC inW11) 54 (by decide) (wc w_1516) mg_54 dX11_layFar_102 ?_
        refine lv_iload C.1 C.2.1 dX11_layFar_105 (lv_at hl 0 rfl) ?_
        refine lv_aload_n C.1 C.2.1 dX11_layFar_107 rfl (lv_at hl 1 rfl) ?_
        refine m_ga C hw (inC inW11) 54 (by decide) (wc w_1516) mg_54 dX11_layFar_108 ?_
        refine lv_aload_n C.1 C.2.1 dX11_layFar_111 rfl (lv_at hl 1 rfl) ?_
        refine m_ga C hw (inC inW11) 55 (by decide) (wc w_1517) mg_55 dX11_layFar_112 ?_
        refine lv_iload_n C.1 C.2.1 dX11_layFar_115 rfl (lv_at hl 3 rfl) ?_
        obtain ⟨hi116, hh⟩ := hh
        refine m_ial C hw mp_55 (x := u82.2 55 (ix x2)) hi116 rfl dX11_layFar_116 ?_
        obtain ⟨hi117, hh⟩ := hh
        refine m_ial C hw mp_54 (x := u82.2 54 (ix (u82.2 55 (ix x2)))) hi117 rfl dX11_layFar_117 ?_
        refine lv_iconst (v := (1 : Int32)) C.1 C.2.1 dX11_layFar_118 (by decide) ?_
        refine lv_iadd C.1 C.2.1 dX11_layFar_119 ?_
        obtain ⟨hi120, hh⟩ := hh
        refine m_ias C hw mp_54 mq_54 hi120 dX11_layFar_120 (fun H locs hw => ?_)
        refine lv_aload_n C.1 C.2.1 dX11_layFar_121 rfl (lv_at hl 1 rfl) ?_
        refine m_ga C hw (inC inW11) 55 (by decide) (wc w_1517) mg_55 dX11_layFar_122 ?_
        refine lv_iload_n C.1 C.2.1 dX11_layFar_125 rfl (lv_at hl 2 rfl) ?_
        refine lv_iload C.1 C.2.1 dX11_layFar_126 (lv_at hl 0 rfl) ?_
        obtain ⟨hi128, hh⟩ := hh
        refine m_ias C hw mp_55 mq_55 hi128 dX11_layFar_128 (fun H locs hw => ?_)
        refine lv_iinc (v := x1 + (1 : Int32)) (lv' := [(1, .int (x1 + (1 : Int32))), (4, .int r82), (0, .ref o), (2, .int x2), (3, .int x3)]) C.1 C.2.1 dX11_layFar_129 hl (k := 2) rfl rfl (by decide) rfl (fun ls hl => ?_)
        exact tX11_layFar_b132 C hR hB45 hB52 hh hw (lv_sub hl [2, 0, 3, 4] rfl)
      · replace hh := hh.2 c95
        refine lv_goto (tgt := 132) C.1 C.2.1 dX11_layFar_98 (by decide) ?_
        exact tX11_layFar_b132 C hR hB45 hB52 hh hw (lv_sub hl [1, 2, 3, 4] rfl)
    · replace hh := hh.2 c68
      refine lv_goto (tgt := 132) C.1 C.2.1 dX11_layFar_71 (by decide) ?_
      exact tX11_layFar_b132 C hR hB45 hB52 hh hw hl
theorem tX11_layFar_b52 {B45 : (Nat → Int32) → (Nat → Nat → Int32) → Int32 → Int32 → Prop} {K : ((Nat → Int32) × (Nat → Nat → Int32)) → Prop} (C : CallFix p m c cX11_layFar 5 s args wsX11_layFar RX11) (hR : Rtv p l e rmX11_layFar s m args below meth c cX11_layFar D A (mT cI cZ) (mWu o h cI cZ) K Q) (hB45 : ∀ (f : Nat → Int32) (g : Nat → Nat → Int32) (x1 : Int32) (x2 : Int32) (H : Heap) (locs : List Loc) (ls : Array Slot), B45 f g x1 x2 → Wd D A s (mT cI cZ) (mW o h cI cZ f g) H locs → lv_has ls 5 [(0, .ref o), (1, .int x1), (2, .int x2)] → W p l e rmX11_layFar s m args below meth c H locs 0 0 Q (F0 m 45 ls [])) (n : Nat) : ∀ (f : Nat → Int32) (g : Nat → Nat → Int32) (x1 : Int32) (x2 : Int32) (x3 : Int32) (H : Heap) (locs : List Loc) (ls : Array Slot), wpX11_layFar_b52 B45 n f g x1 x2 x3 K → Wd D A s (mT cI cZ) (mW o h cI cZ f g) H locs → lv_has ls 5 [(0, .ref o), (1, .int x1), (2, .int x2), (3, .int x3)] → W p l e rmX11_layFar s m args below meth c H locs 0 0 Q (F0 m 52 ls []) := by
  induction n with
  | zero => intro f g x1 x2 x3 H locs ls hh; exact hh.elim
  | succ n ih => intro f g x1 x2 x3 H locs ls hh hw hl; exact tX11_layFar_b52_body C hR hB45 ih hh hw hl
set_option maxHeartbeats 4000000 in
set_option maxRecDepth 100000 in
theorem tX11_layFar_b45_body {B45 : (Nat → Int32) → (Nat → Nat → Int32) → Int32 → Int32 → Prop} {K : ((Nat → Int32) × (Nat → Nat → Int32)) → Prop} (C : CallFix p m c cX11_layFar 5 s args wsX11_layFar RX11) (hR : Rtv p l e rmX11_layFar s m args below meth c cX11_layFar D A (mT cI cZ) (mWu o h cI cZ) K Q) (hB45 : ∀ (f : Nat → Int32) (g : Nat → Nat → Int32) (x1 : Int32) (x2 : Int32) (H : Heap) (locs : List Loc) (ls : Array Slot), B45 f g x1 x2 → Wd D A s (mT cI cZ) (mW o h cI cZ f g) H locs → lv_has ls 5 [(0, .ref o), (1, .int x1), (2, .int x2)] → W p l e rmX11_layFar s m args below meth c H locs 0 0 Q (F0 m 45 ls [])) {f : Nat → Int32} {g : Nat → Nat → Int32} {x1 : Int32} {x2 : Int32} (hh : wpX11_layFar_b45_body B45 f g x1 x2 K) {H : Heap} {locs : List Loc} {ls : Array Slot} (hw : Wd D A s (mT cI cZ) (mW o h cI cZ f g) H locs) (hl : lv_has ls 5 [(0, .ref o), (1, .int x1), (2, .int x2)]) : W p l e rmX11_layFar s m args below meth c H locs 0 0 Q (F0 m 45 ls []) := by
  unfold wpX11_layFar_b45_body at hh
  refine lv_iload_n C.1 C.2.1 dX11_layFar_45 rfl (lv_at hl 2 rfl) ?_
  refine lv_iload_n C.1 C.2.1 dX11_layFar_46 rfl (lv_at hl 1 rfl) ?_
  refine lv_icmp_ge (tgt := 144) C.1 C.2.1 dX11_layFar_47 (by decide) (fun c47 => ?_) (fun c47 => ?_)
  · replace hh := hh.1 c47
    exact hR _ _ (f, g) _ _ dX11_layFar_144 hh hw
  · replace hh := hh.2 c47
    refine lv_iconst (v := (0 : Int32)) C.1 C.2.1 dX11_layFar_50 (by decide) ?_
    refine lv_istore_n (lv' := [(3, .int (0 : Int32)), (0, .ref o), (1, .int x1), (2, .int x2)]) C.1 C.2.1 dX11_layFar_51 rfl hl (by decide) rfl (fun ls hl => ?_)
    obtain ⟨n, hh⟩ := hh
    exact tX11_layFar_b52 C hR hB45 n _ _ _ _ _ _ _ _ hh hw (lv_sub hl [1, 2, 3, 0] rfl)
theorem tX11_layFar_b45 {K : ((Nat → Int32) × (Nat → Nat → Int32)) → Prop} (C : CallFix p m c cX11_layFar 5 s args wsX11_layFar RX11) (hR : Rtv p l e rmX11_layFar s m args below meth c cX11_layFar D A (mT cI cZ) (mWu o h cI cZ) K Q) (n : Nat) : ∀ (f : Nat → Int32) (g : Nat → Nat → Int32) (x1 : Int32) (x2 : Int32) (H : Heap) (locs : List Loc) (ls : Array Slot), wpX11_layFar_b45 n f g x1 x2 K → Wd D A s (mT cI cZ) (mW o h cI cZ f g) H locs → lv_has ls 5 [(0, .ref o), (1, .int x1), (2, .int x2)] → W p l e rmX11_layFar s m args below meth c H locs 0 0 Q (F0 m 45 ls []) := by
  induction n with
  | zero => intro f g x1 x2 H locs ls hh; exact hh.elim
  | succ n ih => intro f g x1 x2 H locs ls hh hw hl; exact tX11_layFar_b45_body C hR ih hh hw hl
set_option maxHeartbeats 4000000 in
set_option maxRecDepth 100000 in
theorem tX11_layFar_b2_body {B2 : (Nat → Int32) → (Nat → Nat → Int32) → Int32 → Prop} {K : ((Nat → Int32) × (Nat → Nat → Int32)) → Prop} (C : CallFix p m c cX11_layFar 5 s args wsX11_layFar RX11) (hR : Rtv p l e rmX11_layFar s m args below meth c cX11_layFar D A (mT cI cZ) (mWu o h cI cZ) K Q) (hB2 : ∀ (f : Nat → Int32) (g : Nat → Nat → Int32) (x1 : Int32) (H : Heap) (locs : List Loc) (ls : Array Slot), B2 f g x1 → Wd D A s (mT cI cZ) (mW o h cI cZ f g) H locs → lv_has ls 5 [(0, .ref o), (1, .int x1)] → W p l e rmX11_layFar s m args below meth c H locs 0 0 Q (F0 m 2 ls [])) {f : Nat → Int32} {g : Nat → Nat → Int32} {x1 : Int32} (hh : wpX11_layFar_b2_body B2 f g x1 K) {H : Heap} {locs : List Loc} {ls : Array Slot} (hw : Wd D A s (mT cI cZ) (mW o h cI cZ f g) H locs) (hl : lv_has ls 5 [(0, .ref o), (1, .int x1)]) : W p l e rmX11_layFar s m args below meth c H locs 0 0 Q (F0 m 2 ls []) := by
  unfold wpX11_layFar_b2_body at hh
  refine lv_iload_n C.1 C.2.1 dX11_layFar_2 rfl (lv_at hl 1 rfl) ?_
  refine lv_bipush (v := (36 : Int32)) C.1 C.2.1 dX11_layFar_3 (by decide) ?_
  refine lv_icmp_ge (tgt := 21) C.1 C.2.1 dX11_layFar_5 (by decide) (fun c5 => ?_) (fun c5 => ?_)
  · replace hh := hh.1 c5
    refine lv_aload_n C.1 C.2.1 dX11_layFar_21 rfl (lv_at hl 0 rfl) ?_
    refine m_ga C hw (inC inW11) 54 (by decide) (wc w_1516) mg_54 dX11_layFar_22 ?_
    refine lv_aload_n C.1 C.2.1 dX11_layFar_25 rfl (lv_at hl 0 rfl) ?_
    refine m_gi C hw (inC inW11) 40 (by decide) (wc w_1502) mg_40 (x := f 40) rfl dX11_layFar_26 ?_
    refine lv_iconst (v := (0 : Int32)) C.1 C.2.1 dX11_layFar_29 (by decide) ?_
    obtain ⟨hi30, hh⟩ := hh
    refine m_ias C hw mp_54 mq_54 hi30 dX11_layFar_30 (fun H locs hw => ?_)
    refine lv_aload_n C.1 C.2.1 dX11_layFar_31 rfl (lv_at hl 0 rfl) ?_
    refine m_ga C hw (inC inW11) 55 (by decide) (wc w_1517) mg_55 dX11_layFar_32 ?_
    refine lv_iconst (v := (0 : Int32)) C.1 C.2.1 dX11_layFar_35 (by decide) ?_
    refine lv_aload_n C.1 C.2.1 dX11_layFar_36 rfl (lv_at hl 0 rfl) ?_
    refine m_gi C hw (inC inW11) 40 (by decide) (wc w_1502) mg_40 (x := f 40) rfl dX11_layFar_37 ?_
    obtain ⟨hi40, hh⟩ := hh
    refine m_ias C hw mp_55 mq_55 hi40 dX11_layFar_40 (fun H locs hw => ?_)
    refine lv_iconst (v := (1 : Int32)) C.1 C.2.1 dX11_layFar_41 (by decide) ?_
    refine lv_istore_n (lv' := [(1, .int (1 : Int32)), (0, .ref o)]) C.1 C.2.1 dX11_layFar_42 rfl hl (by decide) rfl (fun ls hl => ?_)
    refine lv_iconst (v := (0 : Int32)) C.1 C.2.1 dX11_layFar_43 (by decide) ?_
    refine lv_istore_n (lv' := [(2, .int (0 : Int32)), (1, .int (1 : Int32)), (0, .ref o)]) C.1 C.2.1 dX11_layFar_44 rfl hl (by decide) rfl (fun ls hl => ?_)
    obtain ⟨n, hh⟩ := hh
    exact tX11_layFar_b45 C hR n _ _ _ _ _ _ _ hh hw (lv_sub hl [2, 1, 0] rfl)
  · replace hh := hh.2 c5
    refine lv_aload_n C.1 C.2.1 dX11_layFar_8 rfl (lv_at hl 0 rfl) ?_
    refine m_ga C hw (inC inW11) 54 (by decide) (wc w_1516) mg_54 dX11_layFar_9 ?_
    refine lv_iload_n C.1 C.2.1 dX11_layFar_12 rfl (lv_at hl 1 rfl) ?_
    refine lv_iconst (v := (-1 : Int32)) C.1 C.2.1 dX11_layFar_13 (by decide) ?_
    obtain ⟨hi14, hh⟩ := hh
    refine m_ias C hw mp_54 mq_54 hi14 dX11_layFar_14 (fun H locs hw => ?_)
    refine lv_iinc (v := x1 + (1 : Int32)) (lv' := [(1, .int (x1 + (1 : Int32))), (0, .ref o)]) C.1 C.2.1 dX11_layFar_15 hl (k := 1) rfl rfl (by decide) rfl (fun ls hl => ?_)
    refine lv_goto (tgt := 2) C.1 C.2.1 dX11_layFar_18 (by decide) ?_
    exact hB2 _ _ _ _ _ _ hh hw (lv_sub hl [1, 0] rfl)
theorem tX11_layFar_b2 {K : ((Nat → Int32) × (Nat → Nat → Int32)) → Prop} (C : CallFix p m c cX11_layFar 5 s args wsX11_layFar RX11) (hR : Rtv p l e rmX11_layFar s m args below meth c cX11_layFar D A (mT cI cZ) (mWu o h cI cZ) K Q) (n : Nat) : ∀ (f : Nat → Int32) (g : Nat → Nat → Int32) (x1 : Int32) (H : Heap) (locs : List Loc) (ls : Array Slot), wpX11_layFar_b2 n f g x1 K → Wd D A s (mT cI cZ) (mW o h cI cZ f g) H locs → lv_has ls 5 [(0, .ref o), (1, .int x1)] → W p l e rmX11_layFar s m args below meth c H locs 0 0 Q (F0 m 2 ls []) := by
  induction n with
  | zero => intro f g x1 H locs ls hh; exact hh.elim
  | succ n ih => intro f g x1 H locs ls hh hw hl; exact tX11_layFar_b2_body C hR ih hh hw hl
set_option maxHeartbeats 4000000 in
set_option maxRecDepth 100000 in
theorem tX11_layFar_b0 {K : ((Nat → Int32) × (Nat → Nat → Int32)) → Prop} (C : CallFix p m c cX11_layFar 5 s args wsX11_layFar RX11) (hR : Rtv p l e rmX11_layFar s m args below meth c cX11_layFar D A (mT cI cZ) (mWu o h cI cZ) K Q) {f : Nat → Int32} {g : Nat → Nat → Int32} (hh : wpX11_layFar_b0 f g K) {H : Heap} {locs : List Loc} {ls : Array Slot} (hw : Wd D A s (mT cI cZ) (mW o h cI cZ f g) H locs) (hl : lv_has ls 5 [(0, .ref o)]) : W p l e rmX11_layFar s m args below meth c H locs 0 0 Q (F0 m 0 ls []) := by
  unfold wpX11_layFar_b0 at hh
  refine lv_iconst (v := (0 : Int32)) C.1 C.2.1 dX11_layFar_0 (by decide) ?_
  refine lv_istore_n (lv' := [(1, .int (0 : Int32)), (0, .ref o)]) C.1 C.2.1 dX11_layFar_1 rfl hl (by decide) rfl (fun ls hl => ?_)
  obtain ⟨n, hh⟩ := hh
  exact tX11_layFar_b2 C hR n _ _ _ _ _ _ hh hw (lv_sub hl [1, 0] rfl)
theorem ctX11_layFar (l : Launch) (D : va_G) (o : Nat) (h : Nat → Nat) (cI cZ : ClassId) (f : Nat → Int32) (g : Nat → Nat → Int32) {K : ((Nat → Int32) × (Nat → Nat → Int32)) → Prop} (hh : wpX11_layFar f g K) : Cv l yX11_layFar wsX11_layFar rmX11_layFar [.ref o] D (mT cI cZ) (mWu o h cI cZ) (f, g) K := by
  refine Cv_of (cc := cX11_layFar) (maxL := 5) (by decide) rfl (Nat.le_of_ble_eq_true rfl) ?_
  intro p e s m below meth c A Q C hw hR ls hl
  exact tX11_layFar_b0 C hR hh hw hl
theorem cdX11_layFar : yX11_layFar.cls = RX11 ∧ yX11_layFar.cls ≠ "java/lang/invoke/MethodHandle" ∧ yX11_layFar.cls ≠ "java/lang/invoke/VarHandle" ∧ (parseMethodDescriptor yX11_layFar.desc).map (fun d => d.parameters.length) = some 0 := by decide +kernel
abbrev rmX11_look : Room := { frames := 3, cells := 0, slots := 0, locals := 67 }
set_option maxHeartbeats 4000000 in
set_option maxRecDepth 100000 in
theorem tX11_look_b0 {K : Int32 → ((Nat → Int32) × (Nat → Nat → Int32)) → Prop} (C : CallFix p m c cX11_look 3 s args wsX11_look RX11) (hR : Rti .int p l e rmX11_look s m args below meth c cX11_look D A (mT cI cZ) (mWu o h cI cZ) K Q) {f : Nat → Int32} {g : Nat → Nat → Int32} {x1 : Int32} {x2 : Int32} (hh : wpX11_look_b0 f g x1 x2 K) {H : Heap} {locs : List Loc} {ls : Array Slot} (hw : Wd D A s (mT cI cZ) (mW o h cI cZ f g) H locs) (hl : lv_has ls 3 [(0, .ref o), (1, .int x1), (2, .int x2)]) : W p l e rmX11_look s m args below meth c H locs 0 0 Q (F0 m 0 ls []) := by
  unfold wpX11_look_b0 at hh
  refine lv_aload_n C.1 C.2.1 dX11_look_0 rfl (lv_at hl 0 rfl) ?_
  refine lv_iconst (v := (0 : Int32)) C.1 C.2.1 dX11_look_1 (by decide) ?_
  refine m_pi C hw (inC inW11) 2 (by decide) (wc w_1464) rfl (ty := .int) (by decide +kernel) rfl rfl (Nat.le_of_ble_eq_true rfl) ms_2 dX11_look_2 (fun H locs hw => ?_)
  refine lv_aload_n C.1 C.2.1 dX11_look_5 rfl (lv_at hl 0 rfl) ?_
  refine lv_iload_n C.1 C.2.1 dX11_look_6 rfl (lv_at hl 1 rfl) ?_
  refine m_Vi C hw (ctX11_isSquare l D o h cI cZ (upd f 2 (0 : Int32)) g x1 hh) (cwV 1 C.2.2.2.2 (gd_V w_1811 w_1813 w_79 w_125 w_1814) rfl rfl rfl cdX11_isSquare ⟨Nat.le_of_ble_eq_true rfl, Nat.le_of_ble_eq_true rfl⟩) rfl hl.1 (Nat.le_of_ble_eq_true rfl) dX11_look_7 ⟨Nat.zero_le _, Nat.zero_le _⟩ (fun r7 u7 H locs hh hw => ?_) rfl
  refine lv_if_ne (tgt := 19) C.1 C.2.1 dX11_look_10 (by decide) (fun c10 => ?_) (fun c10 => ?_)
  · replace hh := hh.1 c10
    refine lv_iload_n C.1 C.2.1 dX11_look_19 rfl (lv_at hl 2 rfl) ?_
    refine sw_in (x := x2) (lo := 0) (hi := 3) (fun hlo hhi => ?_) (fun ho => ?_)
    · have hv : (x2).toInt = 0 ∨ (x2).toInt = 1 ∨ (x2).toInt = 2 ∨ (x2).toInt = 3 := by omega
      rcases hv with hv | hv | hv | hv
      · replace hh := hh.1 (sw_eq hv (by decide))
        refine lv_tableIn (off := 32) (tgt := 52) C.1 C.2.1 dX11_look_20 hlo hhi (by rw [hv]; rfl) (by decide) ?_
        refine lv_aload_n C.1 C.2.1 dX11_look_52 rfl (lv_at hl 0 rfl) ?_
        refine m_ga C hw (inC inW11) 47 (by decide) (wc w_1509) mg_47 dX11_look_53 ?_
        refine lv_iload_n C.1 C.2.1 dX11_look_56 rfl (lv_at hl 1 rfl) ?_
        obtain ⟨hi57, hh⟩ := hh
        refine m_ial C hw mp_47 (x := u7.2 47 (ix x1)) hi57 rfl dX11_look_57 ?_
        exact hR _ _ _ (u7.1, u7.2) _ _ dX11_look_58 rfl hh hw
      · replace hh := hh.2.1 (sw_eq hv (by decide))
        refine lv_tableIn (off := 39) (tgt := 59) C.1 C.2.1 dX11_look_20 hlo hhi (by rw [hv]; rfl) (by decide) ?_
        refine lv_aload_n C.1 C.2.1 dX11_look_59 rfl (lv_at hl 0 rfl) ?_
        refine m_ga C hw (inC inW11) 48 (by decide) (wc w_1510) mg_48 dX11_look_60 ?_
        refine lv_iload_n C.1 C.2.1 dX11_look_63 rfl (lv_at hl 1 rfl) ?_
        obtain ⟨hi64, hh⟩ := hh
        refine m_ial C hw mp_48 (x := u7.2 48 (ix x1)) hi64 rfl dX11_look_64 ?_
        exact hR _ _ _ (u7.1, u7.2) _ _ dX11_look_65 rfl hh hw
      · replace hh := hh.2.2.1 (sw_eq hv (by decide))
        refine lv_tableIn (off := 46) (tgt := 66) C.1 C.2.1 dX11_look_20 hlo hhi (by rw [hv]; rfl) (by decide) ?_
        refine lv_aload_n C.1 C.2.1 dX11_look_66 rfl (lv_at hl 0 rfl) ?_
        refine m_ga C hw (inC inW11) 46 (by decide) (wc w_1508) mg_46 dX11_look_67 ?_
        refine lv_iload_n C.1 C.2.1 dX11_look_70 rfl (lv_at hl 1 rfl) ?_
        obtain ⟨hi71, hh⟩ := hh
        refine m_ial C hw mp_46 (x := u7.2 46 (ix x1)) hi71 rfl dX11_look_71 ?_
        exact hR _ _ _ (u7.1, u7.2) _ _ dX11_look_72 rfl hh hw
      · replace hh := hh.2.2.2.1 (sw_eq hv (by decide))
        refine lv_tableIn (off := 53) (tgt := 73) C.1 C.2.1 dX11_look_20 hlo hhi (by rw [hv]; rfl) (by decide) ?_
        refine lv_aload_n C.1 C.2.1 dX11_look_73 rfl (lv_at hl 0 rfl) ?_
        refine m_Vv C hw (ctX11_layFar l D o h cI cZ u7.1 u7.2  hh) (cwV 0 C.2.2.2.2 (gd_V w_1886 w_1888 w_90 w_125 w_1889) rfl rfl rfl cdX11_layFar ⟨Nat.le_of_ble_eq_true rfl, Nat.le_of_ble_eq_true rfl⟩) rfl hl.1 (Nat.le_of_ble_eq_true rfl) dX11_look_74 ⟨Nat.zero_le _, Nat.zero_le _⟩ (fun u74 H locs hh hw => ?_) rfl
        refine lv_aload_n C.1 C.2.1 dX11_look_77 rfl (lv_at hl 0 rfl) ?_
        refine m_ga C hw (inC inW11) 54 (by decide) (wc w_1516) mg_54 dX11_look_78 ?_
        refine lv_iload_n C.1 C.2.1 dX11_look_81 rfl (lv_at hl 1 rfl) ?_
        obtain ⟨hi82, hh⟩ := hh
        refine m_ial C hw mp_54 (x := u74.2 54 (ix x1)) hi82 rfl dX11_look_82 ?_
        exact hR _ _ _ (u74.1, u74.2) _ _ dX11_look_83 rfl hh hw
    · replace hh := hh.2.2.2.2 ho
      refine lv_tableOut (tgt := 84) C.1 C.2.1 dX11_look_20 ho (by decide) ?_
      refine lv_aload_n C.1 C.2.1 dX11_look_84 rfl (lv_at hl 0 rfl) ?_
      refine lv_iconst (v := (2 : Int32)) C.1 C.2.1 dX11_look_85 (by decide) ?_
      refine m_Vi C hw (ctX11_fails l D o h cI cZ u7.1 u7.2 (2 : Int32) hh) (cwV 1 C.2.2.2.2 (gd_V w_1882 w_1884 w_89 w_125 w_1885) rfl rfl rfl cdX11_fails ⟨Nat.le_of_ble_eq_true rfl, Nat.le_of_ble_eq_true rfl⟩) rfl hl.1 (Nat.le_of_ble_eq_true rfl) dX11_look_86 ⟨Nat.zero_le _, Nat.zero_le _⟩ (fun r86 u86 H locs hh hw => ?_) rfl
      exact hR _ _ _ (u86.1, u86.2) _ _ dX11_look_89 rfl hh hw
  · replace hh := hh.2 c10
    refine lv_aload_n C.1 C.2.1 dX11_look_13 rfl (lv_at hl 0 rfl) ?_
    refine lv_iconst (v := (1 : Int32)) C.1 C.2.1 dX11_look_14 (by decide) ?_
    refine m_Vi C hw (ctX11_fails l D o h cI cZ u7.1 u7.2 (1 : Int32) hh) (cwV 1 C.2.2.2.2 (gd_V w_1882 w_1884 w_89 w_125 w_1885) rfl rfl rfl cdX11_fails ⟨Nat.le_of_ble_eq_true rfl, Nat.le_of_ble_eq_true rfl⟩) rfl hl.1 (Nat.le_of_ble_eq_true rfl) dX11_look_15 ⟨Nat.zero_le _, Nat.zero_le _⟩ (fun r15 u15 H locs hh hw => ?_) rfl
    exact hR _ _ _ (u15.1, u15.2) _ _ dX11_look_18 rfl hh hw
theorem ctX11_look (l : Launch) (D : va_G) (o : Nat) (h : Nat → Nat) (cI cZ : ClassId) (f : Nat → Int32) (g : Nat → Nat → Int32) (x1 : Int32) (x2 : Int32) {K : Int32 → ((Nat → Int32) × (Nat → Nat → Int32)) → Prop} (hh : wpX11_look f g x1 x2 K) : Ci l yX11_look wsX11_look rmX11_look [.ref o, .int x1, .int x2] D (mT cI cZ) (mWu o h cI cZ) (f, g) K := by
  refine Ci_of (cc := cX11_look) (maxL := 3) (by decide) rfl (Nat.le_of_ble_eq_true rfl) ?_
  intro p e s m below meth c A Q C hw hR ls hl
  exact tX11_look_b0 C hR hh hw hl
theorem cdX11_look : yX11_look.cls = RX11 ∧ yX11_look.cls ≠ "java/lang/invoke/MethodHandle" ∧ yX11_look.cls ≠ "java/lang/invoke/VarHandle" ∧ (parseMethodDescriptor yX11_look.desc).map (fun d => d.parameters.length) = some 2 := by decide +kernel
abbrev rmX11_puts : Room := { frames := 0, cells := 0, slots := 0, locals := 0 }
set_option maxHeartbeats 4000000 in
set_option maxRecDepth 100000 in
theorem tX11_puts_b103_body {B103 : (Nat → Int32) → (Nat → Nat → Int32) → Int32 → Int32 → Prop} {K : ((Nat → Int32) × (Nat → Nat → Int32)) → Prop} (C : CallFix p m c cX11_puts 4 s args wsX11_puts RX11) (hR : Rtv p l e rmX11_puts s m args below meth c cX11_puts D A (mT cI cZ) (mWu o h cI cZ) K Q) (hB103 : ∀ (f : Nat → Int32) (g : Nat → Nat → Int32) (x2 : Int32) (x3 : Int32) (H : Heap) (locs : List Loc) (ls : Array Slot), B103 f g x2 x3 → Wd D A s (mT cI cZ) (mW o h cI cZ f g) H locs → lv_has ls 4 [(0, .ref o), (2, .int x2), (3, .int x3)] → W p l e rmX11_puts s m args below meth c H locs 0 0 Q (F0 m 103 ls [])) {f : Nat → Int32} {g : Nat → Nat → Int32} {x2 : Int32} {x3 : Int32} (hh : wpX11_puts_b103_body B103 f g x2 x3 K) {H : Heap} {locs : List Loc} {ls : Array Slot} (hw : Wd D A s (mT cI cZ) (mW o h cI cZ f g) H locs) (hl : lv_has ls 4 [(0, .ref o), (2, .int x2), (3, .int x3)]) : W p l e rmX11_puts s m args below meth c H locs 0 0 Q (F0 m 103 ls []) := by
  unfold wpX11_puts_b103_body at hh
  refine lv_iload_n C.1 C.2.1 dX11_puts_103 rfl (lv_at hl 2 rfl) ?_
  refine lv_bipush (v := (36 : Int32)) C.1 C.2.1 dX11_puts_104 (by decide) ?_
  refine lv_icmp_ge (tgt := 166) C.1 C.2.1 dX11_puts_106 (by decide) (fun c106 => ?_) (fun c106 => ?_)
  · replace hh := hh.1 c106
    exact hR _ _ (f, g) _ _ dX11_puts_166 hh hw
  · replace hh := hh.2 c106
    refine lv_aload_n C.1 C.2.1 dX11_puts_109 rfl (lv_at hl 0 rfl) ?_
    refine m_ga C hw (inC inW11) 57 (by decide) (wc w_1519) mg_57 dX11_puts_110 ?_
    refine lv_iload_n C.1 C.2.1 dX11_puts_113 rfl (lv_at hl 1 rfl) ?_
    refine lv_bipush (v := (8 : Int32)) C.1 C.2.1 dX11_puts_114 (by decide) ?_
    refine lv_iadd C.1 C.2.1 dX11_puts_116 ?_
    refine lv_iload_n C.1 C.2.1 dX11_puts_117 rfl (lv_at hl 2 rfl) ?_
    refine lv_iadd C.1 C.2.1 dX11_puts_118 ?_
    refine lv_aload_n C.1 C.2.1 dX11_puts_119 rfl (lv_at hl 0 rfl) ?_
    refine m_ga C hw (inC inW11) 46 (by decide) (wc w_1508) mg_46 dX11_puts_120 ?_
    refine lv_iload_n C.1 C.2.1 dX11_puts_123 rfl (lv_at hl 2 rfl) ?_
    obtain ⟨hi124, hh⟩ := hh
    refine m_ial C hw mp_46 (x := g 46 (ix x3)) hi124 rfl dX11_puts_124 ?_
    obtain ⟨hi125, hh⟩ := hh
    refine m_ias C hw mp_57 mq_57 hi125 dX11_puts_125 (fun H locs hw => ?_)
    refine lv_aload_n C.1 C.2.1 dX11_puts_126 rfl (lv_at hl 0 rfl) ?_
    refine m_ga C hw (inC inW11) 57 (by decide) (wc w_1519) mg_57 dX11_puts_127 ?_
    refine lv_iload_n C.1 C.2.1 dX11_puts_130 rfl (lv_at hl 1 rfl) ?_
    refine lv_bipush (v := (44 : Int32)) C.1 C.2.1 dX11_puts_131 (by decide) ?_
    refine lv_iadd C.1 C.2.1 dX11_puts_133 ?_
    refine lv_iload_n C.1 C.2.1 dX11_puts_134 rfl (lv_at hl 2 rfl) ?_
    refine lv_iadd C.1 C.2.1 dX11_puts_135 ?_
    refine lv_aload_n C.1 C.2.1 dX11_puts_136 rfl (lv_at hl 0 rfl) ?_
    refine m_ga C hw (inC inW11) 47 (by decide) (wc w_1509) mg_47 dX11_puts_137 ?_
    refine lv_iload_n C.1 C.2.1 dX11_puts_140 rfl (lv_at hl 2 rfl) ?_
    obtain ⟨hi141, hh⟩ := hh
    refine m_ial C hw mp_47 (x := g 47 (ix x3)) hi141 rfl dX11_puts_141 ?_
    obtain ⟨hi142, hh⟩ := hh
    refine m_ias C hw mp_57 mq_57 hi142 dX11_puts_142 (fun H locs hw => ?_)
    refine lv_aload_n C.1 C.2.1 dX11_puts_143 rfl (lv_at hl 0 rfl) ?_
    refine m_ga C hw (inC inW11) 57 (by decide) (wc w_1519) mg_57 dX11_puts_144 ?_
    refine lv_iload_n C.1 C.2.1 dX11_puts_147 rfl (lv_at hl 1 rfl) ?_
    refine lv_bipush (v := (80 : Int32)) C.1 C.2.1 dX11_puts_148 (by decide) ?_
    refine lv_iadd C.1 C.2.1 dX11_puts_150 ?_
    refine lv_iload_n C.1 C.2.1 dX11_puts_151 rfl (lv_at hl 2 rfl) ?_
    refine lv_iadd C.1 C.2.1 dX11_puts_152 ?_
    refine lv_aload_n C.1 C.2.1 dX11_puts_153 rfl (lv_at hl 0 rfl) ?_
    refine m_ga C hw (inC inW11) 48 (by decide) (wc w_1510) mg_48 dX11_puts_154 ?_
    refine lv_iload_n C.1 C.2.1 dX11_puts_157 rfl (lv_at hl 2 rfl) ?_
    obtain ⟨hi158, hh⟩ := hh
    refine m_ial C hw mp_48 (x := g 48 (ix x3)) hi158 rfl dX11_puts_158 ?_
    obtain ⟨hi159, hh⟩ := hh
    refine m_ias C hw mp_57 mq_57 hi159 dX11_puts_159 (fun H locs hw => ?_)
    refine lv_iinc (v := x3 + (1 : Int32)) (lv' := [(3, .int (x3 + (1 : Int32))), (0, .ref o), (2, .int x2)]) C.1 C.2.1 dX11_puts_160 hl (k := 2) rfl rfl (by decide) rfl (fun ls hl => ?_)
    refine lv_goto (tgt := 103) C.1 C.2.1 dX11_puts_163 (by decide) ?_
    exact hB103 _ _ _ _ _ _ _ hh hw (lv_sub hl [1, 2, 0] rfl)
theorem tX11_puts_b103 {K : ((Nat → Int32) × (Nat → Nat → Int32)) → Prop} (C : CallFix p m c cX11_puts 4 s args wsX11_puts RX11) (hR : Rtv p l e rmX11_puts s m args below meth c cX11_puts D A (mT cI cZ) (mWu o h cI cZ) K Q) (n : Nat) : ∀ (f : Nat → Int32) (g : Nat → Nat → Int32) (x2 : Int32) (x3 : Int32) (H : Heap) (locs : List Loc) (ls : Array Slot), wpX11_puts_b103 n f g x2 x3 K → Wd D A s (mT cI cZ) (mW o h cI cZ f g) H locs → lv_has ls 4 [(0, .ref o), (2, .int x2), (3, .int x3)] → W p l e rmX11_puts s m args below meth c H locs 0 0 Q (F0 m 103 ls []) := by
  induction n with
  | zero => intro f g x2 x3 H locs ls hh; exact hh.elim
  | succ n ih => intro f g x2 x3 H locs ls hh hw hl; exact tX11_puts_b103_body C hR ih hh hw hl
set_option maxHeartbeats 4000000 in
set_option maxRecDepth 100000 in
theorem tX11_puts_b0 {K : ((Nat → Int32) × (Nat → Nat → Int32)) → Prop} (C : CallFix p m c cX11_puts 4 s args wsX11_puts RX11) (hR : Rtv p l e rmX11_puts s m args below meth c cX11_puts D A (mT cI cZ) (mWu o h cI cZ) K Q) {f : Nat → Int32} {g : Nat → Nat → Int32} {x1 : Int32} (hh : wpX11_puts_b0 f g x1 K) {H : Heap} {locs : List Loc} {ls : Array Slot} (hw : Wd D A s (mT cI cZ) (mW o h cI cZ f g) H locs) (hl : lv_has ls 4 [(0, .ref o), (1, .int x1)]) : W p l e rmX11_puts s m args below meth c H locs 0 0 Q (F0 m 0 ls []) := by
  unfold wpX11_puts_b0 at hh
  refine lv_bipush (v := (120 : Int32)) C.1 C.2.1 dX11_puts_0 (by decide) ?_
  refine lv_iload_n C.1 C.2.1 dX11_puts_2 rfl (lv_at hl 1 rfl) ?_
  refine lv_imul C.1 C.2.1 dX11_puts_3 ?_
  refine lv_istore_n (lv' := [(2, .int ((120 : Int32) * x1)), (0, .ref o), (1, .int x1)]) C.1 C.2.1 dX11_puts_4 rfl hl (by decide) rfl (fun ls hl => ?_)
  refine lv_aload_n C.1 C.2.1 dX11_puts_5 rfl (lv_at hl 1 rfl) ?_
  refine m_ga C hw (inC inW11) 57 (by decide) (wc w_1519) mg_57 dX11_puts_6 ?_
  refine lv_iload_n C.1 C.2.1 dX11_puts_9 rfl (lv_at hl 0 rfl) ?_
  refine lv_aload_n C.1 C.2.1 dX11_puts_10 rfl (lv_at hl 1 rfl) ?_
  refine m_gi C hw (inC inW11) 38 (by decide) (wc w_1500) mg_38 (x := f 38) rfl dX11_puts_11 ?_
  obtain ⟨hi14, hh⟩ := hh
  refine m_ias C hw mp_57 mq_57 hi14 dX11_puts_14 (fun H locs hw => ?_)
  refine lv_aload_n C.1 C.2.1 dX11_puts_15 rfl (lv_at hl 1 rfl) ?_
  refine m_ga C hw (inC inW11) 57 (by decide) (wc w_1519) mg_57 dX11_puts_16 ?_
  refine lv_iload_n C.1 C.2.1 dX11_puts_19 rfl (lv_at hl 0 rfl) ?_
  refine lv_iconst (v := (1 : Int32)) C.1 C.2.1 dX11_puts_20 (by decide) ?_
  refine lv_iadd C.1 C.2.1 dX11_puts_21 ?_
  refine lv_aload_n C.1 C.2.1 dX11_puts_22 rfl (lv_at hl 1 rfl) ?_
  refine m_gi C hw (inC inW11) 39 (by decide) (wc w_1501) mg_39 (x := f 39) rfl dX11_puts_23 ?_
  obtain ⟨hi26, hh⟩ := hh
  refine m_ias C hw mp_57 mq_57 hi26 dX11_puts_26 (fun H locs hw => ?_)
  refine lv_aload_n C.1 C.2.1 dX11_puts_27 rfl (lv_at hl 1 rfl) ?_
  refine m_ga C hw (inC inW11) 57 (by decide) (wc w_1519) mg_57 dX11_puts_28 ?_
  refine lv_iload_n C.1 C.2.1 dX11_puts_31 rfl (lv_at hl 0 rfl) ?_
  refine lv_iconst (v := (2 : Int32)) C.1 C.2.1 dX11_puts_32 (by decide) ?_
  refine lv_iadd C.1 C.2.1 dX11_puts_33 ?_
  refine lv_aload_n C.1 C.2.1 dX11_puts_34 rfl (lv_at hl 1 rfl) ?_
  refine m_gi C hw (inC inW11) 40 (by decide) (wc w_1502) mg_40 (x := f 40) rfl dX11_puts_35 ?_
  obtain ⟨hi38, hh⟩ := hh
  refine m_ias C hw mp_57 mq_57 hi38 dX11_puts_38 (fun H locs hw => ?_)
  refine lv_aload_n C.1 C.2.1 dX11_puts_39 rfl (lv_at hl 1 rfl) ?_
  refine m_ga C hw (inC inW11) 57 (by decide) (wc w_1519) mg_57 dX11_puts_40 ?_
  refine lv_iload_n C.1 C.2.1 dX11_puts_43 rfl (lv_at hl 0 rfl) ?_
  refine lv_iconst (v := (3 : Int32)) C.1 C.2.1 dX11_puts_44 (by decide) ?_
  refine lv_iadd C.1 C.2.1 dX11_puts_45 ?_
  refine lv_aload_n C.1 C.2.1 dX11_puts_46 rfl (lv_at hl 1 rfl) ?_
  refine m_gi C hw (inC inW11) 41 (by decide) (wc w_1503) mg_41 (x := f 41) rfl dX11_puts_47 ?_
  obtain ⟨hi50, hh⟩ := hh
  refine m_ias C hw mp_57 mq_57 hi50 dX11_puts_50 (fun H locs hw => ?_)
  refine lv_aload_n C.1 C.2.1 dX11_puts_51 rfl (lv_at hl 1 rfl) ?_
  refine m_ga C hw (inC inW11) 57 (by decide) (wc w_1519) mg_57 dX11_puts_52 ?_
  refine lv_iload_n C.1 C.2.1 dX11_puts_55 rfl (lv_at hl 0 rfl) ?_
  refine lv_iconst (v := (4 : Int32)) C.1 C.2.1 dX11_puts_56 (by decide) ?_
  refine lv_iadd C.1 C.2.1 dX11_puts_57 ?_
  refine lv_aload_n C.1 C.2.1 dX11_puts_58 rfl (lv_at hl 1 rfl) ?_
  refine m_gi C hw (inC inW11) 42 (by decide) (wc w_1504) mg_42 (x := f 42) rfl dX11_puts_59 ?_
  obtain ⟨hi62, hh⟩ := hh
  refine m_ias C hw mp_57 mq_57 hi62 dX11_puts_62 (fun H locs hw => ?_)
  refine lv_aload_n C.1 C.2.1 dX11_puts_63 rfl (lv_at hl 1 rfl) ?_
  refine m_ga C hw (inC inW11) 57 (by decide) (wc w_1519) mg_57 dX11_puts_64 ?_
  refine lv_iload_n C.1 C.2.1 dX11_puts_67 rfl (lv_at hl 0 rfl) ?_
  refine lv_iconst (v := (5 : Int32)) C.1 C.2.1 dX11_puts_68 (by decide) ?_
  refine lv_iadd C.1 C.2.1 dX11_puts_69 ?_
  refine lv_aload_n C.1 C.2.1 dX11_puts_70 rfl (lv_at hl 1 rfl) ?_
  refine m_gi C hw (inC inW11) 43 (by decide) (wc w_1505) mg_43 (x := f 43) rfl dX11_puts_71 ?_
  obtain ⟨hi74, hh⟩ := hh
  refine m_ias C hw mp_57 mq_57 hi74 dX11_puts_74 (fun H locs hw => ?_)
  refine lv_aload_n C.1 C.2.1 dX11_puts_75 rfl (lv_at hl 1 rfl) ?_
  refine m_ga C hw (inC inW11) 57 (by decide) (wc w_1519) mg_57 dX11_puts_76 ?_
  refine lv_iload_n C.1 C.2.1 dX11_puts_79 rfl (lv_at hl 0 rfl) ?_
  refine lv_bipush (v := (6 : Int32)) C.1 C.2.1 dX11_puts_80 (by decide) ?_
  refine lv_iadd C.1 C.2.1 dX11_puts_82 ?_
  refine lv_aload_n C.1 C.2.1 dX11_puts_83 rfl (lv_at hl 1 rfl) ?_
  refine m_gi C hw (inC inW11) 44 (by decide) (wc w_1506) mg_44 (x := f 44) rfl dX11_puts_84 ?_
  obtain ⟨hi87, hh⟩ := hh
  refine m_ias C hw mp_57 mq_57 hi87 dX11_puts_87 (fun H locs hw => ?_)
  refine lv_aload_n C.1 C.2.1 dX11_puts_88 rfl (lv_at hl 1 rfl) ?_
  refine m_ga C hw (inC inW11) 57 (by decide) (wc w_1519) mg_57 dX11_puts_89 ?_
  refine lv_iload_n C.1 C.2.1 dX11_puts_92 rfl (lv_at hl 0 rfl) ?_
  refine lv_bipush (v := (7 : Int32)) C.1 C.2.1 dX11_puts_93 (by decide) ?_
  refine lv_iadd C.1 C.2.1 dX11_puts_95 ?_
  refine lv_aload_n C.1 C.2.1 dX11_puts_96 rfl (lv_at hl 1 rfl) ?_
  refine m_gi C hw (inC inW11) 45 (by decide) (wc w_1507) mg_45 (x := f 45) rfl dX11_puts_97 ?_
  obtain ⟨hi100, hh⟩ := hh
  refine m_ias C hw mp_57 mq_57 hi100 dX11_puts_100 (fun H locs hw => ?_)
  refine lv_iconst (v := (0 : Int32)) C.1 C.2.1 dX11_puts_101 (by decide) ?_
  refine lv_istore_n (lv' := [(3, .int (0 : Int32)), (2, .int ((120 : Int32) * x1)), (0, .ref o), (1, .int x1)]) C.1 C.2.1 dX11_puts_102 rfl hl (by decide) rfl (fun ls hl => ?_)
  obtain ⟨n, hh⟩ := hh
  exact tX11_puts_b103 C hR n _ _ _ _ _ _ _ hh hw (lv_sub hl [2, 1, 0] rfl)
theorem ctX11_puts (l : Launch) (D : va_G) (o : Nat) (h : Nat → Nat) (cI cZ : ClassId) (f : Nat → Int32) (g : Nat → Nat → Int32) (x1 : Int32) {K : ((Nat → Int32) × (Nat → Nat → Int32)) → Prop} (hh : wpX11_puts f g x1 K) : Cv l yX11_puts wsX11_puts rmX11_puts [.ref o, .int x1] D (mT cI cZ) (mWu o h cI cZ) (f, g) K := by
  refine Cv_of (cc := cX11_puts) (maxL := 4) (by decide) rfl (Nat.le_of_ble_eq_true rfl) ?_
  intro p e s m below meth c A Q C hw hR ls hl
  exact tX11_puts_b0 C hR hh hw hl
theorem cdX11_puts : yX11_puts.cls = RX11 ∧ yX11_puts.cls ≠ "java/lang/invoke/MethodHandle" ∧ yX11_puts.cls ≠ "java/lang/invoke/VarHandle" ∧ (parseMethodDescriptor yX11_puts.desc).map (fun d => d.parameters.length) = some 1 := by decide +kernel
abbrev rmX11_takes : Room := { frames := 0, cells := 0, slots := 0, locals := 0 }
set_option maxHeartbeats 4000000 in
set_option maxRecDepth 100000 in
theorem tX11_takes_b103_body {B103 : (Nat → Int32) → (Nat → Nat → Int32) → Int32 → Int32 → Prop} {K : ((Nat → Int32) × (Nat → Nat → Int32)) → Prop} (C : CallFix p m c cX11_takes 4 s args wsX11_takes RX11) (hR : Rtv p l e rmX11_takes s m args below meth c cX11_takes D A (mT cI cZ) (mWu o h cI cZ) K Q) (hB103 : ∀ (f : Nat → Int32) (g : Nat → Nat → Int32) (x2 : Int32) (x3 : Int32) (H : Heap) (locs : List Loc) (ls : Array Slot), B103 f g x2 x3 → Wd D A s (mT cI cZ) (mW o h cI cZ f g) H locs → lv_has ls 4 [(0, .ref o), (2, .int x2), (3, .int x3)] → W p l e rmX11_takes s m args below meth c H locs 0 0 Q (F0 m 103 ls [])) {f : Nat → Int32} {g : Nat → Nat → Int32} {x2 : Int32} {x3 : Int32} (hh : wpX11_takes_b103_body B103 f g x2 x3 K) {H : Heap} {locs : List Loc} {ls : Array Slot} (hw : Wd D A s (mT cI cZ) (mW o h cI cZ f g) H locs) (hl : lv_has ls 4 [(0, .ref o), (2, .int x2), (3, .int x3)]) : W p l e rmX11_takes s m args below meth c H locs 0 0 Q (F0 m 103 ls []) := by
  unfold wpX11_takes_b103_body at hh
  refine lv_iload_n C.1 C.2.1 dX11_takes_103 rfl (lv_at hl 2 rfl) ?_
  refine lv_bipush (v := (36 : Int32)) C.1 C.2.1 dX11_takes_104 (by decide) ?_
  refine lv_icmp_ge (tgt := 166) C.1 C.2.1 dX11_takes_106 (by decide) (fun c106 => ?_) (fun c106 => ?_)
  · replace hh := hh.1 c106
    exact hR _ _ (f, g) _ _ dX11_takes_166 hh hw
  · replace hh := hh.2 c106
    refine lv_aload_n C.1 C.2.1 dX11_takes_109 rfl (lv_at hl 0 rfl) ?_
    refine m_ga C hw (inC inW11) 46 (by decide) (wc w_1508) mg_46 dX11_takes_110 ?_
    refine lv_iload_n C.1 C.2.1 dX11_takes_113 rfl (lv_at hl 2 rfl) ?_
    refine lv_aload_n C.1 C.2.1 dX11_takes_114 rfl (lv_at hl 0 rfl) ?_
    refine m_ga C hw (inC inW11) 57 (by decide) (wc w_1519) mg_57 dX11_takes_115 ?_
    refine lv_iload_n C.1 C.2.1 dX11_takes_118 rfl (lv_at hl 1 rfl) ?_
    refine lv_bipush (v := (8 : Int32)) C.1 C.2.1 dX11_takes_119 (by decide) ?_
    refine lv_iadd C.1 C.2.1 dX11_takes_121 ?_
    refine lv_iload_n C.1 C.2.1 dX11_takes_122 rfl (lv_at hl 2 rfl) ?_
    refine lv_iadd C.1 C.2.1 dX11_takes_123 ?_
    obtain ⟨hi124, hh⟩ := hh
    refine m_ial C hw mp_57 (x := g 57 (ix ((x2 + (8 : Int32)) + x3))) hi124 rfl dX11_takes_124 ?_
    obtain ⟨hi125, hh⟩ := hh
    refine m_ias C hw mp_46 mq_46 hi125 dX11_takes_125 (fun H locs hw => ?_)
    refine lv_aload_n C.1 C.2.1 dX11_takes_126 rfl (lv_at hl 0 rfl) ?_
    refine m_ga C hw (inC inW11) 47 (by decide) (wc w_1509) mg_47 dX11_takes_127 ?_
    refine lv_iload_n C.1 C.2.1 dX11_takes_130 rfl (lv_at hl 2 rfl) ?_
    refine lv_aload_n C.1 C.2.1 dX11_takes_131 rfl (lv_at hl 0 rfl) ?_
    refine m_ga C hw (inC inW11) 57 (by decide) (wc w_1519) mg_57 dX11_takes_132 ?_
    refine lv_iload_n C.1 C.2.1 dX11_takes_135 rfl (lv_at hl 1 rfl) ?_
    refine lv_bipush (v := (44 : Int32)) C.1 C.2.1 dX11_takes_136 (by decide) ?_
    refine lv_iadd C.1 C.2.1 dX11_takes_138 ?_
    refine lv_iload_n C.1 C.2.1 dX11_takes_139 rfl (lv_at hl 2 rfl) ?_
    refine lv_iadd C.1 C.2.1 dX11_takes_140 ?_
    obtain ⟨hi141, hh⟩ := hh
    refine m_ial C hw mp_57 (x := g 57 (ix ((x2 + (44 : Int32)) + x3))) hi141 rfl dX11_takes_141 ?_
    obtain ⟨hi142, hh⟩ := hh
    refine m_ias C hw mp_47 mq_47 hi142 dX11_takes_142 (fun H locs hw => ?_)
    refine lv_aload_n C.1 C.2.1 dX11_takes_143 rfl (lv_at hl 0 rfl) ?_
    refine m_ga C hw (inC inW11) 48 (by decide) (wc w_1510) mg_48 dX11_takes_144 ?_
    refine lv_iload_n C.1 C.2.1 dX11_takes_147 rfl (lv_at hl 2 rfl) ?_
    refine lv_aload_n C.1 C.2.1 dX11_takes_148 rfl (lv_at hl 0 rfl) ?_
    refine m_ga C hw (inC inW11) 57 (by decide) (wc w_1519) mg_57 dX11_takes_149 ?_
    refine lv_iload_n C.1 C.2.1 dX11_takes_152 rfl (lv_at hl 1 rfl) ?_
    refine lv_bipush (v := (80 : Int32)) C.1 C.2.1 dX11_takes_153 (by decide) ?_
    refine lv_iadd C.1 C.2.1 dX11_takes_155 ?_
    refine lv_iload_n C.1 C.2.1 dX11_takes_156 rfl (lv_at hl 2 rfl) ?_
    refine lv_iadd C.1 C.2.1 dX11_takes_157 ?_
    obtain ⟨hi158, hh⟩ := hh
    refine m_ial C hw mp_57 (x := g 57 (ix ((x2 + (80 : Int32)) + x3))) hi158 rfl dX11_takes_158 ?_
    obtain ⟨hi159, hh⟩ := hh
    refine m_ias C hw mp_48 mq_48 hi159 dX11_takes_159 (fun H locs hw => ?_)
    refine lv_iinc (v := x3 + (1 : Int32)) (lv' := [(3, .int (x3 + (1 : Int32))), (0, .ref o), (2, .int x2)]) C.1 C.2.1 dX11_takes_160 hl (k := 2) rfl rfl (by decide) rfl (fun ls hl => ?_)
    refine lv_goto (tgt := 103) C.1 C.2.1 dX11_takes_163 (by decide) ?_
    exact hB103 _ _ _ _ _ _ _ hh hw (lv_sub hl [1, 2, 0] rfl)
theorem tX11_takes_b103 {K : ((Nat → Int32) × (Nat → Nat → Int32)) → Prop} (C : CallFix p m c cX11_takes 4 s args wsX11_takes RX11) (hR : Rtv p l e rmX11_takes s m args below meth c cX11_takes D A (mT cI cZ) (mWu o h cI cZ) K Q) (n : Nat) : ∀ (f : Nat → Int32) (g : Nat → Nat → Int32) (x2 : Int32) (x3 : Int32) (H : Heap) (locs : List Loc) (ls : Array Slot), wpX11_takes_b103 n f g x2 x3 K → Wd D A s (mT cI cZ) (mW o h cI cZ f g) H locs → lv_has ls 4 [(0, .ref o), (2, .int x2), (3, .int x3)] → W p l e rmX11_takes s m args below meth c H locs 0 0 Q (F0 m 103 ls []) := by
  induction n with
  | zero => intro f g x2 x3 H locs ls hh; exact hh.elim
  | succ n ih => intro f g x2 x3 H locs ls hh hw hl; exact tX11_takes_b103_body C hR ih hh hw hl
set_option maxHeartbeats 4000000 in
set_option maxRecDepth 100000 in
theorem tX11_takes_b0 {K : ((Nat → Int32) × (Nat → Nat → Int32)) → Prop} (C : CallFix p m c cX11_takes 4 s args wsX11_takes RX11) (hR : Rtv p l e rmX11_takes s m args below meth c cX11_takes D A (mT cI cZ) (mWu o h cI cZ) K Q) {f : Nat → Int32} {g : Nat → Nat → Int32} {x1 : Int32} (hh : wpX11_takes_b0 f g x1 K) {H : Heap} {locs : List Loc} {ls : Array Slot} (hw : Wd D A s (mT cI cZ) (mW o h cI cZ f g) H locs) (hl : lv_has ls 4 [(0, .ref o), (1, .int x1)]) : W p l e rmX11_takes s m args below meth c H locs 0 0 Q (F0 m 0 ls []) := by
  unfold wpX11_takes_b0 at hh
  refine lv_bipush (v := (120 : Int32)) C.1 C.2.1 dX11_takes_0 (by decide) ?_
  refine lv_iload_n C.1 C.2.1 dX11_takes_2 rfl (lv_at hl 1 rfl) ?_
  refine lv_imul C.1 C.2.1 dX11_takes_3 ?_
  refine lv_istore_n (lv' := [(2, .int ((120 : Int32) * x1)), (0, .ref o), (1, .int x1)]) C.1 C.2.1 dX11_takes_4 rfl hl (by decide) rfl (fun ls hl => ?_)
  refine lv_aload_n C.1 C.2.1 dX11_takes_5 rfl (lv_at hl 1 rfl) ?_
  refine lv_aload_n C.1 C.2.1 dX11_takes_6 rfl (lv_at hl 1 rfl) ?_
  refine m_ga C hw (inC inW11) 57 (by decide) (wc w_1519) mg_57 dX11_takes_7 ?_
  refine lv_iload_n C.1 C.2.1 dX11_takes_10 rfl (lv_at hl 0 rfl) ?_
  obtain ⟨hi11, hh⟩ := hh
  refine m_ial C hw mp_57 (x := g 57 (ix ((120 : Int32) * x1))) hi11 rfl dX11_takes_11 ?_
  refine m_pi C hw (inC inW11) 38 (by decide) (wc w_1500) rfl (ty := .int) (by decide +kernel) rfl rfl (Nat.le_of_ble_eq_true rfl) ms_38 dX11_takes_12 (fun H locs hw => ?_)
  refine lv_aload_n C.1 C.2.1 dX11_takes_15 rfl (lv_at hl 1 rfl) ?_
  refine lv_aload_n C.1 C.2.1 dX11_takes_16 rfl (lv_at hl 1 rfl) ?_
  refine m_ga C hw (inC inW11) 57 (by decide) (wc w_1519) mg_57 dX11_takes_17 ?_
  refine lv_iload_n C.1 C.2.1 dX11_takes_20 rfl (lv_at hl 0 rfl) ?_
  refine lv_iconst (v := (1 : Int32)) C.1 C.2.1 dX11_takes_21 (by decide) ?_
  refine lv_iadd C.1 C.2.1 dX11_takes_22 ?_
  obtain ⟨hi23, hh⟩ := hh
  refine m_ial C hw mp_57 (x := g 57 (ix (((120 : Int32) * x1) + (1 : Int32)))) hi23 rfl dX11_takes_23 ?_
  refine m_pi C hw (inC inW11) 39 (by decide) (wc w_1501) rfl (ty := .int) (by decide +kernel) rfl rfl (Nat.le_of_ble_eq_true rfl) ms_39 dX11_takes_24 (fun H locs hw => ?_)
  refine lv_aload_n C.1 C.2.1 dX11_takes_27 rfl (lv_at hl 1 rfl) ?_
  refine lv_aload_n C.1 C.2.1 dX11_takes_28 rfl (lv_at hl 1 rfl) ?_
  refine m_ga C hw (inC inW11) 57 (by decide) (wc w_1519) mg_57 dX11_takes_29 ?_
  refine lv_iload_n C.1 C.2.1 dX11_takes_32 rfl (lv_at hl 0 rfl) ?_
  refine lv_iconst (v := (2 : Int32)) C.1 C.2.1 dX11_takes_33 (by decide) ?_
  refine lv_iadd C.1 C.2.1 dX11_takes_34 ?_
  obtain ⟨hi35, hh⟩ := hh
  refine m_ial C hw mp_57 (x := g 57 (ix (((120 : Int32) * x1) + (2 : Int32)))) hi35 rfl dX11_takes_35 ?_
  refine m_pi C hw (inC inW11) 40 (by decide) (wc w_1502) rfl (ty := .int) (by decide +kernel) rfl rfl (Nat.le_of_ble_eq_true rfl) ms_40 dX11_takes_36 (fun H locs hw => ?_)
  refine lv_aload_n C.1 C.2.1 dX11_takes_39 rfl (lv_at hl 1 rfl) ?_
  refine lv_aload_n C.1 C.2.1 dX11_takes_40 rfl (lv_at hl 1 rfl) ?_
  refine m_ga C hw (inC inW11) 57 (by decide) (wc w_1519) mg_57 dX11_takes_41 ?_
  refine lv_iload_n C.1 C.2.1 dX11_takes_44 rfl (lv_at hl 0 rfl) ?_
  refine lv_iconst (v := (3 : Int32)) C.1 C.2.1 dX11_takes_45 (by decide) ?_
  refine lv_iadd C.1 C.2.1 dX11_takes_46 ?_
  obtain ⟨hi47, hh⟩ := hh
  refine m_ial C hw mp_57 (x := g 57 (ix (((120 : Int32) * x1) + (3 : Int32)))) hi47 rfl dX11_takes_47 ?_
  refine m_pi C hw (inC inW11) 41 (by decide) (wc w_1503) rfl (ty := .int) (by decide +kernel) rfl rfl (Nat.le_of_ble_eq_true rfl) ms_41 dX11_takes_48 (fun H locs hw => ?_)
  refine lv_aload_n C.1 C.2.1 dX11_takes_51 rfl (lv_at hl 1 rfl) ?_
  refine lv_aload_n C.1 C.2.1 dX11_takes_52 rfl (lv_at hl 1 rfl) ?_
  refine m_ga C hw (inC inW11) 57 (by decide) (wc w_1519) mg_57 dX11_takes_53 ?_
  refine lv_iload_n C.1 C.2.1 dX11_takes_56 rfl (lv_at hl 0 rfl) ?_
  refine lv_iconst (v := (4 : Int32)) C.1 C.2.1 dX11_takes_57 (by decide) ?_
  refine lv_iadd C.1 C.2.1 dX11_takes_58 ?_
  obtain ⟨hi59, hh⟩ := hh
  refine m_ial C hw mp_57 (x := g 57 (ix (((120 : Int32) * x1) + (4 : Int32)))) hi59 rfl dX11_takes_59 ?_
  refine m_pi C hw (inC inW11) 42 (by decide) (wc w_1504) rfl (ty := .int) (by decide +kernel) rfl rfl (Nat.le_of_ble_eq_true rfl) ms_42 dX11_takes_60 (fun H locs hw => ?_)
  refine lv_aload_n C.1 C.2.1 dX11_takes_63 rfl (lv_at hl 1 rfl) ?_
  refine lv_aload_n C.1 C.2.1 dX11_takes_64 rfl (lv_at hl 1 rfl) ?_
  refine m_ga C hw (inC inW11) 57 (by decide) (wc w_1519) mg_57 dX11_takes_65 ?_
  refine lv_iload_n C.1 C.2.1 dX11_takes_68 rfl (lv_at hl 0 rfl) ?_
  refine lv_iconst (v := (5 : Int32)) C.1 C.2.1 dX11_takes_69 (by decide) ?_
  refine lv_iadd C.1 C.2.1 dX11_takes_70 ?_
  obtain ⟨hi71, hh⟩ := hh
  refine m_ial C hw mp_57 (x := g 57 (ix (((120 : Int32) * x1) + (5 : Int32)))) hi71 rfl dX11_takes_71 ?_
  refine m_pi C hw (inC inW11) 43 (by decide) (wc w_1505) rfl (ty := .int) (by decide +kernel) rfl rfl (Nat.le_of_ble_eq_true rfl) ms_43 dX11_takes_72 (fun H locs hw => ?_)
  refine lv_aload_n C.1 C.2.1 dX11_takes_75 rfl (lv_at hl 1 rfl) ?_
  refine lv_aload_n C.1 C.2.1 dX11_takes_76 rfl (lv_at hl 1 rfl) ?_
  refine m_ga C hw (inC inW11) 57 (by decide) (wc w_1519) mg_57 dX11_takes_77 ?_
  refine lv_iload_n C.1 C.2.1 dX11_takes_80 rfl (lv_at hl 0 rfl) ?_
  refine lv_bipush (v := (6 : Int32)) C.1 C.2.1 dX11_takes_81 (by decide) ?_
  refine lv_iadd C.1 C.2.1 dX11_takes_83 ?_
  obtain ⟨hi84, hh⟩ := hh
  refine m_ial C hw mp_57 (x := g 57 (ix (((120 : Int32) * x1) + (6 : Int32)))) hi84 rfl dX11_takes_84 ?_
  refine m_pi C hw (inC inW11) 44 (by decide) (wc w_1506) rfl (ty := .int) (by decide +kernel) rfl rfl (Nat.le_of_ble_eq_true rfl) ms_44 dX11_takes_85 (fun H locs hw => ?_)
  refine lv_aload_n C.1 C.2.1 dX11_takes_88 rfl (lv_at hl 1 rfl) ?_
  refine lv_aload_n C.1 C.2.1 dX11_takes_89 rfl (lv_at hl 1 rfl) ?_
  refine m_ga C hw (inC inW11) 57 (by decide) (wc w_1519) mg_57 dX11_takes_90 ?_
  refine lv_iload_n C.1 C.2.1 dX11_takes_93 rfl (lv_at hl 0 rfl) ?_
  refine lv_bipush (v := (7 : Int32)) C.1 C.2.1 dX11_takes_94 (by decide) ?_
  refine lv_iadd C.1 C.2.1 dX11_takes_96 ?_
  obtain ⟨hi97, hh⟩ := hh
  refine m_ial C hw mp_57 (x := g 57 (ix (((120 : Int32) * x1) + (7 : Int32)))) hi97 rfl dX11_takes_97 ?_
  refine m_pi C hw (inC inW11) 45 (by decide) (wc w_1507) rfl (ty := .int) (by decide +kernel) rfl rfl (Nat.le_of_ble_eq_true rfl) ms_45 dX11_takes_98 (fun H locs hw => ?_)
  refine lv_iconst (v := (0 : Int32)) C.1 C.2.1 dX11_takes_101 (by decide) ?_
  refine lv_istore_n (lv' := [(3, .int (0 : Int32)), (2, .int ((120 : Int32) * x1)), (0, .ref o), (1, .int x1)]) C.1 C.2.1 dX11_takes_102 rfl hl (by decide) rfl (fun ls hl => ?_)
  obtain ⟨n, hh⟩ := hh
  exact tX11_takes_b103 C hR n _ _ _ _ _ _ _ hh hw (lv_sub hl [2, 1, 0] rfl)
theorem ctX11_takes (l : Launch) (D : va_G) (o : Nat) (h : Nat → Nat) (cI cZ : ClassId) (f : Nat → Int32) (g : Nat → Nat → Int32) (x1 : Int32) {K : ((Nat → Int32) × (Nat → Nat → Int32)) → Prop} (hh : wpX11_takes f g x1 K) : Cv l yX11_takes wsX11_takes rmX11_takes [.ref o, .int x1] D (mT cI cZ) (mWu o h cI cZ) (f, g) K := by
  refine Cv_of (cc := cX11_takes) (maxL := 4) (by decide) rfl (Nat.le_of_ble_eq_true rfl) ?_
  intro p e s m below meth c A Q C hw hR ls hl
  exact tX11_takes_b0 C hR hh hw hl
theorem cdX11_takes : yX11_takes.cls = RX11 ∧ yX11_takes.cls ≠ "java/lang/invoke/MethodHandle" ∧ yX11_takes.cls ≠ "java/lang/invoke/VarHandle" ∧ (parseMethodDescriptor yX11_takes.desc).map (fun d => d.parameters.length) = some 1 := by decide +kernel
end
