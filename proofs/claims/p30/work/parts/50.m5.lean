section
variable {p : Program} {l : Launch} {e : Env} {s : State} {m : MethodId} {args : Array Value} {below : List Frame} {meth : Method} {c : Code} {D : va_G} {A : Nat → Prop} {o : Nat} {h : Nat → Nat} {cI cZ : ClassId} {Q : State → Prop}
abbrev rmX11_knows : Room := { frames := 2, cells := 0, slots := 0, locals := 43 }
set_option maxHeartbeats 4000000 in
set_option maxRecDepth 100000 in
theorem tX11_knows_b47 {K : Int32 → ((Nat → Int32) × (Nat → Nat → Int32)) → Prop} (C : CallFix p m c cX11_knows 4 s args wsX11_knows RX11) (hR : Rti .int p l e rmX11_knows s m args below meth c cX11_knows D A (mT cI cZ) (mWu o h cI cZ) K Q) {f : Nat → Int32} {g : Nat → Nat → Int32} (hh : wpX11_knows_b47 f g K) {H : Heap} {locs : List Loc} {ls : Array Slot} (hw : Wd D A s (mT cI cZ) (mW o h cI cZ f g) H locs) (hl : lv_has ls 4 [(0, .ref o)]) : W p l e rmX11_knows s m args below meth c H locs 0 0 Q (F0 m 47 ls []) := by
  unfold wpX11_knows_b47 at hh
  refine lv_iconst (v := (-1 : Int32)) C.1 C.2.1 dX11_knows_47 (by decide) ?_
  exact hR _ _ _ (f, g) _ _ dX11_knows_48 rfl hh hw
set_option maxHeartbeats 4000000 in
set_option maxRecDepth 100000 in
theorem tX11_knows_b19_body {B19 : (Nat → Int32) → (Nat → Nat → Int32) → Int32 → Int32 → Prop} {K : Int32 → ((Nat → Int32) × (Nat → Nat → Int32)) → Prop} (C : CallFix p m c cX11_knows 4 s args wsX11_knows RX11) (hR : Rti .int p l e rmX11_knows s m args below meth c cX11_knows D A (mT cI cZ) (mWu o h cI cZ) K Q) (hB19 : ∀ (f : Nat → Int32) (g : Nat → Nat → Int32) (x2 : Int32) (x3 : Int32) (H : Heap) (locs : List Loc) (ls : Array Slot), B19 f g x2 x3 → Wd D A s (mT cI cZ) (mW o h cI cZ f g) H locs → lv_has ls 4 [(0, .ref o), (2, .int x2), (3, .int x3)] → W p l e rmX11_knows s m args below meth c H locs 0 0 Q (F0 m 19 ls [])) {f : Nat → Int32} {g : Nat → Nat → Int32} {x2 : Int32} {x3 : Int32} (hh : wpX11_knows_b19_body B19 f g x2 x3 K) {H : Heap} {locs : List Loc} {ls : Array Slot} (hw : Wd D A s (mT cI cZ) (mW o h cI cZ f g) H locs) (hl : lv_has ls 4 [(0, .ref o), (2, .int x2), (3, .int x3)]) : W p l e rmX11_knows s m args below meth c H locs 0 0 Q (F0 m 19 ls []) := by
  unfold wpX11_knows_b19_body at hh
  refine lv_iload_n C.1 C.2.1 dX11_knows_19 rfl (lv_at hl 1 rfl) ?_
  refine lv_aload_n C.1 C.2.1 dX11_knows_20 rfl (lv_at hl 0 rfl) ?_
  refine m_gi C hw (inC inW11) 40 (by decide) (wc w_1502) mg_40 (x := f 40) rfl dX11_knows_21 ?_
  refine lv_icmp_eq (tgt := 67) C.1 C.2.1 dX11_knows_24 (by decide) (fun c24 => ?_) (fun c24 => ?_)
  · replace hh := hh.1 c24
    refine lv_iload_n C.1 C.2.1 dX11_knows_67 rfl (lv_at hl 2 rfl) ?_
    exact hR _ _ _ (f, g) _ _ dX11_knows_68 rfl hh hw
  · replace hh := hh.2 c24
    refine lv_aload_n C.1 C.2.1 dX11_knows_27 rfl (lv_at hl 0 rfl) ?_
    refine lv_iload_n C.1 C.2.1 dX11_knows_28 rfl (lv_at hl 1 rfl) ?_
    refine lv_aload_n C.1 C.2.1 dX11_knows_29 rfl (lv_at hl 0 rfl) ?_
    refine m_ga C hw (inC inW11) 47 (by decide) (wc w_1509) mg_47 dX11_knows_30 ?_
    refine lv_iload_n C.1 C.2.1 dX11_knows_33 rfl (lv_at hl 1 rfl) ?_
    obtain ⟨hi34, hh⟩ := hh
    refine m_ial C hw mp_47 (x := g 47 (ix x2)) hi34 rfl dX11_knows_34 ?_
    refine m_Vi C hw (ctX11_isWall l D o h cI cZ f g x2 (g 47 (ix x2)) hh) (cwV 2 C.2.2.2.2 (gd_V w_1819 w_1821 w_81 w_125 w_1822) rfl rfl rfl cdX11_isWall ⟨Nat.le_of_ble_eq_true rfl, Nat.le_of_ble_eq_true rfl⟩) rfl hl.1 (Nat.le_of_ble_eq_true rfl) dX11_knows_35 ⟨Nat.zero_le _, Nat.zero_le _⟩ (fun r35 u35 H locs hh hw => ?_) rfl
    refine lv_if_ne (tgt := 47) C.1 C.2.1 dX11_knows_38 (by decide) (fun c38 => ?_) (fun c38 => ?_)
    · replace hh := hh.1 c38
      exact tX11_knows_b47 C hR hh hw (lv_sub hl [0] rfl)
    · replace hh := hh.2 c38
      refine lv_iload_n C.1 C.2.1 dX11_knows_41 rfl (lv_at hl 2 rfl) ?_
      refine lv_bipush (v := (36 : Int32)) C.1 C.2.1 dX11_knows_42 (by decide) ?_
      refine lv_icmp_le (tgt := 49) C.1 C.2.1 dX11_knows_44 (by decide) (fun c44 => ?_) (fun c44 => ?_)
      · replace hh := hh.1 c44
        refine lv_aload_n C.1 C.2.1 dX11_knows_49 rfl (lv_at hl 0 rfl) ?_
        refine lv_iload_n C.1 C.2.1 dX11_knows_50 rfl (lv_at hl 1 rfl) ?_
        refine lv_aload_n C.1 C.2.1 dX11_knows_51 rfl (lv_at hl 0 rfl) ?_
        refine m_ga C hw (inC inW11) 47 (by decide) (wc w_1509) mg_47 dX11_knows_52 ?_
        refine lv_iload_n C.1 C.2.1 dX11_knows_55 rfl (lv_at hl 1 rfl) ?_
        obtain ⟨hi56, hh⟩ := hh
        refine m_ial C hw mp_47 (x := u35.2 47 (ix x2)) hi56 rfl dX11_knows_56 ?_
        refine m_Vi C hw (ctX11_ahead l D o h cI cZ u35.1 u35.2 x2 (u35.2 47 (ix x2)) hh) (cwV 2 C.2.2.2.2 (gd_V w_1830 w_1832 w_83 w_125 w_1833) rfl rfl rfl cdX11_ahead ⟨Nat.le_of_ble_eq_true rfl, Nat.le_of_ble_eq_true rfl⟩) rfl hl.1 (Nat.le_of_ble_eq_true rfl) dX11_knows_57 ⟨Nat.zero_le _, Nat.zero_le _⟩ (fun r57 u57 H locs hh hw => ?_) rfl
        refine lv_istore_n (lv' := [(2, .int r57), (0, .ref o), (3, .int x3)]) C.1 C.2.1 dX11_knows_60 rfl hl (by decide) rfl (fun ls hl => ?_)
        refine lv_iinc (v := x3 + (1 : Int32)) (lv' := [(3, .int (x3 + (1 : Int32))), (2, .int r57), (0, .ref o)]) C.1 C.2.1 dX11_knows_61 hl (k := 2) rfl rfl (by decide) rfl (fun ls hl => ?_)
        refine lv_goto (tgt := 19) C.1 C.2.1 dX11_knows_64 (by decide) ?_
        exact hB19 _ _ _ _ _ _ _ hh hw (lv_sub hl [2, 1, 0] rfl)
      · replace hh := hh.2 c44
        exact tX11_knows_b47 C hR hh hw (lv_sub hl [0] rfl)
theorem tX11_knows_b19 {K : Int32 → ((Nat → Int32) × (Nat → Nat → Int32)) → Prop} (C : CallFix p m c cX11_knows 4 s args wsX11_knows RX11) (hR : Rti .int p l e rmX11_knows s m args below meth c cX11_knows D A (mT cI cZ) (mWu o h cI cZ) K Q) (n : Nat) : ∀ (f : Nat → Int32) (g : Nat → Nat → Int32) (x2 : Int32) (x3 : Int32) (H : Heap) (locs : List Loc) (ls : Array Slot), wpX11_knows_b19 n f g x2 x3 K → Wd D A s (mT cI cZ) (mW o h cI cZ f g) H locs → lv_has ls 4 [(0, .ref o), (2, .int x2), (3, .int x3)] → W p l e rmX11_knows s m args below meth c H locs 0 0 Q (F0 m 19 ls []) := by
  induction n with
  | zero => intro f g x2 x3 H locs ls hh; exact hh.elim
  | succ n ih => intro f g x2 x3 H locs ls hh hw hl; exact tX11_knows_b19_body C hR ih hh hw hl
set_option maxHeartbeats 4000000 in
set_option maxRecDepth 100000 in
theorem tX11_knows_b0 {K : Int32 → ((Nat → Int32) × (Nat → Nat → Int32)) → Prop} (C : CallFix p m c cX11_knows 4 s args wsX11_knows RX11) (hR : Rti .int p l e rmX11_knows s m args below meth c cX11_knows D A (mT cI cZ) (mWu o h cI cZ) K Q) {f : Nat → Int32} {g : Nat → Nat → Int32} {x1 : Int32} (hh : wpX11_knows_b0 f g x1 K) {H : Heap} {locs : List Loc} {ls : Array Slot} (hw : Wd D A s (mT cI cZ) (mW o h cI cZ f g) H locs) (hl : lv_has ls 4 [(0, .ref o), (1, .int x1)]) : W p l e rmX11_knows s m args below meth c H locs 0 0 Q (F0 m 0 ls []) := by
  unfold wpX11_knows_b0 at hh
  refine lv_aload_n C.1 C.2.1 dX11_knows_0 rfl (lv_at hl 0 rfl) ?_
  refine lv_iconst (v := (0 : Int32)) C.1 C.2.1 dX11_knows_1 (by decide) ?_
  refine m_pi C hw (inC inW11) 2 (by decide) (wc w_1464) rfl (ty := .int) (by decide +kernel) rfl rfl (Nat.le_of_ble_eq_true rfl) ms_2 dX11_knows_2 (fun H locs hw => ?_)
  refine lv_aload_n C.1 C.2.1 dX11_knows_5 rfl (lv_at hl 0 rfl) ?_
  refine lv_iload_n C.1 C.2.1 dX11_knows_6 rfl (lv_at hl 1 rfl) ?_
  refine m_Vi C hw (ctX11_isSquare l D o h cI cZ (upd f 2 (0 : Int32)) g x1 hh) (cwV 1 C.2.2.2.2 (gd_V w_1811 w_1813 w_79 w_125 w_1814) rfl rfl rfl cdX11_isSquare ⟨Nat.le_of_ble_eq_true rfl, Nat.le_of_ble_eq_true rfl⟩) rfl hl.1 (Nat.le_of_ble_eq_true rfl) dX11_knows_7 ⟨Nat.zero_le _, Nat.zero_le _⟩ (fun r7 u7 H locs hh hw => ?_) rfl
  refine lv_if_ne (tgt := 15) C.1 C.2.1 dX11_knows_10 (by decide) (fun c10 => ?_) (fun c10 => ?_)
  · replace hh := hh.1 c10
    refine lv_iload_n C.1 C.2.1 dX11_knows_15 rfl (lv_at hl 1 rfl) ?_
    refine lv_istore_n (lv' := [(2, .int x1), (0, .ref o), (1, .int x1)]) C.1 C.2.1 dX11_knows_16 rfl hl (by decide) rfl (fun ls hl => ?_)
    refine lv_iconst (v := (0 : Int32)) C.1 C.2.1 dX11_knows_17 (by decide) ?_
    refine lv_istore_n (lv' := [(3, .int (0 : Int32)), (2, .int x1), (0, .ref o), (1, .int x1)]) C.1 C.2.1 dX11_knows_18 rfl hl (by decide) rfl (fun ls hl => ?_)
    obtain ⟨n, hh⟩ := hh
    exact tX11_knows_b19 C hR n _ _ _ _ _ _ _ hh hw (lv_sub hl [2, 1, 0] rfl)
  · replace hh := hh.2 c10
    refine lv_iconst (v := (-1 : Int32)) C.1 C.2.1 dX11_knows_13 (by decide) ?_
    exact hR _ _ _ (u7.1, u7.2) _ _ dX11_knows_14 rfl hh hw
theorem ctX11_knows (l : Launch) (D : va_G) (o : Nat) (h : Nat → Nat) (cI cZ : ClassId) (f : Nat → Int32) (g : Nat → Nat → Int32) (x1 : Int32) {K : Int32 → ((Nat → Int32) × (Nat → Nat → Int32)) → Prop} (hh : wpX11_knows f g x1 K) : Ci l yX11_knows wsX11_knows rmX11_knows [.ref o, .int x1] D (mT cI cZ) (mWu o h cI cZ) (f, g) K := by
  refine Ci_of (cc := cX11_knows) (maxL := 4) (by decide) rfl (Nat.le_of_ble_eq_true rfl) ?_
  intro p e s m below meth c A Q C hw hR ls hl
  exact tX11_knows_b0 C hR hh hw hl
theorem cdX11_knows : yX11_knows.cls = RX11 ∧ yX11_knows.cls ≠ "java/lang/invoke/MethodHandle" ∧ yX11_knows.cls ≠ "java/lang/invoke/VarHandle" ∧ (parseMethodDescriptor yX11_knows.desc).map (fun d => d.parameters.length) = some 1 := by decide +kernel
abbrev rmX11_felt : Room := { frames := 2, cells := 0, slots := 0, locals := 43 }
set_option maxHeartbeats 4000000 in
set_option maxRecDepth 100000 in
theorem tX11_felt_b77 {K : Int32 → ((Nat → Int32) × (Nat → Nat → Int32)) → Prop} (C : CallFix p m c cX11_felt 1 s args wsX11_felt RX11) (hR : Rti .int p l e rmX11_felt s m args below meth c cX11_felt D A (mT cI cZ) (mWu o h cI cZ) K Q) {f : Nat → Int32} {g : Nat → Nat → Int32} {k0 : Int32} {k1 : Int32} (hh : wpX11_felt_b77 f g k0 k1 K) {H : Heap} {locs : List Loc} {ls : Array Slot} (hw : Wd D A s (mT cI cZ) (mW o h cI cZ f g) H locs) (hl : lv_has ls 1 [(0, .ref o)]) : W p l e rmX11_felt s m args below meth c H locs 0 0 Q (F0 m 77 ls [.int k1, .int k0]) := by
  unfold wpX11_felt_b77 at hh
  refine lv_ior C.1 C.2.1 dX11_felt_77 ?_
  exact hR _ _ _ (f, g) _ _ dX11_felt_78 rfl hh hw
set_option maxHeartbeats 4000000 in
set_option maxRecDepth 100000 in
theorem tX11_felt_b57 {K : Int32 → ((Nat → Int32) × (Nat → Nat → Int32)) → Prop} (C : CallFix p m c cX11_felt 1 s args wsX11_felt RX11) (hR : Rti .int p l e rmX11_felt s m args below meth c cX11_felt D A (mT cI cZ) (mWu o h cI cZ) K Q) {f : Nat → Int32} {g : Nat → Nat → Int32} {k0 : Int32} {k1 : Int32} (hh : wpX11_felt_b57 f g k0 k1 K) {H : Heap} {locs : List Loc} {ls : Array Slot} (hw : Wd D A s (mT cI cZ) (mW o h cI cZ f g) H locs) (hl : lv_has ls 1 [(0, .ref o)]) : W p l e rmX11_felt s m args below meth c H locs 0 0 Q (F0 m 57 ls [.int k1, .int k0]) := by
  unfold wpX11_felt_b57 at hh
  refine lv_ior C.1 C.2.1 dX11_felt_57 ?_
  refine lv_aload_n C.1 C.2.1 dX11_felt_58 rfl (lv_at hl 0 rfl) ?_
  refine m_ga C hw (inC inW11) 47 (by decide) (wc w_1509) mg_47 dX11_felt_59 ?_
  refine lv_aload_n C.1 C.2.1 dX11_felt_62 rfl (lv_at hl 0 rfl) ?_
  refine m_gi C hw (inC inW11) 41 (by decide) (wc w_1503) mg_41 (x := f 41) rfl dX11_felt_63 ?_
  obtain ⟨hi66, hh⟩ := hh
  refine m_ial C hw mp_47 (x := g 47 (ix (f 41))) hi66 rfl dX11_felt_66 ?_
  refine lv_iconst (v := (1 : Int32)) C.1 C.2.1 dX11_felt_67 (by decide) ?_
  refine lv_icmp_le (tgt := 76) C.1 C.2.1 dX11_felt_68 (by decide) (fun c68 => ?_) (fun c68 => ?_)
  · replace hh := hh.1 c68
    refine lv_iconst (v := (0 : Int32)) C.1 C.2.1 dX11_felt_76 (by decide) ?_
    exact tX11_felt_b77 C hR hh hw hl
  · replace hh := hh.2 c68
    refine lv_bipush (v := (8 : Int32)) C.1 C.2.1 dX11_felt_71 (by decide) ?_
    refine lv_goto (tgt := 77) C.1 C.2.1 dX11_felt_73 (by decide) ?_
    exact tX11_felt_b77 C hR hh hw hl
set_option maxHeartbeats 4000000 in
set_option maxRecDepth 100000 in
theorem tX11_felt_b36 {K : Int32 → ((Nat → Int32) × (Nat → Nat → Int32)) → Prop} (C : CallFix p m c cX11_felt 1 s args wsX11_felt RX11) (hR : Rti .int p l e rmX11_felt s m args below meth c cX11_felt D A (mT cI cZ) (mWu o h cI cZ) K Q) {f : Nat → Int32} {g : Nat → Nat → Int32} {k0 : Int32} {k1 : Int32} (hh : wpX11_felt_b36 f g k0 k1 K) {H : Heap} {locs : List Loc} {ls : Array Slot} (hw : Wd D A s (mT cI cZ) (mW o h cI cZ f g) H locs) (hl : lv_has ls 1 [(0, .ref o)]) : W p l e rmX11_felt s m args below meth c H locs 0 0 Q (F0 m 36 ls [.int k1, .int k0]) := by
  unfold wpX11_felt_b36 at hh
  refine lv_ior C.1 C.2.1 dX11_felt_36 ?_
  refine lv_aload_n C.1 C.2.1 dX11_felt_37 rfl (lv_at hl 0 rfl) ?_
  refine m_ga C hw (inC inW11) 47 (by decide) (wc w_1509) mg_47 dX11_felt_38 ?_
  refine lv_aload_n C.1 C.2.1 dX11_felt_41 rfl (lv_at hl 0 rfl) ?_
  refine m_gi C hw (inC inW11) 41 (by decide) (wc w_1503) mg_41 (x := f 41) rfl dX11_felt_42 ?_
  obtain ⟨hi45, hh⟩ := hh
  refine m_ial C hw mp_47 (x := g 47 (ix (f 41))) hi45 rfl dX11_felt_45 ?_
  refine lv_iconst (v := (2 : Int32)) C.1 C.2.1 dX11_felt_46 (by decide) ?_
  refine g_irem C dX11_felt_47 (by decide) ?_
  refine lv_iconst (v := (1 : Int32)) C.1 C.2.1 dX11_felt_48 (by decide) ?_
  refine lv_icmp_ne (tgt := 56) C.1 C.2.1 dX11_felt_49 (by decide) (fun c49 => ?_) (fun c49 => ?_)
  · replace hh := hh.1 c49
    refine lv_iconst (v := (0 : Int32)) C.1 C.2.1 dX11_felt_56 (by decide) ?_
    exact tX11_felt_b57 C hR hh hw hl
  · replace hh := hh.2 c49
    refine lv_iconst (v := (4 : Int32)) C.1 C.2.1 dX11_felt_52 (by decide) ?_
    refine lv_goto (tgt := 57) C.1 C.2.1 dX11_felt_53 (by decide) ?_
    exact tX11_felt_b57 C hR hh hw hl
set_option maxHeartbeats 4000000 in
set_option maxRecDepth 100000 in
theorem tX11_felt_b20 {K : Int32 → ((Nat → Int32) × (Nat → Nat → Int32)) → Prop} (C : CallFix p m c cX11_felt 1 s args wsX11_felt RX11) (hR : Rti .int p l e rmX11_felt s m args below meth c cX11_felt D A (mT cI cZ) (mWu o h cI cZ) K Q) {f : Nat → Int32} {g : Nat → Nat → Int32} {k0 : Int32} (hh : wpX11_felt_b20 f g k0 K) {H : Heap} {locs : List Loc} {ls : Array Slot} (hw : Wd D A s (mT cI cZ) (mW o h cI cZ f g) H locs) (hl : lv_has ls 1 [(0, .ref o)]) : W p l e rmX11_felt s m args below meth c H locs 0 0 Q (F0 m 20 ls [.int k0]) := by
  unfold wpX11_felt_b20 at hh
  refine lv_aload_n C.1 C.2.1 dX11_felt_20 rfl (lv_at hl 0 rfl) ?_
  refine m_gi C hw (inC inW11) 41 (by decide) (wc w_1503) mg_41 (x := f 41) rfl dX11_felt_21 ?_
  refine lv_aload_n C.1 C.2.1 dX11_felt_24 rfl (lv_at hl 0 rfl) ?_
  refine m_gi C hw (inC inW11) 40 (by decide) (wc w_1502) mg_40 (x := f 40) rfl dX11_felt_25 ?_
  refine lv_icmp_ne (tgt := 35) C.1 C.2.1 dX11_felt_28 (by decide) (fun c28 => ?_) (fun c28 => ?_)
  · replace hh := hh.1 c28
    refine lv_iconst (v := (0 : Int32)) C.1 C.2.1 dX11_felt_35 (by decide) ?_
    exact tX11_felt_b36 C hR hh hw hl
  · replace hh := hh.2 c28
    refine lv_iconst (v := (2 : Int32)) C.1 C.2.1 dX11_felt_31 (by decide) ?_
    refine lv_goto (tgt := 36) C.1 C.2.1 dX11_felt_32 (by decide) ?_
    exact tX11_felt_b36 C hR hh hw hl
set_option maxHeartbeats 4000000 in
set_option maxRecDepth 100000 in
theorem tX11_felt_b0 {K : Int32 → ((Nat → Int32) × (Nat → Nat → Int32)) → Prop} (C : CallFix p m c cX11_felt 1 s args wsX11_felt RX11) (hR : Rti .int p l e rmX11_felt s m args below meth c cX11_felt D A (mT cI cZ) (mWu o h cI cZ) K Q) {f : Nat → Int32} {g : Nat → Nat → Int32} (hh : wpX11_felt_b0 f g K) {H : Heap} {locs : List Loc} {ls : Array Slot} (hw : Wd D A s (mT cI cZ) (mW o h cI cZ f g) H locs) (hl : lv_has ls 1 [(0, .ref o)]) : W p l e rmX11_felt s m args below meth c H locs 0 0 Q (F0 m 0 ls []) := by
  unfold wpX11_felt_b0 at hh
  refine lv_aload_n C.1 C.2.1 dX11_felt_0 rfl (lv_at hl 0 rfl) ?_
  refine lv_aload_n C.1 C.2.1 dX11_felt_1 rfl (lv_at hl 0 rfl) ?_
  refine m_gi C hw (inC inW11) 41 (by decide) (wc w_1503) mg_41 (x := f 41) rfl dX11_felt_2 ?_
  refine lv_aload_n C.1 C.2.1 dX11_felt_5 rfl (lv_at hl 0 rfl) ?_
  refine m_gi C hw (inC inW11) 42 (by decide) (wc w_1504) mg_42 (x := f 42) rfl dX11_felt_6 ?_
  refine m_Vi C hw (ctX11_isWall l D o h cI cZ f g (f 41) (f 42) hh) (cwV 2 C.2.2.2.2 (gd_V w_1819 w_1821 w_81 w_125 w_1822) rfl rfl rfl cdX11_isWall ⟨Nat.le_of_ble_eq_true rfl, Nat.le_of_ble_eq_true rfl⟩) rfl hl.1 (Nat.le_of_ble_eq_true rfl) dX11_felt_9 ⟨Nat.zero_le _, Nat.zero_le _⟩ (fun r9 u9 H locs hh hw => ?_) rfl
  refine lv_if_eq (tgt := 19) C.1 C.2.1 dX11_felt_12 (by decide) (fun c12 => ?_) (fun c12 => ?_)
  · replace hh := hh.1 c12
    refine lv_iconst (v := (0 : Int32)) C.1 C.2.1 dX11_felt_19 (by decide) ?_
    exact tX11_felt_b20 C hR hh hw hl
  · replace hh := hh.2 c12
    refine lv_iconst (v := (1 : Int32)) C.1 C.2.1 dX11_felt_15 (by decide) ?_
    refine lv_goto (tgt := 20) C.1 C.2.1 dX11_felt_16 (by decide) ?_
    exact tX11_felt_b20 C hR hh hw hl
theorem ctX11_felt (l : Launch) (D : va_G) (o : Nat) (h : Nat → Nat) (cI cZ : ClassId) (f : Nat → Int32) (g : Nat → Nat → Int32) {K : Int32 → ((Nat → Int32) × (Nat → Nat → Int32)) → Prop} (hh : wpX11_felt f g K) : Ci l yX11_felt wsX11_felt rmX11_felt [.ref o] D (mT cI cZ) (mWu o h cI cZ) (f, g) K := by
  refine Ci_of (cc := cX11_felt) (maxL := 1) (by decide) rfl (Nat.le_of_ble_eq_true rfl) ?_
  intro p e s m below meth c A Q C hw hR ls hl
  exact tX11_felt_b0 C hR hh hw hl
theorem cdX11_felt : yX11_felt.cls = RX11 ∧ yX11_felt.cls ≠ "java/lang/invoke/MethodHandle" ∧ yX11_felt.cls ≠ "java/lang/invoke/VarHandle" ∧ (parseMethodDescriptor yX11_felt.desc).map (fun d => d.parameters.length) = some 0 := by decide +kernel
abbrev rmX11_works : Room := { frames := 1, cells := 0, slots := 0, locals := 21 }
set_option maxHeartbeats 4000000 in
set_option maxRecDepth 100000 in
theorem tX11_works_b257 {K : Int32 → ((Nat → Int32) × (Nat → Nat → Int32)) → Prop} (C : CallFix p m c cX11_works 5 s args wsX11_works RX11) (hR : Rti .boolean p l e rmX11_works s m args below meth c cX11_works D A (mT cI cZ) (mWu o h cI cZ) K Q) {f : Nat → Int32} {g : Nat → Nat → Int32} {k0 : Int32} (hh : wpX11_works_b257 f g k0 K) {H : Heap} {locs : List Loc} {ls : Array Slot} (hw : Wd D A s (mT cI cZ) (mW o h cI cZ f g) H locs) (hl : lv_has ls 5 [(0, .ref o)]) : W p l e rmX11_works s m args below meth c H locs 0 0 Q (F0 m 257 ls [.int k0]) := by
  unfold wpX11_works_b257 at hh
  obtain ⟨hb257, hh⟩ := hh
  exact hR _ _ _ (f, g) _ _ dX11_works_257 (isB_nar hb257) hh hw
set_option maxHeartbeats 4000000 in
set_option maxRecDepth 100000 in
theorem tX11_works_b256 {K : Int32 → ((Nat → Int32) × (Nat → Nat → Int32)) → Prop} (C : CallFix p m c cX11_works 5 s args wsX11_works RX11) (hR : Rti .boolean p l e rmX11_works s m args below meth c cX11_works D A (mT cI cZ) (mWu o h cI cZ) K Q) {f : Nat → Int32} {g : Nat → Nat → Int32} (hh : wpX11_works_b256 f g K) {H : Heap} {locs : List Loc} {ls : Array Slot} (hw : Wd D A s (mT cI cZ) (mW o h cI cZ f g) H locs) (hl : lv_has ls 5 [(0, .ref o)]) : W p l e rmX11_works s m args below meth c H locs 0 0 Q (F0 m 256 ls []) := by
  unfold wpX11_works_b256 at hh
  refine lv_iconst (v := (0 : Int32)) C.1 C.2.1 dX11_works_256 (by decide) ?_
  exact tX11_works_b257 C hR hh hw hl
set_option maxHeartbeats 4000000 in
set_option maxRecDepth 100000 in
theorem tX11_works_b215 {B8 : (Nat → Int32) → (Nat → Nat → Int32) → Int32 → Int32 → Int32 → Int32 → Prop} {K : Int32 → ((Nat → Int32) × (Nat → Nat → Int32)) → Prop} (C : CallFix p m c cX11_works 5 s args wsX11_works RX11) (hR : Rti .boolean p l e rmX11_works s m args below meth c cX11_works D A (mT cI cZ) (mWu o h cI cZ) K Q) (hB8 : ∀ (f : Nat → Int32) (g : Nat → Nat → Int32) (x1 : Int32) (x2 : Int32) (x3 : Int32) (x4 : Int32) (H : Heap) (locs : List Loc) (ls : Array Slot), B8 f g x1 x2 x3 x4 → Wd D A s (mT cI cZ) (mW o h cI cZ f g) H locs → lv_has ls 5 [(0, .ref o), (1, .int x1), (2, .int x2), (3, .int x3), (4, .int x4)] → W p l e rmX11_works s m args below meth c H locs 0 0 Q (F0 m 8 ls [])) {f : Nat → Int32} {g : Nat → Nat → Int32} {x1 : Int32} {x2 : Int32} {x3 : Int32} {x4 : Int32} (hh : wpX11_works_b215 B8 f g x1 x2 x3 x4 K) {H : Heap} {locs : List Loc} {ls : Array Slot} (hw : Wd D A s (mT cI cZ) (mW o h cI cZ f g) H locs) (hl : lv_has ls 5 [(0, .ref o), (1, .int x1), (2, .int x2), (3, .int x3), (4, .int x4)]) : W p l e rmX11_works s m args below meth c H locs 0 0 Q (F0 m 215 ls []) := by
  unfold wpX11_works_b215 at hh
  refine lv_iinc (v := x4 + (1 : Int32)) (lv' := [(4, .int (x4 + (1 : Int32))), (0, .ref o), (1, .int x1), (2, .int x2), (3, .int x3)]) C.1 C.2.1 dX11_works_215 hl (k := 4) rfl rfl (by decide) rfl (fun ls hl => ?_)
  refine lv_goto (tgt := 8) C.1 C.2.1 dX11_works_218 (by decide) ?_
  exact hB8 _ _ _ _ _ _ _ _ _ hh hw (lv_sub hl [1, 2, 3, 4, 0] rfl)
set_option maxHeartbeats 4000000 in
set_option maxRecDepth 100000 in
theorem tX11_works_b103 {B8 : (Nat → Int32) → (Nat → Nat → Int32) → Int32 → Int32 → Int32 → Int32 → Prop} {K : Int32 → ((Nat → Int32) × (Nat → Nat → Int32)) → Prop} (C : CallFix p m c cX11_works 5 s args wsX11_works RX11) (hR : Rti .boolean p l e rmX11_works s m args below meth c cX11_works D A (mT cI cZ) (mWu o h cI cZ) K Q) (hB8 : ∀ (f : Nat → Int32) (g : Nat → Nat → Int32) (x1 : Int32) (x2 : Int32) (x3 : Int32) (x4 : Int32) (H : Heap) (locs : List Loc) (ls : Array Slot), B8 f g x1 x2 x3 x4 → Wd D A s (mT cI cZ) (mW o h cI cZ f g) H locs → lv_has ls 5 [(0, .ref o), (1, .int x1), (2, .int x2), (3, .int x3), (4, .int x4)] → W p l e rmX11_works s m args below meth c H locs 0 0 Q (F0 m 8 ls [])) {f : Nat → Int32} {g : Nat → Nat → Int32} {k1 : Int32} {k2 : Int32} {x1 : Int32} {x2 : Int32} {x3 : Int32} {x4 : Int32} (hh : wpX11_works_b103 B8 f g k1 k2 x1 x2 x3 x4 K) {H : Heap} {locs : List Loc} {ls : Array Slot} (hw : Wd D A s (mT cI cZ) (mW o h cI cZ f g) H locs) (hl : lv_has ls 5 [(0, .ref o), (1, .int x1), (2, .int x2), (3, .int x3), (4, .int x4)]) : W p l e rmX11_works s m args below meth c H locs 0 0 Q (F0 m 103 ls [.int k2, .int k1, .ref (h 65)]) := by
  unfold wpX11_works_b103 at hh
  obtain ⟨hi103, hh⟩ := hh
  refine m_zas C hw mp_65 mq_65 hi103 dX11_works_103 (fun H locs hw => ?_)
  refine lv_goto (tgt := 215) C.1 C.2.1 dX11_works_104 (by decide) ?_
  exact tX11_works_b215 C hR hB8 hh hw hl
set_option maxHeartbeats 4000000 in
set_option maxRecDepth 100000 in
theorem tX11_works_b148 {B8 : (Nat → Int32) → (Nat → Nat → Int32) → Int32 → Int32 → Int32 → Int32 → Prop} {K : Int32 → ((Nat → Int32) × (Nat → Nat → Int32)) → Prop} (C : CallFix p m c cX11_works 5 s args wsX11_works RX11) (hR : Rti .boolean p l e rmX11_works s m args below meth c cX11_works D A (mT cI cZ) (mWu o h cI cZ) K Q) (hB8 : ∀ (f : Nat → Int32) (g : Nat → Nat → Int32) (x1 : Int32) (x2 : Int32) (x3 : Int32) (x4 : Int32) (H : Heap) (locs : List Loc) (ls : Array Slot), B8 f g x1 x2 x3 x4 → Wd D A s (mT cI cZ) (mW o h cI cZ f g) H locs → lv_has ls 5 [(0, .ref o), (1, .int x1), (2, .int x2), (3, .int x3), (4, .int x4)] → W p l e rmX11_works s m args below meth c H locs 0 0 Q (F0 m 8 ls [])) {f : Nat → Int32} {g : Nat → Nat → Int32} {k1 : Int32} {k2 : Int32} {x1 : Int32} {x2 : Int32} {x3 : Int32} {x4 : Int32} (hh : wpX11_works_b148 B8 f g k1 k2 x1 x2 x3 x4 K) {H : Heap} {locs : List Loc} {ls : Array Slot} (hw : Wd D A s (mT cI cZ) (mW o h cI cZ f g) H locs) (hl : lv_has ls 5 [(0, .ref o), (1, .int x1), (2, .int x2), (3, .int x3), (4, .int x4)]) : W p l e rmX11_works s m args below meth c H locs 0 0 Q (F0 m 148 ls [.int k2, .int k1, .ref (h 65)]) := by
  unfold wpX11_works_b148 at hh
  obtain ⟨hi148, hh⟩ := hh
  refine m_zas C hw mp_65 mq_65 hi148 dX11_works_148 (fun H locs hw => ?_)
  refine lv_goto (tgt := 215) C.1 C.2.1 dX11_works_149 (by decide) ?_
  exact tX11_works_b215 C hR hB8 hh hw hl
set_option maxHeartbeats 4000000 in
set_option maxRecDepth 100000 in
theorem tX11_works_b147 {B8 : (Nat → Int32) → (Nat → Nat → Int32) → Int32 → Int32 → Int32 → Int32 → Prop} {K : Int32 → ((Nat → Int32) × (Nat → Nat → Int32)) → Prop} (C : CallFix p m c cX11_works 5 s args wsX11_works RX11) (hR : Rti .boolean p l e rmX11_works s m args below meth c cX11_works D A (mT cI cZ) (mWu o h cI cZ) K Q) (hB8 : ∀ (f : Nat → Int32) (g : Nat → Nat → Int32) (x1 : Int32) (x2 : Int32) (x3 : Int32) (x4 : Int32) (H : Heap) (locs : List Loc) (ls : Array Slot), B8 f g x1 x2 x3 x4 → Wd D A s (mT cI cZ) (mW o h cI cZ f g) H locs → lv_has ls 5 [(0, .ref o), (1, .int x1), (2, .int x2), (3, .int x3), (4, .int x4)] → W p l e rmX11_works s m args below meth c H locs 0 0 Q (F0 m 8 ls [])) {f : Nat → Int32} {g : Nat → Nat → Int32} {k1 : Int32} {x1 : Int32} {x2 : Int32} {x3 : Int32} {x4 : Int32} (hh : wpX11_works_b147 B8 f g k1 x1 x2 x3 x4 K) {H : Heap} {locs : List Loc} {ls : Array Slot} (hw : Wd D A s (mT cI cZ) (mW o h cI cZ f g) H locs) (hl : lv_has ls 5 [(0, .ref o), (1, .int x1), (2, .int x2), (3, .int x3), (4, .int x4)]) : W p l e rmX11_works s m args below meth c H locs 0 0 Q (F0 m 147 ls [.int k1, .ref (h 65)]) := by
  unfold wpX11_works_b147 at hh
  refine lv_iconst (v := (0 : Int32)) C.1 C.2.1 dX11_works_147 (by decide) ?_
  exact tX11_works_b148 C hR hB8 hh hw hl
set_option maxHeartbeats 4000000 in
set_option maxRecDepth 100000 in
theorem tX11_works_b193 {B8 : (Nat → Int32) → (Nat → Nat → Int32) → Int32 → Int32 → Int32 → Int32 → Prop} {K : Int32 → ((Nat → Int32) × (Nat → Nat → Int32)) → Prop} (C : CallFix p m c cX11_works 5 s args wsX11_works RX11) (hR : Rti .boolean p l e rmX11_works s m args below meth c cX11_works D A (mT cI cZ) (mWu o h cI cZ) K Q) (hB8 : ∀ (f : Nat → Int32) (g : Nat → Nat → Int32) (x1 : Int32) (x2 : Int32) (x3 : Int32) (x4 : Int32) (H : Heap) (locs : List Loc) (ls : Array Slot), B8 f g x1 x2 x3 x4 → Wd D A s (mT cI cZ) (mW o h cI cZ f g) H locs → lv_has ls 5 [(0, .ref o), (1, .int x1), (2, .int x2), (3, .int x3), (4, .int x4)] → W p l e rmX11_works s m args below meth c H locs 0 0 Q (F0 m 8 ls [])) {f : Nat → Int32} {g : Nat → Nat → Int32} {k1 : Int32} {k2 : Int32} {x1 : Int32} {x2 : Int32} {x3 : Int32} {x4 : Int32} (hh : wpX11_works_b193 B8 f g k1 k2 x1 x2 x3 x4 K) {H : Heap} {locs : List Loc} {ls : Array Slot} (hw : Wd D A s (mT cI cZ) (mW o h cI cZ f g) H locs) (hl : lv_has ls 5 [(0, .ref o), (1, .int x1), (2, .int x2), (3, .int x3), (4, .int x4)]) : W p l e rmX11_works s m args below meth c H locs 0 0 Q (F0 m 193 ls [.int k2, .int k1, .ref (h 65)]) := by
  unfold wpX11_works_b193 at hh
  obtain ⟨hi193, hh⟩ := hh
  refine m_zas C hw mp_65 mq_65 hi193 dX11_works_193 (fun H locs hw => ?_)
  refine lv_goto (tgt := 215) C.1 C.2.1 dX11_works_194 (by decide) ?_
  exact tX11_works_b215 C hR hB8 hh hw hl
set_option maxHeartbeats 4000000 in
set_option maxRecDepth 100000 in
theorem tX11_works_b188 {B8 : (Nat → Int32) → (Nat → Nat → Int32) → Int32 → Int32 → Int32 → Int32 → Prop} {K : Int32 → ((Nat → Int32) × (Nat → Nat → Int32)) → Prop} (C : CallFix p m c cX11_works 5 s args wsX11_works RX11) (hR : Rti .boolean p l e rmX11_works s m args below meth c cX11_works D A (mT cI cZ) (mWu o h cI cZ) K Q) (hB8 : ∀ (f : Nat → Int32) (g : Nat → Nat → Int32) (x1 : Int32) (x2 : Int32) (x3 : Int32) (x4 : Int32) (H : Heap) (locs : List Loc) (ls : Array Slot), B8 f g x1 x2 x3 x4 → Wd D A s (mT cI cZ) (mW o h cI cZ f g) H locs → lv_has ls 5 [(0, .ref o), (1, .int x1), (2, .int x2), (3, .int x3), (4, .int x4)] → W p l e rmX11_works s m args below meth c H locs 0 0 Q (F0 m 8 ls [])) {f : Nat → Int32} {g : Nat → Nat → Int32} {k1 : Int32} {x1 : Int32} {x2 : Int32} {x3 : Int32} {x4 : Int32} (hh : wpX11_works_b188 B8 f g k1 x1 x2 x3 x4 K) {H : Heap} {locs : List Loc} {ls : Array Slot} (hw : Wd D A s (mT cI cZ) (mW o h cI cZ f g) H locs) (hl : lv_has ls 5 [(0, .ref o), (1, .int x1), (2, .int x2), (3, .int x3), (4, .int x4)]) : W p l e rmX11_works s m args below meth c H locs 0 0 Q (F0 m 188 ls [.int k1, .ref (h 65)]) := by
  unfold wpX11_works_b188 at hh
  refine lv_iconst (v := (1 : Int32)) C.1 C.2.1 dX11_works_188 (by decide) ?_
  refine lv_goto (tgt := 193) C.1 C.2.1 dX11_works_189 (by decide) ?_
  exact tX11_works_b193 C hR hB8 hh hw hl
set_option maxHeartbeats 4000000 in
set_option maxRecDepth 100000 in
theorem tX11_works_b8_body {B8 : (Nat → Int32) → (Nat → Nat → Int32) → Int32 → Int32 → Int32 → Int32 → Prop} {K : Int32 → ((Nat → Int32) × (Nat → Nat → Int32)) → Prop} (C : CallFix p m c cX11_works 5 s args wsX11_works RX11) (hR : Rti .boolean p l e rmX11_works s m args below meth c cX11_works D A (mT cI cZ) (mWu o h cI cZ) K Q) (hB8 : ∀ (f : Nat → Int32) (g : Nat → Nat → Int32) (x1 : Int32) (x2 : Int32) (x3 : Int32) (x4 : Int32) (H : Heap) (locs : List Loc) (ls : Array Slot), B8 f g x1 x2 x3 x4 → Wd D A s (mT cI cZ) (mW o h cI cZ f g) H locs → lv_has ls 5 [(0, .ref o), (1, .int x1), (2, .int x2), (3, .int x3), (4, .int x4)] → W p l e rmX11_works s m args below meth c H locs 0 0 Q (F0 m 8 ls [])) {f : Nat → Int32} {g : Nat → Nat → Int32} {x1 : Int32} {x2 : Int32} {x3 : Int32} {x4 : Int32} (hh : wpX11_works_b8_body B8 f g x1 x2 x3 x4 K) {H : Heap} {locs : List Loc} {ls : Array Slot} (hw : Wd D A s (mT cI cZ) (mW o h cI cZ f g) H locs) (hl : lv_has ls 5 [(0, .ref o), (1, .int x1), (2, .int x2), (3, .int x3), (4, .int x4)]) : W p l e rmX11_works s m args below meth c H locs 0 0 Q (F0 m 8 ls []) := by
  unfold wpX11_works_b8_body at hh
  refine lv_iload C.1 C.2.1 dX11_works_8 (lv_at hl 4 rfl) ?_
  refine lv_aload_n C.1 C.2.1 dX11_works_10 rfl (lv_at hl 0 rfl) ?_
  refine m_ga C hw (inC inW11) 26 (by decide) (wc w_1488) mg_26 dX11_works_11 ?_
  refine lv_iload_n C.1 C.2.1 dX11_works_14 rfl (lv_at hl 1 rfl) ?_
  obtain ⟨hi15, hh⟩ := hh
  refine m_ial C hw mp_26 (x := g 26 (ix x1)) hi15 rfl dX11_works_15 ?_
  refine lv_icmp_ge (tgt := 221) C.1 C.2.1 dX11_works_16 (by decide) (fun c16 => ?_) (fun c16 => ?_)
  · replace hh := hh.1 c16
    refine lv_aload_n C.1 C.2.1 dX11_works_221 rfl (lv_at hl 0 rfl) ?_
    refine m_ga C hw (inC inW11) 26 (by decide) (wc w_1488) mg_26 dX11_works_222 ?_
    refine lv_iload_n C.1 C.2.1 dX11_works_225 rfl (lv_at hl 1 rfl) ?_
    obtain ⟨hi226, hh⟩ := hh
    refine m_ial C hw mp_26 (x := g 26 (ix x1)) hi226 rfl dX11_works_226 ?_
    refine lv_aload_n C.1 C.2.1 dX11_works_227 rfl (lv_at hl 0 rfl) ?_
    refine m_ga C hw (inC inW11) 25 (by decide) (wc w_1487) mg_25 dX11_works_228 ?_
    refine lv_iload_n C.1 C.2.1 dX11_works_231 rfl (lv_at hl 1 rfl) ?_
    obtain ⟨hi232, hh⟩ := hh
    refine m_ial C hw mp_25 (x := g 25 (ix x1)) hi232 rfl dX11_works_232 ?_
    refine lv_icmp_le (tgt := 256) C.1 C.2.1 dX11_works_233 (by decide) (fun c233 => ?_) (fun c233 => ?_)
    · replace hh := hh.1 c233
      exact tX11_works_b256 C hR hh hw (lv_sub hl [0] rfl)
    · replace hh := hh.2 c233
      refine lv_aload_n C.1 C.2.1 dX11_works_236 rfl (lv_at hl 0 rfl) ?_
      refine m_ga C hw (inC inW11) 65 (by decide) (wc w_1527) mg_65 dX11_works_237 ?_
      refine lv_aload_n C.1 C.2.1 dX11_works_240 rfl (lv_at hl 0 rfl) ?_
      refine m_ga C hw (inC inW11) 26 (by decide) (wc w_1488) mg_26 dX11_works_241 ?_
      refine lv_iload_n C.1 C.2.1 dX11_works_244 rfl (lv_at hl 1 rfl) ?_
      obtain ⟨hi245, hh⟩ := hh
      refine m_ial C hw mp_26 (x := g 26 (ix x1)) hi245 rfl dX11_works_245 ?_
      refine lv_iconst (v := (1 : Int32)) C.1 C.2.1 dX11_works_246 (by decide) ?_
      refine lv_isub C.1 C.2.1 dX11_works_247 ?_
      obtain ⟨hi248, hh⟩ := hh
      refine m_zal C hw mp_65 (x := g 65 (ix ((g 26 (ix x1)) - (1 : Int32)))) hi248 rfl dX11_works_248 ?_
      refine lv_if_eq (tgt := 256) C.1 C.2.1 dX11_works_249 (by decide) (fun c249 => ?_) (fun c249 => ?_)
      · replace hh := hh.1 c249
        exact tX11_works_b256 C hR hh hw (lv_sub hl [0] rfl)
      · replace hh := hh.2 c249
        refine lv_iconst (v := (1 : Int32)) C.1 C.2.1 dX11_works_252 (by decide) ?_
        refine lv_goto (tgt := 257) C.1 C.2.1 dX11_works_253 (by decide) ?_
        exact tX11_works_b257 C hR hh hw (lv_sub hl [0] rfl)
  · replace hh := hh.2 c16
    refine lv_aload_n C.1 C.2.1 dX11_works_19 rfl (lv_at hl 0 rfl) ?_
    refine m_ga C hw (inC inW11) 27 (by decide) (wc w_1489) mg_27 dX11_works_20 ?_
    refine lv_iload C.1 C.2.1 dX11_works_23 (lv_at hl 4 rfl) ?_
    obtain ⟨hi25, hh⟩ := hh
    refine m_ial C hw mp_27 (x := g 27 (ix x4)) hi25 rfl dX11_works_25 ?_
    refine sw_in (x := g 27 (ix x4)) (lo := 4) (hi := 7) (fun hlo hhi => ?_) (fun ho => ?_)
    · have hv : (g 27 (ix x4)).toInt = 4 ∨ (g 27 (ix x4)).toInt = 5 ∨ (g 27 (ix x4)).toInt = 6 ∨ (g 27 (ix x4)).toInt = 7 := by omega
      rcases hv with hv | hv | hv | hv
      · replace hh := hh.1 (sw_eq hv (by decide))
        refine lv_tableIn (off := 30) (tgt := 56) C.1 C.2.1 dX11_works_26 hlo hhi (by rw [hv]; rfl) (by decide) ?_
        refine lv_aload_n C.1 C.2.1 dX11_works_56 rfl (lv_at hl 0 rfl) ?_
        refine m_ga C hw (inC inW11) 65 (by decide) (wc w_1527) mg_65 dX11_works_57 ?_
        refine lv_iload C.1 C.2.1 dX11_works_60 (lv_at hl 4 rfl) ?_
        refine lv_iload_n C.1 C.2.1 dX11_works_62 rfl (lv_at hl 2 rfl) ?_
        refine lv_aload_n C.1 C.2.1 dX11_works_63 rfl (lv_at hl 0 rfl) ?_
        refine m_ga C hw (inC inW11) 28 (by decide) (wc w_1490) mg_28 dX11_works_64 ?_
        refine lv_iload C.1 C.2.1 dX11_works_67 (lv_at hl 4 rfl) ?_
        obtain ⟨hi69, hh⟩ := hh
        refine m_ial C hw mp_28 (x := g 28 (ix x4)) hi69 rfl dX11_works_69 ?_
        refine wd_Si C hw (ctX11_isOf l D x2 (g 28 (ix x4)) hh) (va_cwS 2 C.2.2.2.2 (gd_S w_1823 w_1824 (ini_cls rfl w_125) w_1825) rfl rfl rfl cdX11_isOf ⟨Nat.le_of_ble_eq_true rfl, Nat.le_of_ble_eq_true rfl⟩) rfl hl.1 (Nat.le_of_ble_eq_true rfl) dX11_works_70 ⟨Nat.zero_le _, Nat.zero_le _⟩ (fun r70 H locs hh hw => ?_) rfl
        obtain ⟨hi73, hh⟩ := hh
        refine m_zas C hw mp_65 mq_65 hi73 dX11_works_73 (fun H locs hw => ?_)
        refine lv_goto (tgt := 215) C.1 C.2.1 dX11_works_74 (by decide) ?_
        exact tX11_works_b215 C hR hB8 hh hw hl
      · replace hh := hh.2.1 (sw_eq hv (by decide))
        refine lv_tableIn (off := 51) (tgt := 77) C.1 C.2.1 dX11_works_26 hlo hhi (by rw [hv]; rfl) (by decide) ?_
        refine lv_aload_n C.1 C.2.1 dX11_works_77 rfl (lv_at hl 0 rfl) ?_
        refine m_ga C hw (inC inW11) 65 (by decide) (wc w_1527) mg_65 dX11_works_78 ?_
        refine lv_iload C.1 C.2.1 dX11_works_81 (lv_at hl 4 rfl) ?_
        refine lv_aload_n C.1 C.2.1 dX11_works_83 rfl (lv_at hl 0 rfl) ?_
        refine m_ga C hw (inC inW11) 65 (by decide) (wc w_1527) mg_65 dX11_works_84 ?_
        refine lv_aload_n C.1 C.2.1 dX11_works_87 rfl (lv_at hl 0 rfl) ?_
        refine m_ga C hw (inC inW11) 28 (by decide) (wc w_1490) mg_28 dX11_works_88 ?_
        refine lv_iload C.1 C.2.1 dX11_works_91 (lv_at hl 4 rfl) ?_
        obtain ⟨hi93, hh⟩ := hh
        refine m_ial C hw mp_28 (x := g 28 (ix x4)) hi93 rfl dX11_works_93 ?_
        obtain ⟨hi94, hh⟩ := hh
        refine m_zal C hw mp_65 (x := g 65 (ix (g 28 (ix x4)))) hi94 rfl dX11_works_94 ?_
        refine lv_if_ne (tgt := 102) C.1 C.2.1 dX11_works_95 (by decide) (fun c95 => ?_) (fun c95 => ?_)
        · replace hh := hh.1 c95
          refine lv_iconst (v := (0 : Int32)) C.1 C.2.1 dX11_works_102 (by decide) ?_
          exact tX11_works_b103 C hR hB8 hh hw hl
        · replace hh := hh.2 c95
          refine lv_iconst (v := (1 : Int32)) C.1 C.2.1 dX11_works_98 (by decide) ?_
          refine lv_goto (tgt := 103) C.1 C.2.1 dX11_works_99 (by decide) ?_
          exact tX11_works_b103 C hR hB8 hh hw hl
      · replace hh := hh.2.2.1 (sw_eq hv (by decide))
        refine lv_tableIn (off := 81) (tgt := 107) C.1 C.2.1 dX11_works_26 hlo hhi (by rw [hv]; rfl) (by decide) ?_
        refine lv_aload_n C.1 C.2.1 dX11_works_107 rfl (lv_at hl 0 rfl) ?_
        refine m_ga C hw (inC inW11) 65 (by decide) (wc w_1527) mg_65 dX11_works_108 ?_
        refine lv_iload C.1 C.2.1 dX11_works_111 (lv_at hl 4 rfl) ?_
        refine lv_aload_n C.1 C.2.1 dX11_works_113 rfl (lv_at hl 0 rfl) ?_
        refine m_ga C hw (inC inW11) 65 (by decide) (wc w_1527) mg_65 dX11_works_114 ?_
        refine lv_aload_n C.1 C.2.1 dX11_works_117 rfl (lv_at hl 0 rfl) ?_
        refine m_ga C hw (inC inW11) 28 (by decide) (wc w_1490) mg_28 dX11_works_118 ?_
        refine lv_iload C.1 C.2.1 dX11_works_121 (lv_at hl 4 rfl) ?_
        obtain ⟨hi123, hh⟩ := hh
        refine m_ial C hw mp_28 (x := g 28 (ix x4)) hi123 rfl dX11_works_123 ?_
        obtain ⟨hi124, hh⟩ := hh
        refine m_zal C hw mp_65 (x := g 65 (ix (g 28 (ix x4)))) hi124 rfl dX11_works_124 ?_
        refine lv_if_eq (tgt := 147) C.1 C.2.1 dX11_works_125 (by decide) (fun c125 => ?_) (fun c125 => ?_)
        · replace hh := hh.1 c125
          exact tX11_works_b147 C hR hB8 hh hw hl
        · replace hh := hh.2 c125
          refine lv_aload_n C.1 C.2.1 dX11_works_128 rfl (lv_at hl 0 rfl) ?_
          refine m_ga C hw (inC inW11) 65 (by decide) (wc w_1527) mg_65 dX11_works_129 ?_
          refine lv_aload_n C.1 C.2.1 dX11_works_132 rfl (lv_at hl 0 rfl) ?_
          refine m_ga C hw (inC inW11) 29 (by decide) (wc w_1491) mg_29 dX11_works_133 ?_
          refine lv_iload C.1 C.2.1 dX11_works_136 (lv_at hl 4 rfl) ?_
          obtain ⟨hi138, hh⟩ := hh
          refine m_ial C hw mp_29 (x := g 29 (ix x4)) hi138 rfl dX11_works_138 ?_
          obtain ⟨hi139, hh⟩ := hh
          refine m_zal C hw mp_65 (x := g 65 (ix (g 29 (ix x4)))) hi139 rfl dX11_works_139 ?_
          refine lv_if_eq (tgt := 147) C.1 C.2.1 dX11_works_140 (by decide) (fun c140 => ?_) (fun c140 => ?_)
          · replace hh := hh.1 c140
            exact tX11_works_b147 C hR hB8 hh hw hl
          · replace hh := hh.2 c140
            refine lv_iconst (v := (1 : Int32)) C.1 C.2.1 dX11_works_143 (by decide) ?_
            refine lv_goto (tgt := 148) C.1 C.2.1 dX11_works_144 (by decide) ?_
            exact tX11_works_b148 C hR hB8 hh hw hl
      · replace hh := hh.2.2.2.1 (sw_eq hv (by decide))
        refine lv_tableIn (off := 126) (tgt := 152) C.1 C.2.1 dX11_works_26 hlo hhi (by rw [hv]; rfl) (by decide) ?_
        refine lv_aload_n C.1 C.2.1 dX11_works_152 rfl (lv_at hl 0 rfl) ?_
        refine m_ga C hw (inC inW11) 65 (by decide) (wc w_1527) mg_65 dX11_works_153 ?_
        refine lv_iload C.1 C.2.1 dX11_works_156 (lv_at hl 4 rfl) ?_
        refine lv_aload_n C.1 C.2.1 dX11_works_158 rfl (lv_at hl 0 rfl) ?_
        refine m_ga C hw (inC inW11) 65 (by decide) (wc w_1527) mg_65 dX11_works_159 ?_
        refine lv_aload_n C.1 C.2.1 dX11_works_162 rfl (lv_at hl 0 rfl) ?_
        refine m_ga C hw (inC inW11) 28 (by decide) (wc w_1490) mg_28 dX11_works_163 ?_
        refine lv_iload C.1 C.2.1 dX11_works_166 (lv_at hl 4 rfl) ?_
        obtain ⟨hi168, hh⟩ := hh
        refine m_ial C hw mp_28 (x := g 28 (ix x4)) hi168 rfl dX11_works_168 ?_
        obtain ⟨hi169, hh⟩ := hh
        refine m_zal C hw mp_65 (x := g 65 (ix (g 28 (ix x4)))) hi169 rfl dX11_works_169 ?_
        refine lv_if_ne (tgt := 188) C.1 C.2.1 dX11_works_170 (by decide) (fun c170 => ?_) (fun c170 => ?_)
        · replace hh := hh.1 c170
          exact tX11_works_b188 C hR hB8 hh hw hl
        · replace hh := hh.2 c170
          refine lv_aload_n C.1 C.2.1 dX11_works_173 rfl (lv_at hl 0 rfl) ?_
          refine m_ga C hw (inC inW11) 65 (by decide) (wc w_1527) mg_65 dX11_works_174 ?_
          refine lv_aload_n C.1 C.2.1 dX11_works_177 rfl (lv_at hl 0 rfl) ?_
          refine m_ga C hw (inC inW11) 29 (by decide) (wc w_1491) mg_29 dX11_works_178 ?_
          refine lv_iload C.1 C.2.1 dX11_works_181 (lv_at hl 4 rfl) ?_
          obtain ⟨hi183, hh⟩ := hh
          refine m_ial C hw mp_29 (x := g 29 (ix x4)) hi183 rfl dX11_works_183 ?_
          obtain ⟨hi184, hh⟩ := hh
          refine m_zal C hw mp_65 (x := g 65 (ix (g 29 (ix x4)))) hi184 rfl dX11_works_184 ?_
          refine lv_if_eq (tgt := 192) C.1 C.2.1 dX11_works_185 (by decide) (fun c185 => ?_) (fun c185 => ?_)
          · replace hh := hh.1 c185
            refine lv_iconst (v := (0 : Int32)) C.1 C.2.1 dX11_works_192 (by decide) ?_
            exact tX11_works_b193 C hR hB8 hh hw hl
          · replace hh := hh.2 c185
            exact tX11_works_b188 C hR hB8 hh hw hl
    · replace hh := hh.2.2.2.2 ho
      refine lv_tableOut (tgt := 197) C.1 C.2.1 dX11_works_26 ho (by decide) ?_
      refine lv_aload_n C.1 C.2.1 dX11_works_197 rfl (lv_at hl 0 rfl) ?_
      refine m_ga C hw (inC inW11) 65 (by decide) (wc w_1527) mg_65 dX11_works_198 ?_
      refine lv_iload C.1 C.2.1 dX11_works_201 (lv_at hl 4 rfl) ?_
      refine lv_iload_n C.1 C.2.1 dX11_works_203 rfl (lv_at hl 3 rfl) ?_
      refine lv_aload_n C.1 C.2.1 dX11_works_204 rfl (lv_at hl 0 rfl) ?_
      refine m_ga C hw (inC inW11) 27 (by decide) (wc w_1489) mg_27 dX11_works_205 ?_
      refine lv_iload C.1 C.2.1 dX11_works_208 (lv_at hl 4 rfl) ?_
      obtain ⟨hi210, hh⟩ := hh
      refine m_ial C hw mp_27 (x := g 27 (ix x4)) hi210 rfl dX11_works_210 ?_
      refine wd_Si C hw (ctX11_isOf l D x3 (g 27 (ix x4)) hh) (va_cwS 2 C.2.2.2.2 (gd_S w_1823 w_1824 (ini_cls rfl w_125) w_1825) rfl rfl rfl cdX11_isOf ⟨Nat.le_of_ble_eq_true rfl, Nat.le_of_ble_eq_true rfl⟩) rfl hl.1 (Nat.le_of_ble_eq_true rfl) dX11_works_211 ⟨Nat.zero_le _, Nat.zero_le _⟩ (fun r211 H locs hh hw => ?_) rfl
      obtain ⟨hi214, hh⟩ := hh
      refine m_zas C hw mp_65 mq_65 hi214 dX11_works_214 (fun H locs hw => ?_)
      exact tX11_works_b215 C hR hB8 hh hw hl
theorem tX11_works_b8 {K : Int32 → ((Nat → Int32) × (Nat → Nat → Int32)) → Prop} (C : CallFix p m c cX11_works 5 s args wsX11_works RX11) (hR : Rti .boolean p l e rmX11_works s m args below meth c cX11_works D A (mT cI cZ) (mWu o h cI cZ) K Q) (n : Nat) : ∀ (f : Nat → Int32) (g : Nat → Nat → Int32) (x1 : Int32) (x2 : Int32) (x3 : Int32) (x4 : Int32) (H : Heap) (locs : List Loc) (ls : Array Slot), wpX11_works_b8 n f g x1 x2 x3 x4 K → Wd D A s (mT cI cZ) (mW o h cI cZ f g) H locs → lv_has ls 5 [(0, .ref o), (1, .int x1), (2, .int x2), (3, .int x3), (4, .int x4)] → W p l e rmX11_works s m args below meth c H locs 0 0 Q (F0 m 8 ls []) := by
  induction n with
  | zero => intro f g x1 x2 x3 x4 H locs ls hh; exact hh.elim
  | succ n ih => intro f g x1 x2 x3 x4 H locs ls hh hw hl; exact tX11_works_b8_body C hR ih hh hw hl
set_option maxHeartbeats 4000000 in
set_option maxRecDepth 100000 in
theorem tX11_works_b0 {K : Int32 → ((Nat → Int32) × (Nat → Nat → Int32)) → Prop} (C : CallFix p m c cX11_works 5 s args wsX11_works RX11) (hR : Rti .boolean p l e rmX11_works s m args below meth c cX11_works D A (mT cI cZ) (mWu o h cI cZ) K Q) {f : Nat → Int32} {g : Nat → Nat → Int32} {x1 : Int32} {x2 : Int32} {x3 : Int32} (hh : wpX11_works_b0 f g x1 x2 x3 K) {H : Heap} {locs : List Loc} {ls : Array Slot} (hw : Wd D A s (mT cI cZ) (mW o h cI cZ f g) H locs) (hl : lv_has ls 5 [(0, .ref o), (1, .int x1), (2, .int x2), (3, .int x3)]) : W p l e rmX11_works s m args below meth c H locs 0 0 Q (F0 m 0 ls []) := by
  unfold wpX11_works_b0 at hh
  refine lv_aload_n C.1 C.2.1 dX11_works_0 rfl (lv_at hl 0 rfl) ?_
  refine m_ga C hw (inC inW11) 25 (by decide) (wc w_1487) mg_25 dX11_works_1 ?_
  refine lv_iload_n C.1 C.2.1 dX11_works_4 rfl (lv_at hl 1 rfl) ?_
  obtain ⟨hi5, hh⟩ := hh
  refine m_ial C hw mp_25 (x := g 25 (ix x1)) hi5 rfl dX11_works_5 ?_
  refine lv_istore (lv' := [(4, .int (g 25 (ix x1))), (0, .ref o), (1, .int x1), (2, .int x2), (3, .int x3)]) C.1 C.2.1 dX11_works_6 hl (by decide) rfl (fun ls hl => ?_)
  obtain ⟨n, hh⟩ := hh
  exact tX11_works_b8 C hR n _ _ _ _ _ _ _ _ _ hh hw (lv_sub hl [1, 2, 3, 4, 0] rfl)
theorem ctX11_works (l : Launch) (D : va_G) (o : Nat) (h : Nat → Nat) (cI cZ : ClassId) (f : Nat → Int32) (g : Nat → Nat → Int32) (x1 : Int32) (x2 : Int32) (x3 : Int32) {K : Int32 → ((Nat → Int32) × (Nat → Nat → Int32)) → Prop} (hh : wpX11_works f g x1 x2 x3 K) : Ci l yX11_works wsX11_works rmX11_works [.ref o, .int x1, .int x2, .int x3] D (mT cI cZ) (mWu o h cI cZ) (f, g) K := by
  refine Ci_of (cc := cX11_works) (maxL := 5) (by decide) rfl (Nat.le_of_ble_eq_true rfl) ?_
  intro p e s m below meth c A Q C hw hR ls hl
  exact tX11_works_b0 C hR hh hw hl
theorem cdX11_works : yX11_works.cls = RX11 ∧ yX11_works.cls ≠ "java/lang/invoke/MethodHandle" ∧ yX11_works.cls ≠ "java/lang/invoke/VarHandle" ∧ (parseMethodDescriptor yX11_works.desc).map (fun d => d.parameters.length) = some 3 := by decide +kernel
abbrev rmX11_pulls : Room := { frames := 3, cells := 0, slots := 0, locals := 63 }
set_option maxHeartbeats 4000000 in
set_option maxRecDepth 100000 in
theorem tX11_pulls_b172 {K : ((Nat → Int32) × (Nat → Nat → Int32)) → Prop} (C : CallFix p m c cX11_pulls 6 s args wsX11_pulls RX11) (hR : Rtv p l e rmX11_pulls s m args below meth c cX11_pulls D A (mT cI cZ) (mWu o h cI cZ) K Q) {f : Nat → Int32} {g : Nat → Nat → Int32} (hh : wpX11_pulls_b172 f g K) {H : Heap} {locs : List Loc} {ls : Array Slot} (hw : Wd D A s (mT cI cZ) (mW o h cI cZ f g) H locs) (hl : lv_has ls 6 [(0, .ref o)]) : W p l e rmX11_pulls s m args below meth c H locs 0 0 Q (F0 m 172 ls []) := by
  unfold wpX11_pulls_b172 at hh
  exact hR _ _ (f, g) _ _ dX11_pulls_172 hh hw
set_option maxHeartbeats 4000000 in
set_option maxRecDepth 100000 in
theorem tX11_pulls_b163 {K : ((Nat → Int32) × (Nat → Nat → Int32)) → Prop} (C : CallFix p m c cX11_pulls 6 s args wsX11_pulls RX11) (hR : Rtv p l e rmX11_pulls s m args below meth c cX11_pulls D A (mT cI cZ) (mWu o h cI cZ) K Q) {f : Nat → Int32} {g : Nat → Nat → Int32} {x5 : Int32} (hh : wpX11_pulls_b163 f g x5 K) {H : Heap} {locs : List Loc} {ls : Array Slot} (hw : Wd D A s (mT cI cZ) (mW o h cI cZ f g) H locs) (hl : lv_has ls 6 [(0, .ref o), (5, .int x5)]) : W p l e rmX11_pulls s m args below meth c H locs 0 0 Q (F0 m 163 ls []) := by
  unfold wpX11_pulls_b163 at hh
  refine lv_iload C.1 C.2.1 dX11_pulls_163 (lv_at hl 1 rfl) ?_
  refine lv_if_eq (tgt := 172) C.1 C.2.1 dX11_pulls_165 (by decide) (fun c165 => ?_) (fun c165 => ?_)
  · replace hh := hh.1 c165
    exact tX11_pulls_b172 C hR hh hw (lv_sub hl [0] rfl)
  · replace hh := hh.2 c165
    refine lv_aload_n C.1 C.2.1 dX11_pulls_168 rfl (lv_at hl 0 rfl) ?_
    refine m_Vv C hw (ctX11_goes l D o h cI cZ f g  hh) (cwV 0 C.2.2.2.2 (gd_V w_1866 w_1868 w_88 w_125 w_1869) rfl rfl rfl cdX11_goes ⟨Nat.le_of_ble_eq_true rfl, Nat.le_of_ble_eq_true rfl⟩) rfl hl.1 (Nat.le_of_ble_eq_true rfl) dX11_pulls_169 ⟨Nat.zero_le _, Nat.zero_le _⟩ (fun u169 H locs hh hw => ?_) rfl
    exact tX11_pulls_b172 C hR hh hw (lv_sub hl [0] rfl)
set_option maxHeartbeats 4000000 in
set_option maxRecDepth 100000 in
theorem tX11_pulls_b146 {K : ((Nat → Int32) × (Nat → Nat → Int32)) → Prop} (C : CallFix p m c cX11_pulls 6 s args wsX11_pulls RX11) (hR : Rtv p l e rmX11_pulls s m args below meth c cX11_pulls D A (mT cI cZ) (mWu o h cI cZ) K Q) {f : Nat → Int32} {g : Nat → Nat → Int32} {x4 : Int32} {x5 : Int32} (hh : wpX11_pulls_b146 f g x4 x5 K) {H : Heap} {locs : List Loc} {ls : Array Slot} (hw : Wd D A s (mT cI cZ) (mW o h cI cZ f g) H locs) (hl : lv_has ls 6 [(0, .ref o), (4, .int x4), (5, .int x5)]) : W p l e rmX11_pulls s m args below meth c H locs 0 0 Q (F0 m 146 ls []) := by
  unfold wpX11_pulls_b146 at hh
  refine lv_iload C.1 C.2.1 dX11_pulls_146 (lv_at hl 1 rfl) ?_
  refine lv_if_eq (tgt := 163) C.1 C.2.1 dX11_pulls_148 (by decide) (fun c148 => ?_) (fun c148 => ?_)
  · replace hh := hh.1 c148
    exact tX11_pulls_b163 C hR hh hw (lv_sub hl [0, 2] rfl)
  · replace hh := hh.2 c148
    refine lv_aload_n C.1 C.2.1 dX11_pulls_151 rfl (lv_at hl 0 rfl) ?_
    refine lv_aload_n C.1 C.2.1 dX11_pulls_152 rfl (lv_at hl 0 rfl) ?_
    refine m_gi C hw (inC inW11) 42 (by decide) (wc w_1504) mg_42 (x := f 42) rfl dX11_pulls_153 ?_
    refine lv_iconst (v := (1 : Int32)) C.1 C.2.1 dX11_pulls_156 (by decide) ?_
    refine lv_iadd C.1 C.2.1 dX11_pulls_157 ?_
    refine lv_iconst (v := (4 : Int32)) C.1 C.2.1 dX11_pulls_158 (by decide) ?_
    refine g_irem C dX11_pulls_159 (by decide) ?_
    refine m_pi C hw (inC inW11) 42 (by decide) (wc w_1504) rfl (ty := .int) (by decide +kernel) rfl rfl (Nat.le_of_ble_eq_true rfl) ms_42 dX11_pulls_160 (fun H locs hw => ?_)
    exact tX11_pulls_b163 C hR hh hw (lv_sub hl [0, 2] rfl)
set_option maxHeartbeats 4000000 in
set_option maxRecDepth 100000 in
theorem tX11_pulls_b101 {K : ((Nat → Int32) × (Nat → Nat → Int32)) → Prop} (C : CallFix p m c cX11_pulls 6 s args wsX11_pulls RX11) (hR : Rtv p l e rmX11_pulls s m args below meth c cX11_pulls D A (mT cI cZ) (mWu o h cI cZ) K Q) {f : Nat → Int32} {g : Nat → Nat → Int32} {x1 : Int32} {x2 : Int32} (hh : wpX11_pulls_b101 f g x1 x2 K) {H : Heap} {locs : List Loc} {ls : Array Slot} (hw : Wd D A s (mT cI cZ) (mW o h cI cZ f g) H locs) (hl : lv_has ls 6 [(0, .ref o), (1, .int x1), (2, .int x2)]) : W p l e rmX11_pulls s m args below meth c H locs 0 0 Q (F0 m 101 ls []) := by
  unfold wpX11_pulls_b101 at hh
  refine lv_aload_n C.1 C.2.1 dX11_pulls_101 rfl (lv_at hl 0 rfl) ?_
  refine lv_bipush (v := (21 : Int32)) C.1 C.2.1 dX11_pulls_102 (by decide) ?_
  refine lv_iload_n C.1 C.2.1 dX11_pulls_104 rfl (lv_at hl 2 rfl) ?_
  refine lv_iload_n C.1 C.2.1 dX11_pulls_105 rfl (lv_at hl 1 rfl) ?_
  refine m_Vi C hw (ctX11_works l D o h cI cZ f g (21 : Int32) x2 x1 hh) (cwV 3 C.2.2.2.2 (gd_V w_1985 w_1987 w_105 w_125 w_1988) rfl rfl rfl cdX11_works ⟨Nat.le_of_ble_eq_true rfl, Nat.le_of_ble_eq_true rfl⟩) rfl hl.1 (Nat.le_of_ble_eq_true rfl) dX11_pulls_106 ⟨Nat.zero_le _, Nat.zero_le _⟩ (fun r106 u106 H locs hh hw => ?_) rfl
  refine lv_istore_n (lv' := [(3, .int r106), (0, .ref o), (1, .int x1), (2, .int x2)]) C.1 C.2.1 dX11_pulls_109 rfl hl (by decide) rfl (fun ls hl => ?_)
  refine lv_aload_n C.1 C.2.1 dX11_pulls_110 rfl (lv_at hl 1 rfl) ?_
  refine lv_bipush (v := (22 : Int32)) C.1 C.2.1 dX11_pulls_111 (by decide) ?_
  refine lv_iload_n C.1 C.2.1 dX11_pulls_113 rfl (lv_at hl 3 rfl) ?_
  refine lv_iload_n C.1 C.2.1 dX11_pulls_114 rfl (lv_at hl 2 rfl) ?_
  refine m_Vi C hw (ctX11_works l D o h cI cZ u106.1 u106.2 (22 : Int32) x2 x1 hh) (cwV 3 C.2.2.2.2 (gd_V w_1985 w_1987 w_105 w_125 w_1988) rfl rfl rfl cdX11_works ⟨Nat.le_of_ble_eq_true rfl, Nat.le_of_ble_eq_true rfl⟩) rfl hl.1 (Nat.le_of_ble_eq_true rfl) dX11_pulls_115 ⟨Nat.zero_le _, Nat.zero_le _⟩ (fun r115 u115 H locs hh hw => ?_) rfl
  refine lv_istore (lv' := [(4, .int r115), (3, .int r106), (0, .ref o), (1, .int x1), (2, .int x2)]) C.1 C.2.1 dX11_pulls_118 hl (by decide) rfl (fun ls hl => ?_)
  refine lv_aload_n C.1 C.2.1 dX11_pulls_120 rfl (lv_at hl 2 rfl) ?_
  refine lv_bipush (v := (20 : Int32)) C.1 C.2.1 dX11_pulls_121 (by decide) ?_
  refine lv_iload_n C.1 C.2.1 dX11_pulls_123 rfl (lv_at hl 4 rfl) ?_
  refine lv_iload_n C.1 C.2.1 dX11_pulls_124 rfl (lv_at hl 3 rfl) ?_
  refine m_Vi C hw (ctX11_works l D o h cI cZ u115.1 u115.2 (20 : Int32) x2 x1 hh) (cwV 3 C.2.2.2.2 (gd_V w_1985 w_1987 w_105 w_125 w_1988) rfl rfl rfl cdX11_works ⟨Nat.le_of_ble_eq_true rfl, Nat.le_of_ble_eq_true rfl⟩) rfl hl.1 (Nat.le_of_ble_eq_true rfl) dX11_pulls_125 ⟨Nat.zero_le _, Nat.zero_le _⟩ (fun r125 u125 H locs hh hw => ?_) rfl
  refine lv_istore (lv' := [(5, .int r125), (4, .int r115), (3, .int r106), (0, .ref o), (1, .int x1), (2, .int x2)]) C.1 C.2.1 dX11_pulls_128 hl (by decide) rfl (fun ls hl => ?_)
  refine lv_iload_n C.1 C.2.1 dX11_pulls_130 rfl (lv_at hl 2 rfl) ?_
  refine lv_if_eq (tgt := 146) C.1 C.2.1 dX11_pulls_131 (by decide) (fun c131 => ?_) (fun c131 => ?_)
  · replace hh := hh.1 c131
    exact tX11_pulls_b146 C hR hh hw (lv_sub hl [3, 1, 0] rfl)
  · replace hh := hh.2 c131
    refine lv_aload_n C.1 C.2.1 dX11_pulls_134 rfl (lv_at hl 3 rfl) ?_
    refine lv_aload_n C.1 C.2.1 dX11_pulls_135 rfl (lv_at hl 3 rfl) ?_
    refine m_gi C hw (inC inW11) 42 (by decide) (wc w_1504) mg_42 (x := u125.1 42) rfl dX11_pulls_136 ?_
    refine lv_iconst (v := (3 : Int32)) C.1 C.2.1 dX11_pulls_139 (by decide) ?_
    refine lv_iadd C.1 C.2.1 dX11_pulls_140 ?_
    refine lv_iconst (v := (4 : Int32)) C.1 C.2.1 dX11_pulls_141 (by decide) ?_
    refine g_irem C dX11_pulls_142 (by decide) ?_
    refine m_pi C hw (inC inW11) 42 (by decide) (wc w_1504) rfl (ty := .int) (by decide +kernel) rfl rfl (Nat.le_of_ble_eq_true rfl) ms_42 dX11_pulls_143 (fun H locs hw => ?_)
    exact tX11_pulls_b146 C hR hh hw (lv_sub hl [3, 1, 0] rfl)
set_option maxHeartbeats 4000000 in
set_option maxRecDepth 100000 in
theorem tX11_pulls_b64 {B9 : (Nat → Int32) → (Nat → Nat → Int32) → Int32 → Int32 → Int32 → Prop} {K : ((Nat → Int32) × (Nat → Nat → Int32)) → Prop} (C : CallFix p m c cX11_pulls 6 s args wsX11_pulls RX11) (hR : Rtv p l e rmX11_pulls s m args below meth c cX11_pulls D A (mT cI cZ) (mWu o h cI cZ) K Q) (hB9 : ∀ (f : Nat → Int32) (g : Nat → Nat → Int32) (x1 : Int32) (x2 : Int32) (x3 : Int32) (H : Heap) (locs : List Loc) (ls : Array Slot), B9 f g x1 x2 x3 → Wd D A s (mT cI cZ) (mW o h cI cZ f g) H locs → lv_has ls 6 [(0, .ref o), (1, .int x1), (2, .int x2), (3, .int x3)] → W p l e rmX11_pulls s m args below meth c H locs 0 0 Q (F0 m 9 ls [])) {f : Nat → Int32} {g : Nat → Nat → Int32} {k0 : Int32} {k1 : Int32} {x1 : Int32} {x3 : Int32} (hh : wpX11_pulls_b64 B9 f g k0 k1 x1 x3 K) {H : Heap} {locs : List Loc} {ls : Array Slot} (hw : Wd D A s (mT cI cZ) (mW o h cI cZ f g) H locs) (hl : lv_has ls 6 [(0, .ref o), (1, .int x1), (3, .int x3)]) : W p l e rmX11_pulls s m args below meth c H locs 0 0 Q (F0 m 64 ls [.int k1, .int k0]) := by
  unfold wpX11_pulls_b64 at hh
  refine lv_ior C.1 C.2.1 dX11_pulls_64 ?_
  refine lv_istore_n (lv' := [(2, .int (k0 ||| k1)), (0, .ref o), (1, .int x1), (3, .int x3)]) C.1 C.2.1 dX11_pulls_65 rfl hl (by decide) rfl (fun ls hl => ?_)
  refine lv_iinc (v := x3 + (1 : Int32)) (lv' := [(3, .int (x3 + (1 : Int32))), (2, .int (k0 ||| k1)), (0, .ref o), (1, .int x1)]) C.1 C.2.1 dX11_pulls_66 hl (k := 3) rfl rfl (by decide) rfl (fun ls hl => ?_)
  refine lv_goto (tgt := 9) C.1 C.2.1 dX11_pulls_69 (by decide) ?_
  exact hB9 _ _ _ _ _ _ _ _ hh hw (lv_sub hl [2, 3, 1, 0] rfl)
set_option maxHeartbeats 4000000 in
set_option maxRecDepth 100000 in
theorem tX11_pulls_b49 {B9 : (Nat → Int32) → (Nat → Nat → Int32) → Int32 → Int32 → Int32 → Prop} {K : ((Nat → Int32) × (Nat → Nat → Int32)) → Prop} (C : CallFix p m c cX11_pulls 6 s args wsX11_pulls RX11) (hR : Rtv p l e rmX11_pulls s m args below meth c cX11_pulls D A (mT cI cZ) (mWu o h cI cZ) K Q) (hB9 : ∀ (f : Nat → Int32) (g : Nat → Nat → Int32) (x1 : Int32) (x2 : Int32) (x3 : Int32) (H : Heap) (locs : List Loc) (ls : Array Slot), B9 f g x1 x2 x3 → Wd D A s (mT cI cZ) (mW o h cI cZ f g) H locs → lv_has ls 6 [(0, .ref o), (1, .int x1), (2, .int x2), (3, .int x3)] → W p l e rmX11_pulls s m args below meth c H locs 0 0 Q (F0 m 9 ls [])) {f : Nat → Int32} {g : Nat → Nat → Int32} {k0 : Int32} {x1 : Int32} {x2 : Int32} {x3 : Int32} (hh : wpX11_pulls_b49 B9 f g k0 x1 x2 x3 K) {H : Heap} {locs : List Loc} {ls : Array Slot} (hw : Wd D A s (mT cI cZ) (mW o h cI cZ f g) H locs) (hl : lv_has ls 6 [(0, .ref o), (1, .int x1), (2, .int x2), (3, .int x3)]) : W p l e rmX11_pulls s m args below meth c H locs 0 0 Q (F0 m 49 ls [.int k0]) := by
  unfold wpX11_pulls_b49 at hh
  refine lv_istore (lv' := [(4, .int k0), (0, .ref o), (1, .int x1), (2, .int x2), (3, .int x3)]) C.1 C.2.1 dX11_pulls_49 hl (by decide) rfl (fun ls hl => ?_)
  refine lv_iload_n C.1 C.2.1 dX11_pulls_51 rfl (lv_at hl 3 rfl) ?_
  refine lv_iload C.1 C.2.1 dX11_pulls_52 (lv_at hl 0 rfl) ?_
  refine lv_if_eq (tgt := 63) C.1 C.2.1 dX11_pulls_54 (by decide) (fun c54 => ?_) (fun c54 => ?_)
  · replace hh := hh.1 c54
    refine lv_iconst (v := (0 : Int32)) C.1 C.2.1 dX11_pulls_63 (by decide) ?_
    exact tX11_pulls_b64 C hR hB9 hh hw (lv_sub hl [1, 2, 4] rfl)
  · replace hh := hh.2 c54
    refine lv_iconst (v := (1 : Int32)) C.1 C.2.1 dX11_pulls_57 (by decide) ?_
    refine lv_iload_n C.1 C.2.1 dX11_pulls_58 rfl (lv_at hl 4 rfl) ?_
    refine g_ishl C dX11_pulls_59 ?_
    refine lv_goto (tgt := 64) C.1 C.2.1 dX11_pulls_60 (by decide) ?_
    exact tX11_pulls_b64 C hR hB9 hh hw (lv_sub hl [1, 2, 4] rfl)
set_option maxHeartbeats 4000000 in
set_option maxRecDepth 100000 in
theorem tX11_pulls_b9_body {B9 : (Nat → Int32) → (Nat → Nat → Int32) → Int32 → Int32 → Int32 → Prop} {K : ((Nat → Int32) × (Nat → Nat → Int32)) → Prop} (C : CallFix p m c cX11_pulls 6 s args wsX11_pulls RX11) (hR : Rtv p l e rmX11_pulls s m args below meth c cX11_pulls D A (mT cI cZ) (mWu o h cI cZ) K Q) (hB9 : ∀ (f : Nat → Int32) (g : Nat → Nat → Int32) (x1 : Int32) (x2 : Int32) (x3 : Int32) (H : Heap) (locs : List Loc) (ls : Array Slot), B9 f g x1 x2 x3 → Wd D A s (mT cI cZ) (mW o h cI cZ f g) H locs → lv_has ls 6 [(0, .ref o), (1, .int x1), (2, .int x2), (3, .int x3)] → W p l e rmX11_pulls s m args below meth c H locs 0 0 Q (F0 m 9 ls [])) {f : Nat → Int32} {g : Nat → Nat → Int32} {x1 : Int32} {x2 : Int32} {x3 : Int32} (hh : wpX11_pulls_b9_body B9 f g x1 x2 x3 K) {H : Heap} {locs : List Loc} {ls : Array Slot} (hw : Wd D A s (mT cI cZ) (mW o h cI cZ f g) H locs) (hl : lv_has ls 6 [(0, .ref o), (1, .int x1), (2, .int x2), (3, .int x3)]) : W p l e rmX11_pulls s m args below meth c H locs 0 0 Q (F0 m 9 ls []) := by
  unfold wpX11_pulls_b9_body at hh
  refine lv_iload_n C.1 C.2.1 dX11_pulls_9 rfl (lv_at hl 3 rfl) ?_
  refine lv_aload_n C.1 C.2.1 dX11_pulls_10 rfl (lv_at hl 0 rfl) ?_
  refine m_gi C hw (inC inW11) 20 (by decide) (wc w_1482) mg_20 (x := f 20) rfl dX11_pulls_11 ?_
  refine lv_icmp_ge (tgt := 72) C.1 C.2.1 dX11_pulls_14 (by decide) (fun c14 => ?_) (fun c14 => ?_)
  · replace hh := hh.1 c14
    refine lv_aload_n C.1 C.2.1 dX11_pulls_72 rfl (lv_at hl 0 rfl) ?_
    refine lv_iload_n C.1 C.2.1 dX11_pulls_73 rfl (lv_at hl 2 rfl) ?_
    refine m_pi C hw (inC inW11) 45 (by decide) (wc w_1507) rfl (ty := .int) (by decide +kernel) rfl rfl (Nat.le_of_ble_eq_true rfl) ms_45 dX11_pulls_74 (fun H locs hw => ?_)
    refine lv_aload_n C.1 C.2.1 dX11_pulls_77 rfl (lv_at hl 0 rfl) ?_
    refine lv_bipush (v := (23 : Int32)) C.1 C.2.1 dX11_pulls_78 (by decide) ?_
    refine lv_iload_n C.1 C.2.1 dX11_pulls_80 rfl (lv_at hl 2 rfl) ?_
    refine lv_iload_n C.1 C.2.1 dX11_pulls_81 rfl (lv_at hl 1 rfl) ?_
    refine m_Vi C hw (ctX11_works l D o h cI cZ (upd f 45 x2) g (23 : Int32) x2 x1 hh) (cwV 3 C.2.2.2.2 (gd_V w_1985 w_1987 w_105 w_125 w_1988) rfl rfl rfl cdX11_works ⟨Nat.le_of_ble_eq_true rfl, Nat.le_of_ble_eq_true rfl⟩) rfl hl.1 (Nat.le_of_ble_eq_true rfl) dX11_pulls_82 ⟨Nat.zero_le _, Nat.zero_le _⟩ (fun r82 u82 H locs hh hw => ?_) rfl
    refine lv_if_eq (tgt := 101) C.1 C.2.1 dX11_pulls_85 (by decide) (fun c85 => ?_) (fun c85 => ?_)
    · replace hh := hh.1 c85
      exact tX11_pulls_b101 C hR hh hw (lv_sub hl [0, 1, 2] rfl)
    · replace hh := hh.2 c85
      refine lv_aload_n C.1 C.2.1 dX11_pulls_88 rfl (lv_at hl 0 rfl) ?_
      refine m_ga C hw (inC inW11) 47 (by decide) (wc w_1509) mg_47 dX11_pulls_89 ?_
      refine lv_aload_n C.1 C.2.1 dX11_pulls_92 rfl (lv_at hl 0 rfl) ?_
      refine m_gi C hw (inC inW11) 41 (by decide) (wc w_1503) mg_41 (x := u82.1 41) rfl dX11_pulls_93 ?_
      refine lv_aload_n C.1 C.2.1 dX11_pulls_96 rfl (lv_at hl 0 rfl) ?_
      refine m_gi C hw (inC inW11) 42 (by decide) (wc w_1504) mg_42 (x := u82.1 42) rfl dX11_pulls_97 ?_
      obtain ⟨hi100, hh⟩ := hh
      refine m_ias C hw mp_47 mq_47 hi100 dX11_pulls_100 (fun H locs hw => ?_)
      exact tX11_pulls_b101 C hR hh hw (lv_sub hl [0, 1, 2] rfl)
  · replace hh := hh.2 c14
    refine lv_aload_n C.1 C.2.1 dX11_pulls_17 rfl (lv_at hl 0 rfl) ?_
    refine m_gi C hw (inC inW11) 49 (by decide) (wc w_1511) mg_49 (x := f 49) rfl dX11_pulls_18 ?_
    refine lv_iload_n C.1 C.2.1 dX11_pulls_21 rfl (lv_at hl 3 rfl) ?_
    refine wd_Si C hw (ctX11_isOf l D (f 49) x3 hh) (va_cwS 2 C.2.2.2.2 (gd_S w_1823 w_1824 (ini_cls rfl w_125) w_1825) rfl rfl rfl cdX11_isOf ⟨Nat.le_of_ble_eq_true rfl, Nat.le_of_ble_eq_true rfl⟩) rfl hl.1 (Nat.le_of_ble_eq_true rfl) dX11_pulls_22 ⟨Nat.zero_le _, Nat.zero_le _⟩ (fun r22 H locs hh hw => ?_) rfl
    refine lv_if_eq (tgt := 39) C.1 C.2.1 dX11_pulls_25 (by decide) (fun c25 => ?_) (fun c25 => ?_)
    · replace hh := hh.1 c25
      refine lv_aload_n C.1 C.2.1 dX11_pulls_39 rfl (lv_at hl 0 rfl) ?_
      refine lv_iload_n C.1 C.2.1 dX11_pulls_40 rfl (lv_at hl 3 rfl) ?_
      refine lv_aload_n C.1 C.2.1 dX11_pulls_41 rfl (lv_at hl 0 rfl) ?_
      refine m_gi C hw (inC inW11) 45 (by decide) (wc w_1507) mg_45 (x := f 45) rfl dX11_pulls_42 ?_
      refine lv_iload_n C.1 C.2.1 dX11_pulls_45 rfl (lv_at hl 1 rfl) ?_
      refine m_Vi C hw (ctX11_works l D o h cI cZ f g x3 (f 45) x1 hh) (cwV 3 C.2.2.2.2 (gd_V w_1985 w_1987 w_105 w_125 w_1988) rfl rfl rfl cdX11_works ⟨Nat.le_of_ble_eq_true rfl, Nat.le_of_ble_eq_true rfl⟩) rfl hl.1 (Nat.le_of_ble_eq_true rfl) dX11_pulls_46 ⟨Nat.zero_le _, Nat.zero_le _⟩ (fun r46 u46 H locs hh hw => ?_) rfl
      exact tX11_pulls_b49 C hR hB9 hh hw hl
    · replace hh := hh.2 c25
      refine lv_aload_n C.1 C.2.1 dX11_pulls_28 rfl (lv_at hl 0 rfl) ?_
      refine m_gi C hw (inC inW11) 50 (by decide) (wc w_1512) mg_50 (x := f 50) rfl dX11_pulls_29 ?_
      refine lv_iload_n C.1 C.2.1 dX11_pulls_32 rfl (lv_at hl 3 rfl) ?_
      refine wd_Si C hw (ctX11_isOf l D (f 50) x3 hh) (va_cwS 2 C.2.2.2.2 (gd_S w_1823 w_1824 (ini_cls rfl w_125) w_1825) rfl rfl rfl cdX11_isOf ⟨Nat.le_of_ble_eq_true rfl, Nat.le_of_ble_eq_true rfl⟩) rfl hl.1 (Nat.le_of_ble_eq_true rfl) dX11_pulls_33 ⟨Nat.zero_le _, Nat.zero_le _⟩ (fun r33 H locs hh hw => ?_) rfl
      refine lv_goto (tgt := 49) C.1 C.2.1 dX11_pulls_36 (by decide) ?_
      exact tX11_pulls_b49 C hR hB9 hh hw hl
theorem tX11_pulls_b9 {K : ((Nat → Int32) × (Nat → Nat → Int32)) → Prop} (C : CallFix p m c cX11_pulls 6 s args wsX11_pulls RX11) (hR : Rtv p l e rmX11_pulls s m args below meth c cX11_pulls D A (mT cI cZ) (mWu o h cI cZ) K Q) (n : Nat) : ∀ (f : Nat → Int32) (g : Nat → Nat → Int32) (x1 : Int32) (x2 : Int32) (x3 : Int32) (H : Heap) (locs : List Loc) (ls : Array Slot), wpX11_pulls_b9 n f g x1 x2 x3 K → Wd D A s (mT cI cZ) (mW o h cI cZ f g) H locs → lv_has ls 6 [(0, .ref o), (1, .int x1), (2, .int x2), (3, .int x3)] → W p l e rmX11_pulls s m args below meth c H locs 0 0 Q (F0 m 9 ls []) := by
  induction n with
  | zero => intro f g x1 x2 x3 H locs ls hh; exact hh.elim
  | succ n ih => intro f g x1 x2 x3 H locs ls hh hw hl; exact tX11_pulls_b9_body C hR ih hh hw hl
set_option maxHeartbeats 4000000 in
set_option maxRecDepth 100000 in
theorem tX11_pulls_b0 {K : ((Nat → Int32) × (Nat → Nat → Int32)) → Prop} (C : CallFix p m c cX11_pulls 6 s args wsX11_pulls RX11) (hR : Rtv p l e rmX11_pulls s m args below meth c cX11_pulls D A (mT cI cZ) (mWu o h cI cZ) K Q) {f : Nat → Int32} {g : Nat → Nat → Int32} (hh : wpX11_pulls_b0 f g K) {H : Heap} {locs : List Loc} {ls : Array Slot} (hw : Wd D A s (mT cI cZ) (mW o h cI cZ f g) H locs) (hl : lv_has ls 6 [(0, .ref o)]) : W p l e rmX11_pulls s m args below meth c H locs 0 0 Q (F0 m 0 ls []) := by
  unfold wpX11_pulls_b0 at hh
  refine lv_aload_n C.1 C.2.1 dX11_pulls_0 rfl (lv_at hl 0 rfl) ?_
  refine m_Vi C hw (ctX11_felt l D o h cI cZ f g  hh) (cwV 0 C.2.2.2.2 (gd_V w_1977 w_1979 w_103 w_125 w_1980) rfl rfl rfl cdX11_felt ⟨Nat.le_of_ble_eq_true rfl, Nat.le_of_ble_eq_true rfl⟩) rfl hl.1 (Nat.le_of_ble_eq_true rfl) dX11_pulls_1 ⟨Nat.zero_le _, Nat.zero_le _⟩ (fun r1 u1 H locs hh hw => ?_) rfl
  refine lv_istore_n (lv' := [(1, .int r1), (0, .ref o)]) C.1 C.2.1 dX11_pulls_4 rfl hl (by decide) rfl (fun ls hl => ?_)
  refine lv_iconst (v := (0 : Int32)) C.1 C.2.1 dX11_pulls_5 (by decide) ?_
  refine lv_istore_n (lv' := [(2, .int (0 : Int32)), (1, .int r1), (0, .ref o)]) C.1 C.2.1 dX11_pulls_6 rfl hl (by decide) rfl (fun ls hl => ?_)
  refine lv_iconst (v := (0 : Int32)) C.1 C.2.1 dX11_pulls_7 (by decide) ?_
  refine lv_istore_n (lv' := [(3, .int (0 : Int32)), (2, .int (0 : Int32)), (1, .int r1), (0, .ref o)]) C.1 C.2.1 dX11_pulls_8 rfl hl (by decide) rfl (fun ls hl => ?_)
  obtain ⟨n, hh⟩ := hh
  exact tX11_pulls_b9 C hR n _ _ _ _ _ _ _ _ hh hw (lv_sub hl [3, 2, 1, 0] rfl)
theorem ctX11_pulls (l : Launch) (D : va_G) (o : Nat) (h : Nat → Nat) (cI cZ : ClassId) (f : Nat → Int32) (g : Nat → Nat → Int32) {K : ((Nat → Int32) × (Nat → Nat → Int32)) → Prop} (hh : wpX11_pulls f g K) : Cv l yX11_pulls wsX11_pulls rmX11_pulls [.ref o] D (mT cI cZ) (mWu o h cI cZ) (f, g) K := by
  refine Cv_of (cc := cX11_pulls) (maxL := 6) (by decide) rfl (Nat.le_of_ble_eq_true rfl) ?_
  intro p e s m below meth c A Q C hw hR ls hl
  exact tX11_pulls_b0 C hR hh hw hl
theorem cdX11_pulls : yX11_pulls.cls = RX11 ∧ yX11_pulls.cls ≠ "java/lang/invoke/MethodHandle" ∧ yX11_pulls.cls ≠ "java/lang/invoke/VarHandle" ∧ (parseMethodDescriptor yX11_pulls.desc).map (fun d => d.parameters.length) = some 0 := by decide +kernel
abbrev rmX11_pullsTold : Room := { frames := 4, cells := 0, slots := 0, locals := 88 }
set_option maxHeartbeats 4000000 in
set_option maxRecDepth 100000 in
theorem tX11_pullsTold_b0 {K : ((Nat → Int32) × (Nat → Nat → Int32)) → Prop} (C : CallFix p m c cX11_pullsTold 1 s args wsX11_pullsTold RX11) (hR : Rtv p l e rmX11_pullsTold s m args below meth c cX11_pullsTold D A (mT cI cZ) (mWu o h cI cZ) K Q) {f : Nat → Int32} {g : Nat → Nat → Int32} (hh : wpX11_pullsTold_b0 f g K) {H : Heap} {locs : List Loc} {ls : Array Slot} (hw : Wd D A s (mT cI cZ) (mW o h cI cZ f g) H locs) (hl : lv_has ls 1 [(0, .ref o)]) : W p l e rmX11_pullsTold s m args below meth c H locs 0 0 Q (F0 m 0 ls []) := by
  unfold wpX11_pullsTold_b0 at hh
  refine lv_aload_n C.1 C.2.1 dX11_pullsTold_0 rfl (lv_at hl 0 rfl) ?_
  refine lv_aload_n C.1 C.2.1 dX11_pullsTold_1 rfl (lv_at hl 0 rfl) ?_
  refine m_Vi C hw (ctX11_felt l D o h cI cZ f g  hh) (cwV 0 C.2.2.2.2 (gd_V w_1977 w_1979 w_103 w_125 w_1980) rfl rfl rfl cdX11_felt ⟨Nat.le_of_ble_eq_true rfl, Nat.le_of_ble_eq_true rfl⟩) rfl hl.1 (Nat.le_of_ble_eq_true rfl) dX11_pullsTold_2 ⟨Nat.zero_le _, Nat.zero_le _⟩ (fun r2 u2 H locs hh hw => ?_) rfl
  refine m_pi C hw (inC inW11) 69 (by decide) (wc w_1531) rfl (ty := .int) (by decide +kernel) rfl rfl (Nat.le_of_ble_eq_true rfl) ms_69 dX11_pullsTold_5 (fun H locs hw => ?_)
  refine lv_aload_n C.1 C.2.1 dX11_pullsTold_8 rfl (lv_at hl 0 rfl) ?_
  refine lv_aload_n C.1 C.2.1 dX11_pullsTold_9 rfl (lv_at hl 0 rfl) ?_
  refine m_gi C hw (inC inW11) 45 (by decide) (wc w_1507) mg_45 (x := u2.1 45) rfl dX11_pullsTold_10 ?_
  refine m_pi C hw (inC inW11) 67 (by decide) (wc w_1529) rfl (ty := .int) (by decide +kernel) rfl rfl (Nat.le_of_ble_eq_true rfl) ms_67 dX11_pullsTold_13 (fun H locs hw => ?_)
  refine lv_aload_n C.1 C.2.1 dX11_pullsTold_16 rfl (lv_at hl 0 rfl) ?_
  refine m_Vv C hw (ctX11_pulls l D o h cI cZ (upd (upd u2.1 69 r2) 67 (u2.1 45)) u2.2  hh) (cwV 0 C.2.2.2.2 (gd_V w_1981 w_1983 w_104 w_125 w_1984) rfl rfl rfl cdX11_pulls ⟨Nat.le_of_ble_eq_true rfl, Nat.le_of_ble_eq_true rfl⟩) rfl hl.1 (Nat.le_of_ble_eq_true rfl) dX11_pullsTold_17 ⟨Nat.zero_le _, Nat.zero_le _⟩ (fun u17 H locs hh hw => ?_) rfl
  refine lv_aload_n C.1 C.2.1 dX11_pullsTold_20 rfl (lv_at hl 0 rfl) ?_
  refine lv_aload_n C.1 C.2.1 dX11_pullsTold_21 rfl (lv_at hl 0 rfl) ?_
  refine m_gi C hw (inC inW11) 45 (by decide) (wc w_1507) mg_45 (x := u17.1 45) rfl dX11_pullsTold_22 ?_
  refine m_pi C hw (inC inW11) 68 (by decide) (wc w_1530) rfl (ty := .int) (by decide +kernel) rfl rfl (Nat.le_of_ble_eq_true rfl) ms_68 dX11_pullsTold_25 (fun H locs hw => ?_)
  refine lv_aload_n C.1 C.2.1 dX11_pullsTold_28 rfl (lv_at hl 0 rfl) ?_
  refine lv_iconst (v := (1 : Int32)) C.1 C.2.1 dX11_pullsTold_29 (by decide) ?_
  refine m_pi C hw (inC inW11) 66 (by decide) (wc w_1528) rfl (ty := .boolean) (by decide +kernel) rfl rfl (Nat.le_of_ble_eq_true rfl) ms_66 dX11_pullsTold_30 (fun H locs hw => ?_)
  exact hR _ _ (upd (upd u17.1 68 (u17.1 45)) 66 (1 : Int32), u17.2) _ _ dX11_pullsTold_33 hh hw
theorem ctX11_pullsTold (l : Launch) (D : va_G) (o : Nat) (h : Nat → Nat) (cI cZ : ClassId) (f : Nat → Int32) (g : Nat → Nat → Int32) {K : ((Nat → Int32) × (Nat → Nat → Int32)) → Prop} (hh : wpX11_pullsTold f g K) : Cv l yX11_pullsTold wsX11_pullsTold rmX11_pullsTold [.ref o] D (mT cI cZ) (mWu o h cI cZ) (f, g) K := by
  refine Cv_of (cc := cX11_pullsTold) (maxL := 1) (by decide) rfl (Nat.le_of_ble_eq_true rfl) ?_
  intro p e s m below meth c A Q C hw hR ls hl
  exact tX11_pullsTold_b0 C hR hh hw hl
theorem cdX11_pullsTold : yX11_pullsTold.cls = RX11 ∧ yX11_pullsTold.cls ≠ "java/lang/invoke/MethodHandle" ∧ yX11_pullsTold.cls ≠ "java/lang/invoke/VarHandle" ∧ (parseMethodDescriptor yX11_pullsTold.desc).map (fun d => d.parameters.length) = some 0 := by decide +kernel
abbrev rmX11_pull : Room := { frames := 5, cells := 0, slots := 0, locals := 108 }
set_option maxHeartbeats 4000000 in
set_option maxRecDepth 100000 in
theorem tX11_pull_b25_body {B25 : (Nat → Int32) → (Nat → Nat → Int32) → Int32 → Int32 → Prop} {K : Int32 → ((Nat → Int32) × (Nat → Nat → Int32)) → Prop} (C : CallFix p m c cX11_pull 3 s args wsX11_pull RX11) (hR : Rti .int p l e rmX11_pull s m args below meth c cX11_pull D A (mT cI cZ) (mWu o h cI cZ) K Q) (hB25 : ∀ (f : Nat → Int32) (g : Nat → Nat → Int32) (x1 : Int32) (x2 : Int32) (H : Heap) (locs : List Loc) (ls : Array Slot), B25 f g x1 x2 → Wd D A s (mT cI cZ) (mW o h cI cZ f g) H locs → lv_has ls 3 [(0, .ref o), (1, .int x1), (2, .int x2)] → W p l e rmX11_pull s m args below meth c H locs 0 0 Q (F0 m 25 ls [])) {f : Nat → Int32} {g : Nat → Nat → Int32} {x1 : Int32} {x2 : Int32} (hh : wpX11_pull_b25_body B25 f g x1 x2 K) {H : Heap} {locs : List Loc} {ls : Array Slot} (hw : Wd D A s (mT cI cZ) (mW o h cI cZ f g) H locs) (hl : lv_has ls 3 [(0, .ref o), (1, .int x1), (2, .int x2)]) : W p l e rmX11_pull s m args below meth c H locs 0 0 Q (F0 m 25 ls []) := by
  unfold wpX11_pull_b25_body at hh
  refine lv_iload_n C.1 C.2.1 dX11_pull_25 rfl (lv_at hl 2 rfl) ?_
  refine lv_iload_n C.1 C.2.1 dX11_pull_26 rfl (lv_at hl 1 rfl) ?_
  refine lv_icmp_ge (tgt := 40) C.1 C.2.1 dX11_pull_27 (by decide) (fun c27 => ?_) (fun c27 => ?_)
  · replace hh := hh.1 c27
    refine lv_aload_n C.1 C.2.1 dX11_pull_40 rfl (lv_at hl 0 rfl) ?_
    refine m_gi C hw (inC inW11) 53 (by decide) (wc w_1515) mg_53 (x := f 53) rfl dX11_pull_41 ?_
    exact hR _ _ _ (f, g) _ _ dX11_pull_44 rfl hh hw
  · replace hh := hh.2 c27
    refine lv_aload_n C.1 C.2.1 dX11_pull_30 rfl (lv_at hl 0 rfl) ?_
    refine m_Vv C hw (ctX11_pullsTold l D o h cI cZ f g  hh) (cwV 0 C.2.2.2.2 (gd_V w_1973 w_1975 w_102 w_125 w_1976) rfl rfl rfl cdX11_pullsTold ⟨Nat.le_of_ble_eq_true rfl, Nat.le_of_ble_eq_true rfl⟩) rfl hl.1 (Nat.le_of_ble_eq_true rfl) dX11_pull_31 ⟨Nat.zero_le _, Nat.zero_le _⟩ (fun u31 H locs hh hw => ?_) rfl
    refine lv_iinc (v := x2 + (1 : Int32)) (lv' := [(2, .int (x2 + (1 : Int32))), (0, .ref o), (1, .int x1)]) C.1 C.2.1 dX11_pull_34 hl (k := 2) rfl rfl (by decide) rfl (fun ls hl => ?_)
    refine lv_goto (tgt := 25) C.1 C.2.1 dX11_pull_37 (by decide) ?_
    exact hB25 _ _ _ _ _ _ _ hh hw (lv_sub hl [1, 2, 0] rfl)
theorem tX11_pull_b25 {K : Int32 → ((Nat → Int32) × (Nat → Nat → Int32)) → Prop} (C : CallFix p m c cX11_pull 3 s args wsX11_pull RX11) (hR : Rti .int p l e rmX11_pull s m args below meth c cX11_pull D A (mT cI cZ) (mWu o h cI cZ) K Q) (n : Nat) : ∀ (f : Nat → Int32) (g : Nat → Nat → Int32) (x1 : Int32) (x2 : Int32) (H : Heap) (locs : List Loc) (ls : Array Slot), wpX11_pull_b25 n f g x1 x2 K → Wd D A s (mT cI cZ) (mW o h cI cZ f g) H locs → lv_has ls 3 [(0, .ref o), (1, .int x1), (2, .int x2)] → W p l e rmX11_pull s m args below meth c H locs 0 0 Q (F0 m 25 ls []) := by
  induction n with
  | zero => intro f g x1 x2 H locs ls hh; exact hh.elim
  | succ n ih => intro f g x1 x2 H locs ls hh hw hl; exact tX11_pull_b25_body C hR ih hh hw hl
set_option maxHeartbeats 4000000 in
set_option maxRecDepth 100000 in
theorem tX11_pull_b0 {K : Int32 → ((Nat → Int32) × (Nat → Nat → Int32)) → Prop} (C : CallFix p m c cX11_pull 3 s args wsX11_pull RX11) (hR : Rti .int p l e rmX11_pull s m args below meth c cX11_pull D A (mT cI cZ) (mWu o h cI cZ) K Q) {f : Nat → Int32} {g : Nat → Nat → Int32} {x1 : Int32} (hh : wpX11_pull_b0 f g x1 K) {H : Heap} {locs : List Loc} {ls : Array Slot} (hw : Wd D A s (mT cI cZ) (mW o h cI cZ f g) H locs) (hl : lv_has ls 3 [(0, .ref o), (1, .int x1)]) : W p l e rmX11_pull s m args below meth c H locs 0 0 Q (F0 m 0 ls []) := by
  unfold wpX11_pull_b0 at hh
  refine lv_aload_n C.1 C.2.1 dX11_pull_0 rfl (lv_at hl 0 rfl) ?_
  refine lv_iconst (v := (0 : Int32)) C.1 C.2.1 dX11_pull_1 (by decide) ?_
  refine m_pi C hw (inC inW11) 2 (by decide) (wc w_1464) rfl (ty := .int) (by decide +kernel) rfl rfl (Nat.le_of_ble_eq_true rfl) ms_2 dX11_pull_2 (fun H locs hw => ?_)
  refine lv_iload_n C.1 C.2.1 dX11_pull_5 rfl (lv_at hl 1 rfl) ?_
  refine lv_iconst (v := (0 : Int32)) C.1 C.2.1 dX11_pull_6 (by decide) ?_
  refine lv_sipush (v := (5000 : Int32)) C.1 C.2.1 dX11_pull_7 (by decide) ?_
  refine wd_Si C hw (ctX11_isIn l D x1 (0 : Int32) (5000 : Int32) hh) (va_cwS 3 C.2.2.2.2 (gd_S w_1804 w_1805 (ini_cls rfl w_125) w_1806) rfl rfl rfl cdX11_isIn ⟨Nat.le_of_ble_eq_true rfl, Nat.le_of_ble_eq_true rfl⟩) rfl hl.1 (Nat.le_of_ble_eq_true rfl) dX11_pull_10 ⟨Nat.zero_le _, Nat.zero_le _⟩ (fun r10 H locs hh hw => ?_) rfl
  refine lv_if_ne (tgt := 18) C.1 C.2.1 dX11_pull_13 (by decide) (fun c13 => ?_) (fun c13 => ?_)
  · replace hh := hh.1 c13
    refine lv_aload_n C.1 C.2.1 dX11_pull_18 rfl (lv_at hl 0 rfl) ?_
    refine lv_iconst (v := (0 : Int32)) C.1 C.2.1 dX11_pull_19 (by decide) ?_
    refine m_pi C hw (inC inW11) 53 (by decide) (wc w_1515) rfl (ty := .int) (by decide +kernel) rfl rfl (Nat.le_of_ble_eq_true rfl) ms_53 dX11_pull_20 (fun H locs hw => ?_)
    refine lv_iconst (v := (0 : Int32)) C.1 C.2.1 dX11_pull_23 (by decide) ?_
    refine lv_istore_n (lv' := [(2, .int (0 : Int32)), (0, .ref o), (1, .int x1)]) C.1 C.2.1 dX11_pull_24 rfl hl (by decide) rfl (fun ls hl => ?_)
    obtain ⟨n, hh⟩ := hh
    exact tX11_pull_b25 C hR n _ _ _ _ _ _ _ hh hw (lv_sub hl [1, 2, 0] rfl)
  · replace hh := hh.2 c13
    refine lv_iconst (v := (-1 : Int32)) C.1 C.2.1 dX11_pull_16 (by decide) ?_
    exact hR _ _ _ (upd f 2 (0 : Int32), g) _ _ dX11_pull_17 rfl hh hw
theorem ctX11_pull (l : Launch) (D : va_G) (o : Nat) (h : Nat → Nat) (cI cZ : ClassId) (f : Nat → Int32) (g : Nat → Nat → Int32) (x1 : Int32) {K : Int32 → ((Nat → Int32) × (Nat → Nat → Int32)) → Prop} (hh : wpX11_pull f g x1 K) : Ci l yX11_pull wsX11_pull rmX11_pull [.ref o, .int x1] D (mT cI cZ) (mWu o h cI cZ) (f, g) K := by
  refine Ci_of (cc := cX11_pull) (maxL := 3) (by decide) rfl (Nat.le_of_ble_eq_true rfl) ?_
  intro p e s m below meth c A Q C hw hR ls hl
  exact tX11_pull_b0 C hR hh hw hl
theorem cdX11_pull : yX11_pull.cls = RX11 ∧ yX11_pull.cls ≠ "java/lang/invoke/MethodHandle" ∧ yX11_pull.cls ≠ "java/lang/invoke/VarHandle" ∧ (parseMethodDescriptor yX11_pull.desc).map (fun d => d.parameters.length) = some 1 := by decide +kernel
abbrev rmX11_pullRun : Room := { frames := 5, cells := 0, slots := 0, locals := 108 }
set_option maxHeartbeats 4000000 in
set_option maxRecDepth 100000 in
theorem tX11_pullRun_b20_body {B20 : (Nat → Int32) → (Nat → Nat → Int32) → Int32 → Int32 → Prop} {K : Int32 → ((Nat → Int32) × (Nat → Nat → Int32)) → Prop} (C : CallFix p m c cX11_pullRun 3 s args wsX11_pullRun RX11) (hR : Rti .int p l e rmX11_pullRun s m args below meth c cX11_pullRun D A (mT cI cZ) (mWu o h cI cZ) K Q) (hB20 : ∀ (f : Nat → Int32) (g : Nat → Nat → Int32) (x1 : Int32) (x2 : Int32) (H : Heap) (locs : List Loc) (ls : Array Slot), B20 f g x1 x2 → Wd D A s (mT cI cZ) (mW o h cI cZ f g) H locs → lv_has ls 3 [(0, .ref o), (1, .int x1), (2, .int x2)] → W p l e rmX11_pullRun s m args below meth c H locs 0 0 Q (F0 m 20 ls [])) {f : Nat → Int32} {g : Nat → Nat → Int32} {x1 : Int32} {x2 : Int32} (hh : wpX11_pullRun_b20_body B20 f g x1 x2 K) {H : Heap} {locs : List Loc} {ls : Array Slot} (hw : Wd D A s (mT cI cZ) (mW o h cI cZ f g) H locs) (hl : lv_has ls 3 [(0, .ref o), (1, .int x1), (2, .int x2)]) : W p l e rmX11_pullRun s m args below meth c H locs 0 0 Q (F0 m 20 ls []) := by
  unfold wpX11_pullRun_b20_body at hh
  refine lv_aload_n C.1 C.2.1 dX11_pullRun_20 rfl (lv_at hl 0 rfl) ?_
  refine m_gi C hw (inC inW11) 41 (by decide) (wc w_1503) mg_41 (x := f 41) rfl dX11_pullRun_21 ?_
  refine lv_aload_n C.1 C.2.1 dX11_pullRun_24 rfl (lv_at hl 0 rfl) ?_
  refine m_gi C hw (inC inW11) 40 (by decide) (wc w_1502) mg_40 (x := f 40) rfl dX11_pullRun_25 ?_
  refine lv_icmp_eq (tgt := 49) C.1 C.2.1 dX11_pullRun_28 (by decide) (fun c28 => ?_) (fun c28 => ?_)
  · replace hh := hh.1 c28
    refine lv_iload_n C.1 C.2.1 dX11_pullRun_49 rfl (lv_at hl 2 rfl) ?_
    exact hR _ _ _ (f, g) _ _ dX11_pullRun_50 rfl hh hw
  · replace hh := hh.2 c28
    refine lv_iload_n C.1 C.2.1 dX11_pullRun_31 rfl (lv_at hl 2 rfl) ?_
    refine lv_iload_n C.1 C.2.1 dX11_pullRun_32 rfl (lv_at hl 1 rfl) ?_
    refine lv_icmp_ne (tgt := 39) C.1 C.2.1 dX11_pullRun_33 (by decide) (fun c33 => ?_) (fun c33 => ?_)
    · replace hh := hh.1 c33
      refine lv_aload_n C.1 C.2.1 dX11_pullRun_39 rfl (lv_at hl 0 rfl) ?_
      refine m_Vv C hw (ctX11_pullsTold l D o h cI cZ f g  hh) (cwV 0 C.2.2.2.2 (gd_V w_1973 w_1975 w_102 w_125 w_1976) rfl rfl rfl cdX11_pullsTold ⟨Nat.le_of_ble_eq_true rfl, Nat.le_of_ble_eq_true rfl⟩) rfl hl.1 (Nat.le_of_ble_eq_true rfl) dX11_pullRun_40 ⟨Nat.zero_le _, Nat.zero_le _⟩ (fun u40 H locs hh hw => ?_) rfl
      refine lv_iinc (v := x2 + (1 : Int32)) (lv' := [(2, .int (x2 + (1 : Int32))), (0, .ref o), (1, .int x1)]) C.1 C.2.1 dX11_pullRun_43 hl (k := 2) rfl rfl (by decide) rfl (fun ls hl => ?_)
      refine lv_goto (tgt := 20) C.1 C.2.1 dX11_pullRun_46 (by decide) ?_
      exact hB20 _ _ _ _ _ _ _ hh hw (lv_sub hl [1, 2, 0] rfl)
    · replace hh := hh.2 c33
      refine lv_bipush (v := (-2 : Int32)) C.1 C.2.1 dX11_pullRun_36 (by decide) ?_
      exact hR _ _ _ (f, g) _ _ dX11_pullRun_38 rfl hh hw
theorem tX11_pullRun_b20 {K : Int32 → ((Nat → Int32) × (Nat → Nat → Int32)) → Prop} (C : CallFix p m c cX11_pullRun 3 s args wsX11_pullRun RX11) (hR : Rti .int p l e rmX11_pullRun s m args below meth c cX11_pullRun D A (mT cI cZ) (mWu o h cI cZ) K Q) (n : Nat) : ∀ (f : Nat → Int32) (g : Nat → Nat → Int32) (x1 : Int32) (x2 : Int32) (H : Heap) (locs : List Loc) (ls : Array Slot), wpX11_pullRun_b20 n f g x1 x2 K → Wd D A s (mT cI cZ) (mW o h cI cZ f g) H locs → lv_has ls 3 [(0, .ref o), (1, .int x1), (2, .int x2)] → W p l e rmX11_pullRun s m args below meth c H locs 0 0 Q (F0 m 20 ls []) := by
  induction n with
  | zero => intro f g x1 x2 H locs ls hh; exact hh.elim
  | succ n ih => intro f g x1 x2 H locs ls hh hw hl; exact tX11_pullRun_b20_body C hR ih hh hw hl
set_option maxHeartbeats 4000000 in
set_option maxRecDepth 100000 in
theorem tX11_pullRun_b0 {K : Int32 → ((Nat → Int32) × (Nat → Nat → Int32)) → Prop} (C : CallFix p m c cX11_pullRun 3 s args wsX11_pullRun RX11) (hR : Rti .int p l e rmX11_pullRun s m args below meth c cX11_pullRun D A (mT cI cZ) (mWu o h cI cZ) K Q) {f : Nat → Int32} {g : Nat → Nat → Int32} {x1 : Int32} (hh : wpX11_pullRun_b0 f g x1 K) {H : Heap} {locs : List Loc} {ls : Array Slot} (hw : Wd D A s (mT cI cZ) (mW o h cI cZ f g) H locs) (hl : lv_has ls 3 [(0, .ref o), (1, .int x1)]) : W p l e rmX11_pullRun s m args below meth c H locs 0 0 Q (F0 m 0 ls []) := by
  unfold wpX11_pullRun_b0 at hh
  refine lv_aload_n C.1 C.2.1 dX11_pullRun_0 rfl (lv_at hl 0 rfl) ?_
  refine lv_iconst (v := (0 : Int32)) C.1 C.2.1 dX11_pullRun_1 (by decide) ?_
  refine m_pi C hw (inC inW11) 2 (by decide) (wc w_1464) rfl (ty := .int) (by decide +kernel) rfl rfl (Nat.le_of_ble_eq_true rfl) ms_2 dX11_pullRun_2 (fun H locs hw => ?_)
  refine lv_iload_n C.1 C.2.1 dX11_pullRun_5 rfl (lv_at hl 1 rfl) ?_
  refine lv_iconst (v := (0 : Int32)) C.1 C.2.1 dX11_pullRun_6 (by decide) ?_
  refine lv_sipush (v := (5000 : Int32)) C.1 C.2.1 dX11_pullRun_7 (by decide) ?_
  refine wd_Si C hw (ctX11_isIn l D x1 (0 : Int32) (5000 : Int32) hh) (va_cwS 3 C.2.2.2.2 (gd_S w_1804 w_1805 (ini_cls rfl w_125) w_1806) rfl rfl rfl cdX11_isIn ⟨Nat.le_of_ble_eq_true rfl, Nat.le_of_ble_eq_true rfl⟩) rfl hl.1 (Nat.le_of_ble_eq_true rfl) dX11_pullRun_10 ⟨Nat.zero_le _, Nat.zero_le _⟩ (fun r10 H locs hh hw => ?_) rfl
  refine lv_if_ne (tgt := 18) C.1 C.2.1 dX11_pullRun_13 (by decide) (fun c13 => ?_) (fun c13 => ?_)
  · replace hh := hh.1 c13
    refine lv_iconst (v := (0 : Int32)) C.1 C.2.1 dX11_pullRun_18 (by decide) ?_
    refine lv_istore_n (lv' := [(2, .int (0 : Int32)), (0, .ref o), (1, .int x1)]) C.1 C.2.1 dX11_pullRun_19 rfl hl (by decide) rfl (fun ls hl => ?_)
    obtain ⟨n, hh⟩ := hh
    exact tX11_pullRun_b20 C hR n _ _ _ _ _ _ _ hh hw (lv_sub hl [1, 2, 0] rfl)
  · replace hh := hh.2 c13
    refine lv_iconst (v := (-1 : Int32)) C.1 C.2.1 dX11_pullRun_16 (by decide) ?_
    exact hR _ _ _ (upd f 2 (0 : Int32), g) _ _ dX11_pullRun_17 rfl hh hw
theorem ctX11_pullRun (l : Launch) (D : va_G) (o : Nat) (h : Nat → Nat) (cI cZ : ClassId) (f : Nat → Int32) (g : Nat → Nat → Int32) (x1 : Int32) {K : Int32 → ((Nat → Int32) × (Nat → Nat → Int32)) → Prop} (hh : wpX11_pullRun f g x1 K) : Ci l yX11_pullRun wsX11_pullRun rmX11_pullRun [.ref o, .int x1] D (mT cI cZ) (mWu o h cI cZ) (f, g) K := by
  refine Ci_of (cc := cX11_pullRun) (maxL := 3) (by decide) rfl (Nat.le_of_ble_eq_true rfl) ?_
  intro p e s m below meth c A Q C hw hR ls hl
  exact tX11_pullRun_b0 C hR hh hw hl
theorem cdX11_pullRun : yX11_pullRun.cls = RX11 ∧ yX11_pullRun.cls ≠ "java/lang/invoke/MethodHandle" ∧ yX11_pullRun.cls ≠ "java/lang/invoke/VarHandle" ∧ (parseMethodDescriptor yX11_pullRun.desc).map (fun d => d.parameters.length) = some 1 := by decide +kernel
abbrev rmX11_relays : Room := { frames := 0, cells := 0, slots := 0, locals := 0 }
set_option maxHeartbeats 4000000 in
set_option maxRecDepth 100000 in
theorem tX11_relays_b0 {K : Int32 → ((Nat → Int32) × (Nat → Nat → Int32)) → Prop} (C : CallFix p m c cX11_relays 1 s args wsX11_relays RX11) (hR : Rti .int p l e rmX11_relays s m args below meth c cX11_relays D A (mT cI cZ) (mWu o h cI cZ) K Q) {f : Nat → Int32} {g : Nat → Nat → Int32} (hh : wpX11_relays_b0 f g K) {H : Heap} {locs : List Loc} {ls : Array Slot} (hw : Wd D A s (mT cI cZ) (mW o h cI cZ f g) H locs) (hl : lv_has ls 1 [(0, .ref o)]) : W p l e rmX11_relays s m args below meth c H locs 0 0 Q (F0 m 0 ls []) := by
  unfold wpX11_relays_b0 at hh
  refine lv_aload_n C.1 C.2.1 dX11_relays_0 rfl (lv_at hl 0 rfl) ?_
  refine lv_iconst (v := (0 : Int32)) C.1 C.2.1 dX11_relays_1 (by decide) ?_
  refine m_pi C hw (inC inW11) 2 (by decide) (wc w_1464) rfl (ty := .int) (by decide +kernel) rfl rfl (Nat.le_of_ble_eq_true rfl) ms_2 dX11_relays_2 (fun H locs hw => ?_)
  refine lv_aload_n C.1 C.2.1 dX11_relays_5 rfl (lv_at hl 0 rfl) ?_
  refine m_gi C hw (inC inW11) 45 (by decide) (wc w_1507) mg_45 (x := f 45) rfl dX11_relays_6 ?_
  exact hR _ _ _ (upd f 2 (0 : Int32), g) _ _ dX11_relays_9 rfl hh hw
theorem ctX11_relays (l : Launch) (D : va_G) (o : Nat) (h : Nat → Nat) (cI cZ : ClassId) (f : Nat → Int32) (g : Nat → Nat → Int32) {K : Int32 → ((Nat → Int32) × (Nat → Nat → Int32)) → Prop} (hh : wpX11_relays f g K) : Ci l yX11_relays wsX11_relays rmX11_relays [.ref o] D (mT cI cZ) (mWu o h cI cZ) (f, g) K := by
  refine Ci_of (cc := cX11_relays) (maxL := 1) (by decide) rfl (Nat.le_of_ble_eq_true rfl) ?_
  intro p e s m below meth c A Q C hw hR ls hl
  exact tX11_relays_b0 C hR hh hw hl
theorem cdX11_relays : yX11_relays.cls = RX11 ∧ yX11_relays.cls ≠ "java/lang/invoke/MethodHandle" ∧ yX11_relays.cls ≠ "java/lang/invoke/VarHandle" ∧ (parseMethodDescriptor yX11_relays.desc).map (fun d => d.parameters.length) = some 0 := by decide +kernel
abbrev rmX11_races : Room := { frames := 2, cells := 0, slots := 0, locals := 45 }
set_option maxHeartbeats 4000000 in
set_option maxRecDepth 100000 in
theorem tX11_races_b33 {K : Int32 → ((Nat → Int32) × (Nat → Nat → Int32)) → Prop} (C : CallFix p m c cX11_races 3 s args wsX11_races RX11) (hR : Rti .boolean p l e rmX11_races s m args below meth c cX11_races D A (mT cI cZ) (mWu o h cI cZ) K Q) {f : Nat → Int32} {g : Nat → Nat → Int32} {k0 : Int32} (hh : wpX11_races_b33 f g k0 K) {H : Heap} {locs : List Loc} {ls : Array Slot} (hw : Wd D A s (mT cI cZ) (mW o h cI cZ f g) H locs) (hl : lv_has ls 3 [(0, .ref o)]) : W p l e rmX11_races s m args below meth c H locs 0 0 Q (F0 m 33 ls [.int k0]) := by
  unfold wpX11_races_b33 at hh
  obtain ⟨hb33, hh⟩ := hh
  exact hR _ _ _ (f, g) _ _ dX11_races_33 (isB_nar hb33) hh hw
set_option maxHeartbeats 4000000 in
set_option maxRecDepth 100000 in
theorem tX11_races_b0 {K : Int32 → ((Nat → Int32) × (Nat → Nat → Int32)) → Prop} (C : CallFix p m c cX11_races 3 s args wsX11_races RX11) (hR : Rti .boolean p l e rmX11_races s m args below meth c cX11_races D A (mT cI cZ) (mWu o h cI cZ) K Q) {f : Nat → Int32} {g : Nat → Nat → Int32} {x1 : Int32} {x2 : Int32} (hh : wpX11_races_b0 f g x1 x2 K) {H : Heap} {locs : List Loc} {ls : Array Slot} (hw : Wd D A s (mT cI cZ) (mW o h cI cZ f g) H locs) (hl : lv_has ls 3 [(0, .ref o), (1, .int x1), (2, .int x2)]) : W p l e rmX11_races s m args below meth c H locs 0 0 Q (F0 m 0 ls []) := by
  unfold wpX11_races_b0 at hh
  refine lv_aload_n C.1 C.2.1 dX11_races_0 rfl (lv_at hl 0 rfl) ?_
  refine lv_iload_n C.1 C.2.1 dX11_races_1 rfl (lv_at hl 1 rfl) ?_
  refine lv_aload_n C.1 C.2.1 dX11_races_2 rfl (lv_at hl 0 rfl) ?_
  refine m_gi C hw (inC inW11) 67 (by decide) (wc w_1529) mg_67 (x := f 67) rfl dX11_races_3 ?_
  refine lv_iconst (v := (1 : Int32)) C.1 C.2.1 dX11_races_6 (by decide) ?_
  refine lv_iload_n C.1 C.2.1 dX11_races_7 rfl (lv_at hl 2 rfl) ?_
  refine g_ishl C dX11_races_8 ?_
  refine lv_ixor C.1 C.2.1 dX11_races_9 ?_
  refine lv_aload_n C.1 C.2.1 dX11_races_10 rfl (lv_at hl 0 rfl) ?_
  refine m_gi C hw (inC inW11) 69 (by decide) (wc w_1531) mg_69 (x := f 69) rfl dX11_races_11 ?_
  refine m_Vi C hw (ctX11_works l D o h cI cZ f g x1 ((f 67) ^^^ (jshl (1 : Int32) x2)) (f 69) hh) (cwV 3 C.2.2.2.2 (gd_V w_1985 w_1987 w_105 w_125 w_1988) rfl rfl rfl cdX11_works ⟨Nat.le_of_ble_eq_true rfl, Nat.le_of_ble_eq_true rfl⟩) rfl hl.1 (Nat.le_of_ble_eq_true rfl) dX11_races_14 ⟨Nat.zero_le _, Nat.zero_le _⟩ (fun r14 u14 H locs hh hw => ?_) rfl
  refine lv_aload_n C.1 C.2.1 dX11_races_17 rfl (lv_at hl 0 rfl) ?_
  refine m_gi C hw (inC inW11) 67 (by decide) (wc w_1529) mg_67 (x := u14.1 67) rfl dX11_races_18 ?_
  refine lv_iload_n C.1 C.2.1 dX11_races_21 rfl (lv_at hl 1 rfl) ?_
  refine wd_Si C hw (ctX11_isOf l D (u14.1 67) x1 hh) (va_cwS 2 C.2.2.2.2 (gd_S w_1823 w_1824 (ini_cls rfl w_125) w_1825) rfl rfl rfl cdX11_isOf ⟨Nat.le_of_ble_eq_true rfl, Nat.le_of_ble_eq_true rfl⟩) rfl hl.1 (Nat.le_of_ble_eq_true rfl) dX11_races_22 ⟨Nat.zero_le _, Nat.zero_le _⟩ (fun r22 H locs hh hw => ?_) rfl
  refine lv_icmp_ne (tgt := 32) C.1 C.2.1 dX11_races_25 (by decide) (fun c25 => ?_) (fun c25 => ?_)
  · replace hh := hh.1 c25
    refine lv_iconst (v := (0 : Int32)) C.1 C.2.1 dX11_races_32 (by decide) ?_
    exact tX11_races_b33 C hR hh hw (lv_sub hl [0] rfl)
  · replace hh := hh.2 c25
    refine lv_iconst (v := (1 : Int32)) C.1 C.2.1 dX11_races_28 (by decide) ?_
    refine lv_goto (tgt := 33) C.1 C.2.1 dX11_races_29 (by decide) ?_
    exact tX11_races_b33 C hR hh hw (lv_sub hl [0] rfl)
theorem ctX11_races (l : Launch) (D : va_G) (o : Nat) (h : Nat → Nat) (cI cZ : ClassId) (f : Nat → Int32) (g : Nat → Nat → Int32) (x1 : Int32) (x2 : Int32) {K : Int32 → ((Nat → Int32) × (Nat → Nat → Int32)) → Prop} (hh : wpX11_races f g x1 x2 K) : Ci l yX11_races wsX11_races rmX11_races [.ref o, .int x1, .int x2] D (mT cI cZ) (mWu o h cI cZ) (f, g) K := by
  refine Ci_of (cc := cX11_races) (maxL := 3) (by decide) rfl (Nat.le_of_ble_eq_true rfl) ?_
  intro p e s m below meth c A Q C hw hR ls hl
  exact tX11_races_b0 C hR hh hw hl
theorem cdX11_races : yX11_races.cls = RX11 ∧ yX11_races.cls ≠ "java/lang/invoke/MethodHandle" ∧ yX11_races.cls ≠ "java/lang/invoke/VarHandle" ∧ (parseMethodDescriptor yX11_races.desc).map (fun d => d.parameters.length) = some 2 := by decide +kernel
abbrev rmX11_race : Room := { frames := 3, cells := 0, slots := 0, locals := 67 }
set_option maxHeartbeats 4000000 in
set_option maxRecDepth 100000 in
theorem tX11_race_b97 {B26 : (Nat → Int32) → (Nat → Nat → Int32) → Int32 → Int32 → Prop} {B38 : (Nat → Int32) → (Nat → Nat → Int32) → Int32 → Int32 → Int32 → Prop} {K : Int32 → ((Nat → Int32) × (Nat → Nat → Int32)) → Prop} (C : CallFix p m c cX11_race 4 s args wsX11_race RX11) (hR : Rti .int p l e rmX11_race s m args below meth c cX11_race D A (mT cI cZ) (mWu o h cI cZ) K Q) (hB26 : ∀ (f : Nat → Int32) (g : Nat → Nat → Int32) (x1 : Int32) (x2 : Int32) (H : Heap) (locs : List Loc) (ls : Array Slot), B26 f g x1 x2 → Wd D A s (mT cI cZ) (mW o h cI cZ f g) H locs → lv_has ls 4 [(0, .ref o), (1, .int x1), (2, .int x2)] → W p l e rmX11_race s m args below meth c H locs 0 0 Q (F0 m 26 ls [])) (hB38 : ∀ (f : Nat → Int32) (g : Nat → Nat → Int32) (x1 : Int32) (x2 : Int32) (x3 : Int32) (H : Heap) (locs : List Loc) (ls : Array Slot), B38 f g x1 x2 x3 → Wd D A s (mT cI cZ) (mW o h cI cZ f g) H locs → lv_has ls 4 [(0, .ref o), (1, .int x1), (2, .int x2), (3, .int x3)] → W p l e rmX11_race s m args below meth c H locs 0 0 Q (F0 m 38 ls [])) {f : Nat → Int32} {g : Nat → Nat → Int32} {x1 : Int32} {x2 : Int32} {x3 : Int32} (hh : wpX11_race_b97 B26 B38 f g x1 x2 x3 K) {H : Heap} {locs : List Loc} {ls : Array Slot} (hw : Wd D A s (mT cI cZ) (mW o h cI cZ f g) H locs) (hl : lv_has ls 4 [(0, .ref o), (1, .int x1), (2, .int x2), (3, .int x3)]) : W p l e rmX11_race s m args below meth c H locs 0 0 Q (F0 m 97 ls []) := by
  unfold wpX11_race_b97 at hh
  refine lv_iinc (v := x3 + (1 : Int32)) (lv' := [(3, .int (x3 + (1 : Int32))), (0, .ref o), (1, .int x1), (2, .int x2)]) C.1 C.2.1 dX11_race_97 hl (k := 3) rfl rfl (by decide) rfl (fun ls hl => ?_)
  refine lv_goto (tgt := 38) C.1 C.2.1 dX11_race_100 (by decide) ?_
  exact hB38 _ _ _ _ _ _ _ _ hh hw (lv_sub hl [1, 2, 3, 0] rfl)
set_option maxHeartbeats 4000000 in
set_option maxRecDepth 100000 in
theorem tX11_race_b38_body {B26 : (Nat → Int32) → (Nat → Nat → Int32) → Int32 → Int32 → Prop} {B38 : (Nat → Int32) → (Nat → Nat → Int32) → Int32 → Int32 → Int32 → Prop} {K : Int32 → ((Nat → Int32) × (Nat → Nat → Int32)) → Prop} (C : CallFix p m c cX11_race 4 s args wsX11_race RX11) (hR : Rti .int p l e rmX11_race s m args below meth c cX11_race D A (mT cI cZ) (mWu o h cI cZ) K Q) (hB26 : ∀ (f : Nat → Int32) (g : Nat → Nat → Int32) (x1 : Int32) (x2 : Int32) (H : Heap) (locs : List Loc) (ls : Array Slot), B26 f g x1 x2 → Wd D A s (mT cI cZ) (mW o h cI cZ f g) H locs → lv_has ls 4 [(0, .ref o), (1, .int x1), (2, .int x2)] → W p l e rmX11_race s m args below meth c H locs 0 0 Q (F0 m 26 ls [])) (hB38 : ∀ (f : Nat → Int32) (g : Nat → Nat → Int32) (x1 : Int32) (x2 : Int32) (x3 : Int32) (H : Heap) (locs : List Loc) (ls : Array Slot), B38 f g x1 x2 x3 → Wd D A s (mT cI cZ) (mW o h cI cZ f g) H locs → lv_has ls 4 [(0, .ref o), (1, .int x1), (2, .int x2), (3, .int x3)] → W p l e rmX11_race s m args below meth c H locs 0 0 Q (F0 m 38 ls [])) {f : Nat → Int32} {g : Nat → Nat → Int32} {x1 : Int32} {x2 : Int32} {x3 : Int32} (hh : wpX11_race_b38_body B26 B38 f g x1 x2 x3 K) {H : Heap} {locs : List Loc} {ls : Array Slot} (hw : Wd D A s (mT cI cZ) (mW o h cI cZ f g) H locs) (hl : lv_has ls 4 [(0, .ref o), (1, .int x1), (2, .int x2), (3, .int x3)]) : W p l e rmX11_race s m args below meth c H locs 0 0 Q (F0 m 38 ls []) := by
  unfold wpX11_race_b38_body at hh
  refine lv_iload_n C.1 C.2.1 dX11_race_38 rfl (lv_at hl 3 rfl) ?_
  refine lv_aload_n C.1 C.2.1 dX11_race_39 rfl (lv_at hl 0 rfl) ?_
  refine m_gi C hw (inC inW11) 20 (by decide) (wc w_1482) mg_20 (x := f 20) rfl dX11_race_40 ?_
  refine lv_icmp_ge (tgt := 103) C.1 C.2.1 dX11_race_43 (by decide) (fun c43 => ?_) (fun c43 => ?_)
  · replace hh := hh.1 c43
    refine lv_iinc (v := x2 + (1 : Int32)) (lv' := [(2, .int (x2 + (1 : Int32))), (0, .ref o), (1, .int x1), (3, .int x3)]) C.1 C.2.1 dX11_race_103 hl (k := 2) rfl rfl (by decide) rfl (fun ls hl => ?_)
    refine lv_goto (tgt := 26) C.1 C.2.1 dX11_race_106 (by decide) ?_
    exact hB26 _ _ _ _ _ _ _ hh hw (lv_sub hl [1, 2, 0] rfl)
  · replace hh := hh.2 c43
    refine lv_iload_n C.1 C.2.1 dX11_race_46 rfl (lv_at hl 1 rfl) ?_
    refine lv_iload_n C.1 C.2.1 dX11_race_47 rfl (lv_at hl 2 rfl) ?_
    refine wd_Si C hw (ctX11_isOf l D x1 x2 hh) (va_cwS 2 C.2.2.2.2 (gd_S w_1823 w_1824 (ini_cls rfl w_125) w_1825) rfl rfl rfl cdX11_isOf ⟨Nat.le_of_ble_eq_true rfl, Nat.le_of_ble_eq_true rfl⟩) rfl hl.1 (Nat.le_of_ble_eq_true rfl) dX11_race_48 ⟨Nat.zero_le _, Nat.zero_le _⟩ (fun r48 H locs hh hw => ?_) rfl
    refine lv_if_eq (tgt := 97) C.1 C.2.1 dX11_race_51 (by decide) (fun c51 => ?_) (fun c51 => ?_)
    · replace hh := hh.1 c51
      exact tX11_race_b97 C hR hB26 hB38 hh hw hl
    · replace hh := hh.2 c51
      refine lv_iload_n C.1 C.2.1 dX11_race_54 rfl (lv_at hl 1 rfl) ?_
      refine lv_iload_n C.1 C.2.1 dX11_race_55 rfl (lv_at hl 3 rfl) ?_
      refine wd_Si C hw (ctX11_isOf l D x1 x3 hh) (va_cwS 2 C.2.2.2.2 (gd_S w_1823 w_1824 (ini_cls rfl w_125) w_1825) rfl rfl rfl cdX11_isOf ⟨Nat.le_of_ble_eq_true rfl, Nat.le_of_ble_eq_true rfl⟩) rfl hl.1 (Nat.le_of_ble_eq_true rfl) dX11_race_56 ⟨Nat.zero_le _, Nat.zero_le _⟩ (fun r56 H locs hh hw => ?_) rfl
      refine lv_if_ne (tgt := 65) C.1 C.2.1 dX11_race_59 (by decide) (fun c59 => ?_) (fun c59 => ?_)
      · replace hh := hh.1 c59
        refine lv_aload_n C.1 C.2.1 dX11_race_65 rfl (lv_at hl 0 rfl) ?_
        refine lv_iload_n C.1 C.2.1 dX11_race_66 rfl (lv_at hl 2 rfl) ?_
        refine lv_iload_n C.1 C.2.1 dX11_race_67 rfl (lv_at hl 3 rfl) ?_
        refine m_Vi C hw (ctX11_races l D o h cI cZ f g x2 x3 hh) (cwV 2 C.2.2.2.2 (gd_V w_2001 w_2003 w_106 w_125 w_2004) rfl rfl rfl cdX11_races ⟨Nat.le_of_ble_eq_true rfl, Nat.le_of_ble_eq_true rfl⟩) rfl hl.1 (Nat.le_of_ble_eq_true rfl) dX11_race_68 ⟨Nat.zero_le _, Nat.zero_le _⟩ (fun r68 u68 H locs hh hw => ?_) rfl
        refine lv_if_eq (tgt := 81) C.1 C.2.1 dX11_race_71 (by decide) (fun c71 => ?_) (fun c71 => ?_)
        · replace hh := hh.1 c71
          refine lv_aload_n C.1 C.2.1 dX11_race_81 rfl (lv_at hl 0 rfl) ?_
          refine lv_iload_n C.1 C.2.1 dX11_race_82 rfl (lv_at hl 3 rfl) ?_
          refine lv_iload_n C.1 C.2.1 dX11_race_83 rfl (lv_at hl 2 rfl) ?_
          refine m_Vi C hw (ctX11_races l D o h cI cZ u68.1 u68.2 x3 x2 hh) (cwV 2 C.2.2.2.2 (gd_V w_2001 w_2003 w_106 w_125 w_2004) rfl rfl rfl cdX11_races ⟨Nat.le_of_ble_eq_true rfl, Nat.le_of_ble_eq_true rfl⟩) rfl hl.1 (Nat.le_of_ble_eq_true rfl) dX11_race_84 ⟨Nat.zero_le _, Nat.zero_le _⟩ (fun r84 u84 H locs hh hw => ?_) rfl
          refine lv_if_eq (tgt := 97) C.1 C.2.1 dX11_race_87 (by decide) (fun c87 => ?_) (fun c87 => ?_)
          · replace hh := hh.1 c87
            exact tX11_race_b97 C hR hB26 hB38 hh hw hl
          · replace hh := hh.2 c87
            refine lv_bipush (v := (32 : Int32)) C.1 C.2.1 dX11_race_90 (by decide) ?_
            refine lv_iload_n C.1 C.2.1 dX11_race_92 rfl (lv_at hl 3 rfl) ?_
            refine lv_imul C.1 C.2.1 dX11_race_93 ?_
            refine lv_iload_n C.1 C.2.1 dX11_race_94 rfl (lv_at hl 2 rfl) ?_
            refine lv_iadd C.1 C.2.1 dX11_race_95 ?_
            exact hR _ _ _ (u84.1, u84.2) _ _ dX11_race_96 rfl hh hw
        · replace hh := hh.2 c71
          refine lv_bipush (v := (32 : Int32)) C.1 C.2.1 dX11_race_74 (by decide) ?_
          refine lv_iload_n C.1 C.2.1 dX11_race_76 rfl (lv_at hl 2 rfl) ?_
          refine lv_imul C.1 C.2.1 dX11_race_77 ?_
          refine lv_iload_n C.1 C.2.1 dX11_race_78 rfl (lv_at hl 3 rfl) ?_
          refine lv_iadd C.1 C.2.1 dX11_race_79 ?_
          exact hR _ _ _ (u68.1, u68.2) _ _ dX11_race_80 rfl hh hw
      · replace hh := hh.2 c59
        refine lv_goto (tgt := 97) C.1 C.2.1 dX11_race_62 (by decide) ?_
        exact tX11_race_b97 C hR hB26 hB38 hh hw hl
theorem tX11_race_b38 {B26 : (Nat → Int32) → (Nat → Nat → Int32) → Int32 → Int32 → Prop} {K : Int32 → ((Nat → Int32) × (Nat → Nat → Int32)) → Prop} (C : CallFix p m c cX11_race 4 s args wsX11_race RX11) (hR : Rti .int p l e rmX11_race s m args below meth c cX11_race D A (mT cI cZ) (mWu o h cI cZ) K Q) (hB26 : ∀ (f : Nat → Int32) (g : Nat → Nat → Int32) (x1 : Int32) (x2 : Int32) (H : Heap) (locs : List Loc) (ls : Array Slot), B26 f g x1 x2 → Wd D A s (mT cI cZ) (mW o h cI cZ f g) H locs → lv_has ls 4 [(0, .ref o), (1, .int x1), (2, .int x2)] → W p l e rmX11_race s m args below meth c H locs 0 0 Q (F0 m 26 ls [])) (n : Nat) : ∀ (f : Nat → Int32) (g : Nat → Nat → Int32) (x1 : Int32) (x2 : Int32) (x3 : Int32) (H : Heap) (locs : List Loc) (ls : Array Slot), wpX11_race_b38 B26 n f g x1 x2 x3 K → Wd D A s (mT cI cZ) (mW o h cI cZ f g) H locs → lv_has ls 4 [(0, .ref o), (1, .int x1), (2, .int x2), (3, .int x3)] → W p l e rmX11_race s m args below meth c H locs 0 0 Q (F0 m 38 ls []) := by
  induction n with
  | zero => intro f g x1 x2 x3 H locs ls hh; exact hh.elim
  | succ n ih => intro f g x1 x2 x3 H locs ls hh hw hl; exact tX11_race_b38_body C hR hB26 ih hh hw hl
set_option maxHeartbeats 4000000 in
set_option maxRecDepth 100000 in
theorem tX11_race_b26_body {B26 : (Nat → Int32) → (Nat → Nat → Int32) → Int32 → Int32 → Prop} {K : Int32 → ((Nat → Int32) × (Nat → Nat → Int32)) → Prop} (C : CallFix p m c cX11_race 4 s args wsX11_race RX11) (hR : Rti .int p l e rmX11_race s m args below meth c cX11_race D A (mT cI cZ) (mWu o h cI cZ) K Q) (hB26 : ∀ (f : Nat → Int32) (g : Nat → Nat → Int32) (x1 : Int32) (x2 : Int32) (H : Heap) (locs : List Loc) (ls : Array Slot), B26 f g x1 x2 → Wd D A s (mT cI cZ) (mW o h cI cZ f g) H locs → lv_has ls 4 [(0, .ref o), (1, .int x1), (2, .int x2)] → W p l e rmX11_race s m args below meth c H locs 0 0 Q (F0 m 26 ls [])) {f : Nat → Int32} {g : Nat → Nat → Int32} {x1 : Int32} {x2 : Int32} (hh : wpX11_race_b26_body B26 f g x1 x2 K) {H : Heap} {locs : List Loc} {ls : Array Slot} (hw : Wd D A s (mT cI cZ) (mW o h cI cZ f g) H locs) (hl : lv_has ls 4 [(0, .ref o), (1, .int x1), (2, .int x2)]) : W p l e rmX11_race s m args below meth c H locs 0 0 Q (F0 m 26 ls []) := by
  unfold wpX11_race_b26_body at hh
  refine lv_iload_n C.1 C.2.1 dX11_race_26 rfl (lv_at hl 2 rfl) ?_
  refine lv_aload_n C.1 C.2.1 dX11_race_27 rfl (lv_at hl 0 rfl) ?_
  refine m_gi C hw (inC inW11) 20 (by decide) (wc w_1482) mg_20 (x := f 20) rfl dX11_race_28 ?_
  refine lv_icmp_ge (tgt := 109) C.1 C.2.1 dX11_race_31 (by decide) (fun c31 => ?_) (fun c31 => ?_)
  · replace hh := hh.1 c31
    refine lv_iconst (v := (-1 : Int32)) C.1 C.2.1 dX11_race_109 (by decide) ?_
    exact hR _ _ _ (f, g) _ _ dX11_race_110 rfl hh hw
  · replace hh := hh.2 c31
    refine lv_iload_n C.1 C.2.1 dX11_race_34 rfl (lv_at hl 2 rfl) ?_
    refine lv_iconst (v := (1 : Int32)) C.1 C.2.1 dX11_race_35 (by decide) ?_
    refine lv_iadd C.1 C.2.1 dX11_race_36 ?_
    refine lv_istore_n (lv' := [(3, .int (x2 + (1 : Int32))), (0, .ref o), (1, .int x1), (2, .int x2)]) C.1 C.2.1 dX11_race_37 rfl hl (by decide) rfl (fun ls hl => ?_)
    obtain ⟨n, hh⟩ := hh
    exact tX11_race_b38 C hR hB26 n _ _ _ _ _ _ _ _ hh hw (lv_sub hl [1, 2, 3, 0] rfl)
theorem tX11_race_b26 {K : Int32 → ((Nat → Int32) × (Nat → Nat → Int32)) → Prop} (C : CallFix p m c cX11_race 4 s args wsX11_race RX11) (hR : Rti .int p l e rmX11_race s m args below meth c cX11_race D A (mT cI cZ) (mWu o h cI cZ) K Q) (n : Nat) : ∀ (f : Nat → Int32) (g : Nat → Nat → Int32) (x1 : Int32) (x2 : Int32) (H : Heap) (locs : List Loc) (ls : Array Slot), wpX11_race_b26 n f g x1 x2 K → Wd D A s (mT cI cZ) (mW o h cI cZ f g) H locs → lv_has ls 4 [(0, .ref o), (1, .int x1), (2, .int x2)] → W p l e rmX11_race s m args below meth c H locs 0 0 Q (F0 m 26 ls []) := by
  induction n with
  | zero => intro f g x1 x2 H locs ls hh; exact hh.elim
  | succ n ih => intro f g x1 x2 H locs ls hh hw hl; exact tX11_race_b26_body C hR ih hh hw hl
set_option maxHeartbeats 4000000 in
set_option maxRecDepth 100000 in
theorem tX11_race_b0 {K : Int32 → ((Nat → Int32) × (Nat → Nat → Int32)) → Prop} (C : CallFix p m c cX11_race 4 s args wsX11_race RX11) (hR : Rti .int p l e rmX11_race s m args below meth c cX11_race D A (mT cI cZ) (mWu o h cI cZ) K Q) {f : Nat → Int32} {g : Nat → Nat → Int32} (hh : wpX11_race_b0 f g K) {H : Heap} {locs : List Loc} {ls : Array Slot} (hw : Wd D A s (mT cI cZ) (mW o h cI cZ f g) H locs) (hl : lv_has ls 4 [(0, .ref o)]) : W p l e rmX11_race s m args below meth c H locs 0 0 Q (F0 m 0 ls []) := by
  unfold wpX11_race_b0 at hh
  refine lv_aload_n C.1 C.2.1 dX11_race_0 rfl (lv_at hl 0 rfl) ?_
  refine lv_iconst (v := (0 : Int32)) C.1 C.2.1 dX11_race_1 (by decide) ?_
  refine m_pi C hw (inC inW11) 2 (by decide) (wc w_1464) rfl (ty := .int) (by decide +kernel) rfl rfl (Nat.le_of_ble_eq_true rfl) ms_2 dX11_race_2 (fun H locs hw => ?_)
  refine lv_aload_n C.1 C.2.1 dX11_race_5 rfl (lv_at hl 0 rfl) ?_
  refine m_gi C hw (inC inW11) 66 (by decide) (wc w_1528) mg_66 (x := f 66) rfl dX11_race_6 ?_
  refine lv_if_ne (tgt := 14) C.1 C.2.1 dX11_race_9 (by decide) (fun c9 => ?_) (fun c9 => ?_)
  · replace hh := hh.1 c9
    refine lv_aload_n C.1 C.2.1 dX11_race_14 rfl (lv_at hl 0 rfl) ?_
    refine m_gi C hw (inC inW11) 67 (by decide) (wc w_1529) mg_67 (x := f 67) rfl dX11_race_15 ?_
    refine lv_aload_n C.1 C.2.1 dX11_race_18 rfl (lv_at hl 0 rfl) ?_
    refine m_gi C hw (inC inW11) 68 (by decide) (wc w_1530) mg_68 (x := f 68) rfl dX11_race_19 ?_
    refine lv_ixor C.1 C.2.1 dX11_race_22 ?_
    refine lv_istore_n (lv' := [(1, .int ((f 67) ^^^ (f 68))), (0, .ref o)]) C.1 C.2.1 dX11_race_23 rfl hl (by decide) rfl (fun ls hl => ?_)
    refine lv_iconst (v := (0 : Int32)) C.1 C.2.1 dX11_race_24 (by decide) ?_
    refine lv_istore_n (lv' := [(2, .int (0 : Int32)), (1, .int ((f 67) ^^^ (f 68))), (0, .ref o)]) C.1 C.2.1 dX11_race_25 rfl hl (by decide) rfl (fun ls hl => ?_)
    obtain ⟨n, hh⟩ := hh
    exact tX11_race_b26 C hR n _ _ _ _ _ _ _ hh hw (lv_sub hl [2, 1, 0] rfl)
  · replace hh := hh.2 c9
    refine lv_iconst (v := (-1 : Int32)) C.1 C.2.1 dX11_race_12 (by decide) ?_
    exact hR _ _ _ (upd f 2 (0 : Int32), g) _ _ dX11_race_13 rfl hh hw
theorem ctX11_race (l : Launch) (D : va_G) (o : Nat) (h : Nat → Nat) (cI cZ : ClassId) (f : Nat → Int32) (g : Nat → Nat → Int32) {K : Int32 → ((Nat → Int32) × (Nat → Nat → Int32)) → Prop} (hh : wpX11_race f g K) : Ci l yX11_race wsX11_race rmX11_race [.ref o] D (mT cI cZ) (mWu o h cI cZ) (f, g) K := by
  refine Ci_of (cc := cX11_race) (maxL := 4) (by decide) rfl (Nat.le_of_ble_eq_true rfl) ?_
  intro p e s m below meth c A Q C hw hR ls hl
  exact tX11_race_b0 C hR hh hw hl
theorem cdX11_race : yX11_race.cls = RX11 ∧ yX11_race.cls ≠ "java/lang/invoke/MethodHandle" ∧ yX11_race.cls ≠ "java/lang/invoke/VarHandle" ∧ (parseMethodDescriptor yX11_race.desc).map (fun d => d.parameters.length) = some 0 := by decide +kernel
abbrev rmX11_sticks : Room := { frames := 0, cells := 0, slots := 0, locals := 0 }
set_option maxHeartbeats 4000000 in
set_option maxRecDepth 100000 in
theorem tX11_sticks_b95 {K : ((Nat → Int32) × (Nat → Nat → Int32)) → Prop} (C : CallFix p m c cX11_sticks 3 s args wsX11_sticks RX11) (hR : Rtv p l e rmX11_sticks s m args below meth c cX11_sticks D A (mT cI cZ) (mWu o h cI cZ) K Q) {f : Nat → Int32} {g : Nat → Nat → Int32} (hh : wpX11_sticks_b95 f g K) {H : Heap} {locs : List Loc} {ls : Array Slot} (hw : Wd D A s (mT cI cZ) (mW o h cI cZ f g) H locs) (hl : lv_has ls 3 [(0, .ref o)]) : W p l e rmX11_sticks s m args below meth c H locs 0 0 Q (F0 m 95 ls []) := by
  unfold wpX11_sticks_b95 at hh
  exact hR _ _ (f, g) _ _ dX11_sticks_95 hh hw
set_option maxHeartbeats 4000000 in
set_option maxRecDepth 100000 in
theorem tX11_sticks_b92 {K : ((Nat → Int32) × (Nat → Nat → Int32)) → Prop} (C : CallFix p m c cX11_sticks 3 s args wsX11_sticks RX11) (hR : Rtv p l e rmX11_sticks s m args below meth c cX11_sticks D A (mT cI cZ) (mWu o h cI cZ) K Q) {f : Nat → Int32} {g : Nat → Nat → Int32} {k1 : Int32} (hh : wpX11_sticks_b92 f g k1 K) {H : Heap} {locs : List Loc} {ls : Array Slot} (hw : Wd D A s (mT cI cZ) (mW o h cI cZ f g) H locs) (hl : lv_has ls 3 [(0, .ref o)]) : W p l e rmX11_sticks s m args below meth c H locs 0 0 Q (F0 m 92 ls [.int k1, .ref o]) := by
  unfold wpX11_sticks_b92 at hh
  refine m_pi C hw (inC inW11) 45 (by decide) (wc w_1507) rfl (ty := .int) (by decide +kernel) rfl rfl (Nat.le_of_ble_eq_true rfl) ms_45 dX11_sticks_92 (fun H locs hw => ?_)
  exact tX11_sticks_b95 C hR hh hw hl
set_option maxHeartbeats 4000000 in
set_option maxRecDepth 100000 in
theorem tX11_sticks_b57 {K : ((Nat → Int32) × (Nat → Nat → Int32)) → Prop} (C : CallFix p m c cX11_sticks 3 s args wsX11_sticks RX11) (hR : Rtv p l e rmX11_sticks s m args below meth c cX11_sticks D A (mT cI cZ) (mWu o h cI cZ) K Q) {f : Nat → Int32} {g : Nat → Nat → Int32} {k1 : Int32} {x1 : Int32} {x2 : Int32} (hh : wpX11_sticks_b57 f g k1 x1 x2 K) {H : Heap} {locs : List Loc} {ls : Array Slot} (hw : Wd D A s (mT cI cZ) (mW o h cI cZ f g) H locs) (hl : lv_has ls 3 [(0, .ref o), (1, .int x1), (2, .int x2)]) : W p l e rmX11_sticks s m args below meth c H locs 0 0 Q (F0 m 57 ls [.int k1, .ref o]) := by
  unfold wpX11_sticks_b57 at hh
  refine m_pi C hw (inC inW11) 50 (by decide) (wc w_1512) rfl (ty := .int) (by decide +kernel) rfl rfl (Nat.le_of_ble_eq_true rfl) ms_50 dX11_sticks_57 (fun H locs hw => ?_)
  refine lv_iload_n C.1 C.2.1 dX11_sticks_60 rfl (lv_at hl 2 rfl) ?_
  refine lv_iconst (v := (2 : Int32)) C.1 C.2.1 dX11_sticks_61 (by decide) ?_
  refine lv_icmp_ge (tgt := 95) C.1 C.2.1 dX11_sticks_62 (by decide) (fun c62 => ?_) (fun c62 => ?_)
  · replace hh := hh.1 c62
    exact tX11_sticks_b95 C hR hh hw (lv_sub hl [0] rfl)
  · replace hh := hh.2 c62
    refine lv_aload_n C.1 C.2.1 dX11_sticks_65 rfl (lv_at hl 0 rfl) ?_
    refine lv_iload_n C.1 C.2.1 dX11_sticks_66 rfl (lv_at hl 2 rfl) ?_
    refine lv_iconst (v := (1 : Int32)) C.1 C.2.1 dX11_sticks_67 (by decide) ?_
    refine lv_icmp_ne (tgt := 82) C.1 C.2.1 dX11_sticks_68 (by decide) (fun c68 => ?_) (fun c68 => ?_)
    · replace hh := hh.1 c68
      refine lv_aload_n C.1 C.2.1 dX11_sticks_82 rfl (lv_at hl 0 rfl) ?_
      refine m_gi C hw (inC inW11) 45 (by decide) (wc w_1507) mg_45 (x := f 45) rfl dX11_sticks_83 ?_
      refine lv_iconst (v := (1 : Int32)) C.1 C.2.1 dX11_sticks_86 (by decide) ?_
      refine lv_iload_n C.1 C.2.1 dX11_sticks_87 rfl (lv_at hl 1 rfl) ?_
      refine g_ishl C dX11_sticks_88 ?_
      refine lv_iconst (v := (-1 : Int32)) C.1 C.2.1 dX11_sticks_89 (by decide) ?_
      refine lv_ixor C.1 C.2.1 dX11_sticks_90 ?_
      refine lv_iand C.1 C.2.1 dX11_sticks_91 ?_
      exact tX11_sticks_b92 C hR hh hw (lv_sub hl [0] rfl)
    · replace hh := hh.2 c68
      refine lv_aload_n C.1 C.2.1 dX11_sticks_71 rfl (lv_at hl 0 rfl) ?_
      refine m_gi C hw (inC inW11) 45 (by decide) (wc w_1507) mg_45 (x := f 45) rfl dX11_sticks_72 ?_
      refine lv_iconst (v := (1 : Int32)) C.1 C.2.1 dX11_sticks_75 (by decide) ?_
      refine lv_iload_n C.1 C.2.1 dX11_sticks_76 rfl (lv_at hl 1 rfl) ?_
      refine g_ishl C dX11_sticks_77 ?_
      refine lv_ior C.1 C.2.1 dX11_sticks_78 ?_
      refine lv_goto (tgt := 92) C.1 C.2.1 dX11_sticks_79 (by decide) ?_
      exact tX11_sticks_b92 C hR hh hw (lv_sub hl [0] rfl)
set_option maxHeartbeats 4000000 in
set_option maxRecDepth 100000 in
theorem tX11_sticks_b27 {K : ((Nat → Int32) × (Nat → Nat → Int32)) → Prop} (C : CallFix p m c cX11_sticks 3 s args wsX11_sticks RX11) (hR : Rtv p l e rmX11_sticks s m args below meth c cX11_sticks D A (mT cI cZ) (mWu o h cI cZ) K Q) {f : Nat → Int32} {g : Nat → Nat → Int32} {k1 : Int32} {x1 : Int32} {x2 : Int32} (hh : wpX11_sticks_b27 f g k1 x1 x2 K) {H : Heap} {locs : List Loc} {ls : Array Slot} (hw : Wd D A s (mT cI cZ) (mW o h cI cZ f g) H locs) (hl : lv_has ls 3 [(0, .ref o), (1, .int x1), (2, .int x2)]) : W p l e rmX11_sticks s m args below meth c H locs 0 0 Q (F0 m 27 ls [.int k1, .ref o]) := by
  unfold wpX11_sticks_b27 at hh
  refine m_pi C hw (inC inW11) 49 (by decide) (wc w_1511) rfl (ty := .int) (by decide +kernel) rfl rfl (Nat.le_of_ble_eq_true rfl) ms_49 dX11_sticks_27 (fun H locs hw => ?_)
  refine lv_aload_n C.1 C.2.1 dX11_sticks_30 rfl (lv_at hl 0 rfl) ?_
  refine lv_iload_n C.1 C.2.1 dX11_sticks_31 rfl (lv_at hl 2 rfl) ?_
  refine lv_iconst (v := (1 : Int32)) C.1 C.2.1 dX11_sticks_32 (by decide) ?_
  refine lv_icmp_ne (tgt := 47) C.1 C.2.1 dX11_sticks_33 (by decide) (fun c33 => ?_) (fun c33 => ?_)
  · replace hh := hh.1 c33
    refine lv_aload_n C.1 C.2.1 dX11_sticks_47 rfl (lv_at hl 0 rfl) ?_
    refine m_gi C hw (inC inW11) 50 (by decide) (wc w_1512) mg_50 (x := f 50) rfl dX11_sticks_48 ?_
    refine lv_iconst (v := (1 : Int32)) C.1 C.2.1 dX11_sticks_51 (by decide) ?_
    refine lv_iload_n C.1 C.2.1 dX11_sticks_52 rfl (lv_at hl 1 rfl) ?_
    refine g_ishl C dX11_sticks_53 ?_
    refine lv_iconst (v := (-1 : Int32)) C.1 C.2.1 dX11_sticks_54 (by decide) ?_
    refine lv_ixor C.1 C.2.1 dX11_sticks_55 ?_
    refine lv_iand C.1 C.2.1 dX11_sticks_56 ?_
    exact tX11_sticks_b57 C hR hh hw hl
  · replace hh := hh.2 c33
    refine lv_aload_n C.1 C.2.1 dX11_sticks_36 rfl (lv_at hl 0 rfl) ?_
    refine m_gi C hw (inC inW11) 50 (by decide) (wc w_1512) mg_50 (x := f 50) rfl dX11_sticks_37 ?_
    refine lv_iconst (v := (1 : Int32)) C.1 C.2.1 dX11_sticks_40 (by decide) ?_
    refine lv_iload_n C.1 C.2.1 dX11_sticks_41 rfl (lv_at hl 1 rfl) ?_
    refine g_ishl C dX11_sticks_42 ?_
    refine lv_ior C.1 C.2.1 dX11_sticks_43 ?_
    refine lv_goto (tgt := 57) C.1 C.2.1 dX11_sticks_44 (by decide) ?_
    exact tX11_sticks_b57 C hR hh hw hl
set_option maxHeartbeats 4000000 in
set_option maxRecDepth 100000 in
theorem tX11_sticks_b0 {K : ((Nat → Int32) × (Nat → Nat → Int32)) → Prop} (C : CallFix p m c cX11_sticks 3 s args wsX11_sticks RX11) (hR : Rtv p l e rmX11_sticks s m args below meth c cX11_sticks D A (mT cI cZ) (mWu o h cI cZ) K Q) {f : Nat → Int32} {g : Nat → Nat → Int32} {x1 : Int32} {x2 : Int32} (hh : wpX11_sticks_b0 f g x1 x2 K) {H : Heap} {locs : List Loc} {ls : Array Slot} (hw : Wd D A s (mT cI cZ) (mW o h cI cZ f g) H locs) (hl : lv_has ls 3 [(0, .ref o), (1, .int x1), (2, .int x2)]) : W p l e rmX11_sticks s m args below meth c H locs 0 0 Q (F0 m 0 ls []) := by
  unfold wpX11_sticks_b0 at hh
  refine lv_aload_n C.1 C.2.1 dX11_sticks_0 rfl (lv_at hl 0 rfl) ?_
  refine lv_iload_n C.1 C.2.1 dX11_sticks_1 rfl (lv_at hl 2 rfl) ?_
  refine lv_iconst (v := (2 : Int32)) C.1 C.2.1 dX11_sticks_2 (by decide) ?_
  refine lv_icmp_ne (tgt := 19) C.1 C.2.1 dX11_sticks_3 (by decide) (fun c3 => ?_) (fun c3 => ?_)
  · replace hh := hh.1 c3
    refine lv_aload_n C.1 C.2.1 dX11_sticks_19 rfl (lv_at hl 0 rfl) ?_
    refine m_gi C hw (inC inW11) 49 (by decide) (wc w_1511) mg_49 (x := f 49) rfl dX11_sticks_20 ?_
    refine lv_iconst (v := (1 : Int32)) C.1 C.2.1 dX11_sticks_23 (by decide) ?_
    refine lv_iload_n C.1 C.2.1 dX11_sticks_24 rfl (lv_at hl 1 rfl) ?_
    refine g_ishl C dX11_sticks_25 ?_
    refine lv_ior C.1 C.2.1 dX11_sticks_26 ?_
    exact tX11_sticks_b27 C hR hh hw hl
  · replace hh := hh.2 c3
    refine lv_aload_n C.1 C.2.1 dX11_sticks_6 rfl (lv_at hl 0 rfl) ?_
    refine m_gi C hw (inC inW11) 49 (by decide) (wc w_1511) mg_49 (x := f 49) rfl dX11_sticks_7 ?_
    refine lv_iconst (v := (1 : Int32)) C.1 C.2.1 dX11_sticks_10 (by decide) ?_
    refine lv_iload_n C.1 C.2.1 dX11_sticks_11 rfl (lv_at hl 1 rfl) ?_
    refine g_ishl C dX11_sticks_12 ?_
    refine lv_iconst (v := (-1 : Int32)) C.1 C.2.1 dX11_sticks_13 (by decide) ?_
    refine lv_ixor C.1 C.2.1 dX11_sticks_14 ?_
    refine lv_iand C.1 C.2.1 dX11_sticks_15 ?_
    refine lv_goto (tgt := 27) C.1 C.2.1 dX11_sticks_16 (by decide) ?_
    exact tX11_sticks_b27 C hR hh hw hl
theorem ctX11_sticks (l : Launch) (D : va_G) (o : Nat) (h : Nat → Nat) (cI cZ : ClassId) (f : Nat → Int32) (g : Nat → Nat → Int32) (x1 : Int32) (x2 : Int32) {K : ((Nat → Int32) × (Nat → Nat → Int32)) → Prop} (hh : wpX11_sticks f g x1 x2 K) : Cv l yX11_sticks wsX11_sticks rmX11_sticks [.ref o, .int x1, .int x2] D (mT cI cZ) (mWu o h cI cZ) (f, g) K := by
  refine Cv_of (cc := cX11_sticks) (maxL := 3) (by decide) rfl (Nat.le_of_ble_eq_true rfl) ?_
  intro p e s m below meth c A Q C hw hR ls hl
  exact tX11_sticks_b0 C hR hh hw hl
theorem cdX11_sticks : yX11_sticks.cls = RX11 ∧ yX11_sticks.cls ≠ "java/lang/invoke/MethodHandle" ∧ yX11_sticks.cls ≠ "java/lang/invoke/VarHandle" ∧ (parseMethodDescriptor yX11_sticks.desc).map (fun d => d.parameters.length) = some 2 := by decide +kernel
abbrev rmX11_stick : Room := { frames := 1, cells := 0, slots := 0, locals := 22 }
set_option maxHeartbeats 4000000 in
set_option maxRecDepth 100000 in
theorem tX11_stick_b26 {K : Int32 → ((Nat → Int32) × (Nat → Nat → Int32)) → Prop} (C : CallFix p m c cX11_stick 3 s args wsX11_stick RX11) (hR : Rti .boolean p l e rmX11_stick s m args below meth c cX11_stick D A (mT cI cZ) (mWu o h cI cZ) K Q) {f : Nat → Int32} {g : Nat → Nat → Int32} (hh : wpX11_stick_b26 f g K) {H : Heap} {locs : List Loc} {ls : Array Slot} (hw : Wd D A s (mT cI cZ) (mW o h cI cZ f g) H locs) (hl : lv_has ls 3 [(0, .ref o)]) : W p l e rmX11_stick s m args below meth c H locs 0 0 Q (F0 m 26 ls []) := by
  unfold wpX11_stick_b26 at hh
  refine lv_iconst (v := (0 : Int32)) C.1 C.2.1 dX11_stick_26 (by decide) ?_
  exact hR _ _ _ (f, g) _ _ dX11_stick_27 rfl hh hw
set_option maxHeartbeats 4000000 in
set_option maxRecDepth 100000 in
theorem tX11_stick_b0 {K : Int32 → ((Nat → Int32) × (Nat → Nat → Int32)) → Prop} (C : CallFix p m c cX11_stick 3 s args wsX11_stick RX11) (hR : Rti .boolean p l e rmX11_stick s m args below meth c cX11_stick D A (mT cI cZ) (mWu o h cI cZ) K Q) {f : Nat → Int32} {g : Nat → Nat → Int32} {x1 : Int32} {x2 : Int32} (hh : wpX11_stick_b0 f g x1 x2 K) {H : Heap} {locs : List Loc} {ls : Array Slot} (hw : Wd D A s (mT cI cZ) (mW o h cI cZ f g) H locs) (hl : lv_has ls 3 [(0, .ref o), (1, .int x1), (2, .int x2)]) : W p l e rmX11_stick s m args below meth c H locs 0 0 Q (F0 m 0 ls []) := by
  unfold wpX11_stick_b0 at hh
  refine lv_aload_n C.1 C.2.1 dX11_stick_0 rfl (lv_at hl 0 rfl) ?_
  refine lv_iconst (v := (0 : Int32)) C.1 C.2.1 dX11_stick_1 (by decide) ?_
  refine m_pi C hw (inC inW11) 2 (by decide) (wc w_1464) rfl (ty := .int) (by decide +kernel) rfl rfl (Nat.le_of_ble_eq_true rfl) ms_2 dX11_stick_2 (fun H locs hw => ?_)
  refine lv_iload_n C.1 C.2.1 dX11_stick_5 rfl (lv_at hl 1 rfl) ?_
  refine lv_if_lt (tgt := 26) C.1 C.2.1 dX11_stick_6 (by decide) (fun c6 => ?_) (fun c6 => ?_)
  · replace hh := hh.1 c6
    exact tX11_stick_b26 C hR hh hw (lv_sub hl [0] rfl)
  · replace hh := hh.2 c6
    refine lv_iload_n C.1 C.2.1 dX11_stick_9 rfl (lv_at hl 1 rfl) ?_
    refine lv_aload_n C.1 C.2.1 dX11_stick_10 rfl (lv_at hl 0 rfl) ?_
    refine m_gi C hw (inC inW11) 20 (by decide) (wc w_1482) mg_20 (x := f 20) rfl dX11_stick_11 ?_
    refine lv_icmp_ge (tgt := 26) C.1 C.2.1 dX11_stick_14 (by decide) (fun c14 => ?_) (fun c14 => ?_)
    · replace hh := hh.1 c14
      exact tX11_stick_b26 C hR hh hw (lv_sub hl [0] rfl)
    · replace hh := hh.2 c14
      refine lv_iload_n C.1 C.2.1 dX11_stick_17 rfl (lv_at hl 2 rfl) ?_
      refine lv_iconst (v := (0 : Int32)) C.1 C.2.1 dX11_stick_18 (by decide) ?_
      refine lv_iconst (v := (2 : Int32)) C.1 C.2.1 dX11_stick_19 (by decide) ?_
      refine wd_Si C hw (ctX11_isIn l D x2 (0 : Int32) (2 : Int32) hh) (va_cwS 3 C.2.2.2.2 (gd_S w_1804 w_1805 (ini_cls rfl w_125) w_1806) rfl rfl rfl cdX11_isIn ⟨Nat.le_of_ble_eq_true rfl, Nat.le_of_ble_eq_true rfl⟩) rfl hl.1 (Nat.le_of_ble_eq_true rfl) dX11_stick_20 ⟨Nat.zero_le _, Nat.zero_le _⟩ (fun r20 H locs hh hw => ?_) rfl
      refine lv_if_ne (tgt := 28) C.1 C.2.1 dX11_stick_23 (by decide) (fun c23 => ?_) (fun c23 => ?_)
      · replace hh := hh.1 c23
        refine lv_aload_n C.1 C.2.1 dX11_stick_28 rfl (lv_at hl 0 rfl) ?_
        refine lv_iload_n C.1 C.2.1 dX11_stick_29 rfl (lv_at hl 1 rfl) ?_
        refine lv_iload_n C.1 C.2.1 dX11_stick_30 rfl (lv_at hl 2 rfl) ?_
        refine m_Vv C hw (ctX11_sticks l D o h cI cZ (upd f 2 (0 : Int32)) g x1 x2 hh) (cwV 2 C.2.2.2.2 (gd_V w_2009 w_2011 w_107 w_125 w_2012) rfl rfl rfl cdX11_sticks ⟨Nat.le_of_ble_eq_true rfl, Nat.le_of_ble_eq_true rfl⟩) rfl hl.1 (Nat.le_of_ble_eq_true rfl) dX11_stick_31 ⟨Nat.zero_le _, Nat.zero_le _⟩ (fun u31 H locs hh hw => ?_) rfl
        refine lv_iconst (v := (1 : Int32)) C.1 C.2.1 dX11_stick_34 (by decide) ?_
        exact hR _ _ _ (u31.1, u31.2) _ _ dX11_stick_35 rfl hh hw
      · replace hh := hh.2 c23
        exact tX11_stick_b26 C hR hh hw (lv_sub hl [0] rfl)
theorem ctX11_stick (l : Launch) (D : va_G) (o : Nat) (h : Nat → Nat) (cI cZ : ClassId) (f : Nat → Int32) (g : Nat → Nat → Int32) (x1 : Int32) (x2 : Int32) {K : Int32 → ((Nat → Int32) × (Nat → Nat → Int32)) → Prop} (hh : wpX11_stick f g x1 x2 K) : Ci l yX11_stick wsX11_stick rmX11_stick [.ref o, .int x1, .int x2] D (mT cI cZ) (mWu o h cI cZ) (f, g) K := by
  refine Ci_of (cc := cX11_stick) (maxL := 3) (by decide) rfl (Nat.le_of_ble_eq_true rfl) ?_
  intro p e s m below meth c A Q C hw hR ls hl
  exact tX11_stick_b0 C hR hh hw hl
theorem cdX11_stick : yX11_stick.cls = RX11 ∧ yX11_stick.cls ≠ "java/lang/invoke/MethodHandle" ∧ yX11_stick.cls ≠ "java/lang/invoke/VarHandle" ∧ (parseMethodDescriptor yX11_stick.desc).map (fun d => d.parameters.length) = some 2 := by decide +kernel
abbrev rmX11_stuck : Room := { frames := 0, cells := 0, slots := 0, locals := 0 }
set_option maxHeartbeats 4000000 in
set_option maxRecDepth 100000 in
theorem tX11_stuck_b0 {K : Int32 → ((Nat → Int32) × (Nat → Nat → Int32)) → Prop} (C : CallFix p m c cX11_stuck 1 s args wsX11_stuck RX11) (hR : Rti .int p l e rmX11_stuck s m args below meth c cX11_stuck D A (mT cI cZ) (mWu o h cI cZ) K Q) {f : Nat → Int32} {g : Nat → Nat → Int32} (hh : wpX11_stuck_b0 f g K) {H : Heap} {locs : List Loc} {ls : Array Slot} (hw : Wd D A s (mT cI cZ) (mW o h cI cZ f g) H locs) (hl : lv_has ls 1 [(0, .ref o)]) : W p l e rmX11_stuck s m args below meth c H locs 0 0 Q (F0 m 0 ls []) := by
  unfold wpX11_stuck_b0 at hh
  refine lv_aload_n C.1 C.2.1 dX11_stuck_0 rfl (lv_at hl 0 rfl) ?_
  refine lv_iconst (v := (0 : Int32)) C.1 C.2.1 dX11_stuck_1 (by decide) ?_
  refine m_pi C hw (inC inW11) 2 (by decide) (wc w_1464) rfl (ty := .int) (by decide +kernel) rfl rfl (Nat.le_of_ble_eq_true rfl) ms_2 dX11_stuck_2 (fun H locs hw => ?_)
  refine lv_aload_n C.1 C.2.1 dX11_stuck_5 rfl (lv_at hl 0 rfl) ?_
  refine m_gi C hw (inC inW11) 49 (by decide) (wc w_1511) mg_49 (x := f 49) rfl dX11_stuck_6 ?_
  exact hR _ _ _ (upd f 2 (0 : Int32), g) _ _ dX11_stuck_9 rfl hh hw
theorem ctX11_stuck (l : Launch) (D : va_G) (o : Nat) (h : Nat → Nat) (cI cZ : ClassId) (f : Nat → Int32) (g : Nat → Nat → Int32) {K : Int32 → ((Nat → Int32) × (Nat → Nat → Int32)) → Prop} (hh : wpX11_stuck f g K) : Ci l yX11_stuck wsX11_stuck rmX11_stuck [.ref o] D (mT cI cZ) (mWu o h cI cZ) (f, g) K := by
  refine Ci_of (cc := cX11_stuck) (maxL := 1) (by decide) rfl (Nat.le_of_ble_eq_true rfl) ?_
  intro p e s m below meth c A Q C hw hR ls hl
  exact tX11_stuck_b0 C hR hh hw hl
theorem cdX11_stuck : yX11_stuck.cls = RX11 ∧ yX11_stuck.cls ≠ "java/lang/invoke/MethodHandle" ∧ yX11_stuck.cls ≠ "java/lang/invoke/VarHandle" ∧ (parseMethodDescriptor yX11_stuck.desc).map (fun d => d.parameters.length) = some 0 := by decide +kernel
abbrev rmX11_same : Room := { frames := 5, cells := 0, slots := 0, locals := 107 }
set_option maxHeartbeats 4000000 in
set_option maxRecDepth 100000 in
theorem tX11_same_b224 {K : Int32 → ((Nat → Int32) × (Nat → Nat → Int32)) → Prop} (C : CallFix p m c cX11_same 8 s args wsX11_same RX11) (hR : Rti .int p l e rmX11_same s m args below meth c cX11_same D A (mT cI cZ) (mWu o h cI cZ) K Q) {f : Nat → Int32} {g : Nat → Nat → Int32} {x2 : Int32} (hh : wpX11_same_b224 f g x2 K) {H : Heap} {locs : List Loc} {ls : Array Slot} (hw : Wd D A s (mT cI cZ) (mW o h cI cZ f g) H locs) (hl : lv_has ls 8 [(0, .ref o), (2, .int x2)]) : W p l e rmX11_same s m args below meth c H locs 0 0 Q (F0 m 224 ls []) := by
  unfold wpX11_same_b224 at hh
  refine lv_aload_n C.1 C.2.1 dX11_same_224 rfl (lv_at hl 0 rfl) ?_
  refine lv_iconst (v := (4 : Int32)) C.1 C.2.1 dX11_same_225 (by decide) ?_
  refine m_Vv C hw (ctX11_takes l D o h cI cZ f g (4 : Int32) hh) (cwV 1 C.2.2.2.2 (gd_V w_1902 w_1904 w_92 w_125 w_1905) rfl rfl rfl cdX11_takes ⟨Nat.le_of_ble_eq_true rfl, Nat.le_of_ble_eq_true rfl⟩) rfl hl.1 (Nat.le_of_ble_eq_true rfl) dX11_same_226 ⟨Nat.zero_le _, Nat.zero_le _⟩ (fun u226 H locs hh hw => ?_) rfl
  refine lv_iload_n C.1 C.2.1 dX11_same_229 rfl (lv_at hl 1 rfl) ?_
  exact hR _ _ _ (u226.1, u226.2) _ _ dX11_same_230 rfl hh hw
set_option maxHeartbeats 4000000 in
set_option maxRecDepth 100000 in
theorem tX11_same_b217 {B51 : (Nat → Int32) → (Nat → Nat → Int32) → Int32 → Int32 → Int32 → Prop} {K : Int32 → ((Nat → Int32) × (Nat → Nat → Int32)) → Prop} (C : CallFix p m c cX11_same 8 s args wsX11_same RX11) (hR : Rti .int p l e rmX11_same s m args below meth c cX11_same D A (mT cI cZ) (mWu o h cI cZ) K Q) (hB51 : ∀ (f : Nat → Int32) (g : Nat → Nat → Int32) (x1 : Int32) (x2 : Int32) (x3 : Int32) (H : Heap) (locs : List Loc) (ls : Array Slot), B51 f g x1 x2 x3 → Wd D A s (mT cI cZ) (mW o h cI cZ f g) H locs → lv_has ls 8 [(0, .ref o), (1, .int x1), (2, .int x2), (3, .int x3)] → W p l e rmX11_same s m args below meth c H locs 0 0 Q (F0 m 51 ls [])) {f : Nat → Int32} {g : Nat → Nat → Int32} {k0 : Int32} {x1 : Int32} {x3 : Int32} (hh : wpX11_same_b217 B51 f g k0 x1 x3 K) {H : Heap} {locs : List Loc} {ls : Array Slot} (hw : Wd D A s (mT cI cZ) (mW o h cI cZ f g) H locs) (hl : lv_has ls 8 [(0, .ref o), (1, .int x1), (3, .int x3)]) : W p l e rmX11_same s m args below meth c H locs 0 0 Q (F0 m 217 ls [.int k0]) := by
  unfold wpX11_same_b217 at hh
  refine lv_istore_n (lv' := [(2, .int k0), (0, .ref o), (1, .int x1), (3, .int x3)]) C.1 C.2.1 dX11_same_217 rfl hl (by decide) rfl (fun ls hl => ?_)
  refine lv_iinc (v := x3 + (1 : Int32)) (lv' := [(3, .int (x3 + (1 : Int32))), (2, .int k0), (0, .ref o), (1, .int x1)]) C.1 C.2.1 dX11_same_218 hl (k := 3) rfl rfl (by decide) rfl (fun ls hl => ?_)
  refine lv_goto (tgt := 51) C.1 C.2.1 dX11_same_221 (by decide) ?_
  exact hB51 _ _ _ _ _ _ _ _ hh hw (lv_sub hl [2, 3, 1, 0] rfl)
set_option maxHeartbeats 4000000 in
set_option maxRecDepth 100000 in
theorem tX11_same_b199 {B51 : (Nat → Int32) → (Nat → Nat → Int32) → Int32 → Int32 → Int32 → Prop} {B163 : (Nat → Int32) → (Nat → Nat → Int32) → Int32 → Int32 → Int32 → Int32 → Prop} {K : Int32 → ((Nat → Int32) × (Nat → Nat → Int32)) → Prop} (C : CallFix p m c cX11_same 8 s args wsX11_same RX11) (hR : Rti .int p l e rmX11_same s m args below meth c cX11_same D A (mT cI cZ) (mWu o h cI cZ) K Q) (hB51 : ∀ (f : Nat → Int32) (g : Nat → Nat → Int32) (x1 : Int32) (x2 : Int32) (x3 : Int32) (H : Heap) (locs : List Loc) (ls : Array Slot), B51 f g x1 x2 x3 → Wd D A s (mT cI cZ) (mW o h cI cZ f g) H locs → lv_has ls 8 [(0, .ref o), (1, .int x1), (2, .int x2), (3, .int x3)] → W p l e rmX11_same s m args below meth c H locs 0 0 Q (F0 m 51 ls [])) (hB163 : ∀ (f : Nat → Int32) (g : Nat → Nat → Int32) (x1 : Int32) (x3 : Int32) (x6 : Int32) (x7 : Int32) (H : Heap) (locs : List Loc) (ls : Array Slot), B163 f g x1 x3 x6 x7 → Wd D A s (mT cI cZ) (mW o h cI cZ f g) H locs → lv_has ls 8 [(0, .ref o), (1, .int x1), (3, .int x3), (6, .int x6), (7, .int x7)] → W p l e rmX11_same s m args below meth c H locs 0 0 Q (F0 m 163 ls [])) {f : Nat → Int32} {g : Nat → Nat → Int32} {k0 : Int32} {x1 : Int32} {x3 : Int32} {x7 : Int32} (hh : wpX11_same_b199 B51 B163 f g k0 x1 x3 x7 K) {H : Heap} {locs : List Loc} {ls : Array Slot} (hw : Wd D A s (mT cI cZ) (mW o h cI cZ f g) H locs) (hl : lv_has ls 8 [(0, .ref o), (1, .int x1), (3, .int x3), (7, .int x7)]) : W p l e rmX11_same s m args below meth c H locs 0 0 Q (F0 m 199 ls [.int k0]) := by
  unfold wpX11_same_b199 at hh
  refine lv_istore (lv' := [(6, .int k0), (0, .ref o), (1, .int x1), (3, .int x3), (7, .int x7)]) C.1 C.2.1 dX11_same_199 hl (by decide) rfl (fun ls hl => ?_)
  refine lv_iinc (v := x7 + (1 : Int32)) (lv' := [(7, .int (x7 + (1 : Int32))), (6, .int k0), (0, .ref o), (1, .int x1), (3, .int x3)]) C.1 C.2.1 dX11_same_201 hl (k := 4) rfl rfl (by decide) rfl (fun ls hl => ?_)
  refine lv_goto (tgt := 163) C.1 C.2.1 dX11_same_204 (by decide) ?_
  exact hB163 _ _ _ _ _ _ _ _ _ hh hw (lv_sub hl [2, 3, 4, 1, 0] rfl)
set_option maxHeartbeats 4000000 in
set_option maxRecDepth 100000 in
theorem tX11_same_b194 {B51 : (Nat → Int32) → (Nat → Nat → Int32) → Int32 → Int32 → Int32 → Prop} {B163 : (Nat → Int32) → (Nat → Nat → Int32) → Int32 → Int32 → Int32 → Int32 → Prop} {K : Int32 → ((Nat → Int32) × (Nat → Nat → Int32)) → Prop} (C : CallFix p m c cX11_same 8 s args wsX11_same RX11) (hR : Rti .int p l e rmX11_same s m args below meth c cX11_same D A (mT cI cZ) (mWu o h cI cZ) K Q) (hB51 : ∀ (f : Nat → Int32) (g : Nat → Nat → Int32) (x1 : Int32) (x2 : Int32) (x3 : Int32) (H : Heap) (locs : List Loc) (ls : Array Slot), B51 f g x1 x2 x3 → Wd D A s (mT cI cZ) (mW o h cI cZ f g) H locs → lv_has ls 8 [(0, .ref o), (1, .int x1), (2, .int x2), (3, .int x3)] → W p l e rmX11_same s m args below meth c H locs 0 0 Q (F0 m 51 ls [])) (hB163 : ∀ (f : Nat → Int32) (g : Nat → Nat → Int32) (x1 : Int32) (x3 : Int32) (x6 : Int32) (x7 : Int32) (H : Heap) (locs : List Loc) (ls : Array Slot), B163 f g x1 x3 x6 x7 → Wd D A s (mT cI cZ) (mW o h cI cZ f g) H locs → lv_has ls 8 [(0, .ref o), (1, .int x1), (3, .int x3), (6, .int x6), (7, .int x7)] → W p l e rmX11_same s m args below meth c H locs 0 0 Q (F0 m 163 ls [])) {f : Nat → Int32} {g : Nat → Nat → Int32} {x1 : Int32} {x3 : Int32} {x7 : Int32} (hh : wpX11_same_b194 B51 B163 f g x1 x3 x7 K) {H : Heap} {locs : List Loc} {ls : Array Slot} (hw : Wd D A s (mT cI cZ) (mW o h cI cZ f g) H locs) (hl : lv_has ls 8 [(0, .ref o), (1, .int x1), (3, .int x3), (7, .int x7)]) : W p l e rmX11_same s m args below meth c H locs 0 0 Q (F0 m 194 ls []) := by
  unfold wpX11_same_b194 at hh
  refine lv_iconst (v := (1 : Int32)) C.1 C.2.1 dX11_same_194 (by decide) ?_
  refine lv_goto (tgt := 199) C.1 C.2.1 dX11_same_195 (by decide) ?_
  exact tX11_same_b199 C hR hB51 hB163 hh hw hl
set_option maxHeartbeats 4000000 in
set_option maxRecDepth 100000 in
theorem tX11_same_b163_body {B51 : (Nat → Int32) → (Nat → Nat → Int32) → Int32 → Int32 → Int32 → Prop} {B163 : (Nat → Int32) → (Nat → Nat → Int32) → Int32 → Int32 → Int32 → Int32 → Prop} {K : Int32 → ((Nat → Int32) × (Nat → Nat → Int32)) → Prop} (C : CallFix p m c cX11_same 8 s args wsX11_same RX11) (hR : Rti .int p l e rmX11_same s m args below meth c cX11_same D A (mT cI cZ) (mWu o h cI cZ) K Q) (hB51 : ∀ (f : Nat → Int32) (g : Nat → Nat → Int32) (x1 : Int32) (x2 : Int32) (x3 : Int32) (H : Heap) (locs : List Loc) (ls : Array Slot), B51 f g x1 x2 x3 → Wd D A s (mT cI cZ) (mW o h cI cZ f g) H locs → lv_has ls 8 [(0, .ref o), (1, .int x1), (2, .int x2), (3, .int x3)] → W p l e rmX11_same s m args below meth c H locs 0 0 Q (F0 m 51 ls [])) (hB163 : ∀ (f : Nat → Int32) (g : Nat → Nat → Int32) (x1 : Int32) (x3 : Int32) (x6 : Int32) (x7 : Int32) (H : Heap) (locs : List Loc) (ls : Array Slot), B163 f g x1 x3 x6 x7 → Wd D A s (mT cI cZ) (mW o h cI cZ f g) H locs → lv_has ls 8 [(0, .ref o), (1, .int x1), (3, .int x3), (6, .int x6), (7, .int x7)] → W p l e rmX11_same s m args below meth c H locs 0 0 Q (F0 m 163 ls [])) {f : Nat → Int32} {g : Nat → Nat → Int32} {x1 : Int32} {x3 : Int32} {x6 : Int32} {x7 : Int32} (hh : wpX11_same_b163_body B51 B163 f g x1 x3 x6 x7 K) {H : Heap} {locs : List Loc} {ls : Array Slot} (hw : Wd D A s (mT cI cZ) (mW o h cI cZ f g) H locs) (hl : lv_has ls 8 [(0, .ref o), (1, .int x1), (3, .int x3), (6, .int x6), (7, .int x7)]) : W p l e rmX11_same s m args below meth c H locs 0 0 Q (F0 m 163 ls []) := by
  unfold wpX11_same_b163_body at hh
  refine lv_iload C.1 C.2.1 dX11_same_163 (lv_at hl 4 rfl) ?_
  refine lv_aload_n C.1 C.2.1 dX11_same_165 rfl (lv_at hl 0 rfl) ?_
  refine m_Vi C hw (ctX11_squares l D o h cI cZ f g  hh) (cwV 0 C.2.2.2.2 (gd_V w_1454 w_1456 w_54 w_125 w_1457) rfl rfl rfl cdX11_squares ⟨Nat.le_of_ble_eq_true rfl, Nat.le_of_ble_eq_true rfl⟩) rfl hl.1 (Nat.le_of_ble_eq_true rfl) dX11_same_166 ⟨Nat.zero_le _, Nat.zero_le _⟩ (fun r166 u166 H locs hh hw => ?_) rfl
  refine lv_icmp_ge (tgt := 207) C.1 C.2.1 dX11_same_169 (by decide) (fun c169 => ?_) (fun c169 => ?_)
  · replace hh := hh.1 c169
    refine lv_iload C.1 C.2.1 dX11_same_207 (lv_at hl 3 rfl) ?_
    refine lv_if_eq (tgt := 216) C.1 C.2.1 dX11_same_209 (by decide) (fun c209 => ?_) (fun c209 => ?_)
    · replace hh := hh.1 c209
      refine lv_iconst (v := (0 : Int32)) C.1 C.2.1 dX11_same_216 (by decide) ?_
      exact tX11_same_b217 C hR hB51 hh hw (lv_sub hl [0, 1, 2] rfl)
    · replace hh := hh.2 c209
      refine lv_iload_n C.1 C.2.1 dX11_same_212 rfl (lv_at hl 2 rfl) ?_
      refine lv_goto (tgt := 217) C.1 C.2.1 dX11_same_213 (by decide) ?_
      exact tX11_same_b217 C hR hB51 hh hw (lv_sub hl [0, 1, 2] rfl)
  · replace hh := hh.2 c169
    refine lv_iload C.1 C.2.1 dX11_same_172 (lv_at hl 3 rfl) ?_
    refine lv_if_ne (tgt := 194) C.1 C.2.1 dX11_same_174 (by decide) (fun c174 => ?_) (fun c174 => ?_)
    · replace hh := hh.1 c174
      exact tX11_same_b194 C hR hB51 hB163 hh hw (lv_sub hl [0, 1, 2, 4] rfl)
    · replace hh := hh.2 c174
      refine lv_aload_n C.1 C.2.1 dX11_same_177 rfl (lv_at hl 0 rfl) ?_
      refine m_ga C hw (inC inW11) 47 (by decide) (wc w_1509) mg_47 dX11_same_178 ?_
      refine lv_iload C.1 C.2.1 dX11_same_181 (lv_at hl 4 rfl) ?_
      obtain ⟨hi183, hh⟩ := hh
      refine m_ial C hw mp_47 (x := u166.2 47 (ix x7)) hi183 rfl dX11_same_183 ?_
      refine lv_aload_n C.1 C.2.1 dX11_same_184 rfl (lv_at hl 0 rfl) ?_
      refine m_ga C hw (inC inW11) 70 (by decide) (wc w_1532) mg_70 dX11_same_185 ?_
      refine lv_iload C.1 C.2.1 dX11_same_188 (lv_at hl 4 rfl) ?_
      obtain ⟨hi190, hh⟩ := hh
      refine m_ial C hw mp_70 (x := u166.2 70 (ix x7)) hi190 rfl dX11_same_190 ?_
      refine lv_icmp_eq (tgt := 198) C.1 C.2.1 dX11_same_191 (by decide) (fun c191 => ?_) (fun c191 => ?_)
      · replace hh := hh.1 c191
        refine lv_iconst (v := (0 : Int32)) C.1 C.2.1 dX11_same_198 (by decide) ?_
        exact tX11_same_b199 C hR hB51 hB163 hh hw (lv_sub hl [0, 1, 2, 4] rfl)
      · replace hh := hh.2 c191
        exact tX11_same_b194 C hR hB51 hB163 hh hw (lv_sub hl [0, 1, 2, 4] rfl)
theorem tX11_same_b163 {B51 : (Nat → Int32) → (Nat → Nat → Int32) → Int32 → Int32 → Int32 → Prop} {K : Int32 → ((Nat → Int32) × (Nat → Nat → Int32)) → Prop} (C : CallFix p m c cX11_same 8 s args wsX11_same RX11) (hR : Rti .int p l e rmX11_same s m args below meth c cX11_same D A (mT cI cZ) (mWu o h cI cZ) K Q) (hB51 : ∀ (f : Nat → Int32) (g : Nat → Nat → Int32) (x1 : Int32) (x2 : Int32) (x3 : Int32) (H : Heap) (locs : List Loc) (ls : Array Slot), B51 f g x1 x2 x3 → Wd D A s (mT cI cZ) (mW o h cI cZ f g) H locs → lv_has ls 8 [(0, .ref o), (1, .int x1), (2, .int x2), (3, .int x3)] → W p l e rmX11_same s m args below meth c H locs 0 0 Q (F0 m 51 ls [])) (n : Nat) : ∀ (f : Nat → Int32) (g : Nat → Nat → Int32) (x1 : Int32) (x3 : Int32) (x6 : Int32) (x7 : Int32) (H : Heap) (locs : List Loc) (ls : Array Slot), wpX11_same_b163 B51 n f g x1 x3 x6 x7 K → Wd D A s (mT cI cZ) (mW o h cI cZ f g) H locs → lv_has ls 8 [(0, .ref o), (1, .int x1), (3, .int x3), (6, .int x6), (7, .int x7)] → W p l e rmX11_same s m args below meth c H locs 0 0 Q (F0 m 163 ls []) := by
  induction n with
  | zero => intro f g x1 x3 x6 x7 H locs ls hh; exact hh.elim
  | succ n ih => intro f g x1 x3 x6 x7 H locs ls hh hw hl; exact tX11_same_b163_body C hR hB51 ih hh hw hl
set_option maxHeartbeats 4000000 in
set_option maxRecDepth 100000 in
theorem tX11_same_b158 {B51 : (Nat → Int32) → (Nat → Nat → Int32) → Int32 → Int32 → Int32 → Prop} {K : Int32 → ((Nat → Int32) × (Nat → Nat → Int32)) → Prop} (C : CallFix p m c cX11_same 8 s args wsX11_same RX11) (hR : Rti .int p l e rmX11_same s m args below meth c cX11_same D A (mT cI cZ) (mWu o h cI cZ) K Q) (hB51 : ∀ (f : Nat → Int32) (g : Nat → Nat → Int32) (x1 : Int32) (x2 : Int32) (x3 : Int32) (H : Heap) (locs : List Loc) (ls : Array Slot), B51 f g x1 x2 x3 → Wd D A s (mT cI cZ) (mW o h cI cZ f g) H locs → lv_has ls 8 [(0, .ref o), (1, .int x1), (2, .int x2), (3, .int x3)] → W p l e rmX11_same s m args below meth c H locs 0 0 Q (F0 m 51 ls [])) {f : Nat → Int32} {g : Nat → Nat → Int32} {k0 : Int32} {x1 : Int32} {x3 : Int32} (hh : wpX11_same_b158 B51 f g k0 x1 x3 K) {H : Heap} {locs : List Loc} {ls : Array Slot} (hw : Wd D A s (mT cI cZ) (mW o h cI cZ f g) H locs) (hl : lv_has ls 8 [(0, .ref o), (1, .int x1), (3, .int x3)]) : W p l e rmX11_same s m args below meth c H locs 0 0 Q (F0 m 158 ls [.int k0]) := by
  unfold wpX11_same_b158 at hh
  refine lv_istore (lv' := [(6, .int k0), (0, .ref o), (1, .int x1), (3, .int x3)]) C.1 C.2.1 dX11_same_158 hl (by decide) rfl (fun ls hl => ?_)
  refine lv_iconst (v := (0 : Int32)) C.1 C.2.1 dX11_same_160 (by decide) ?_
  refine lv_istore (lv' := [(7, .int (0 : Int32)), (6, .int k0), (0, .ref o), (1, .int x1), (3, .int x3)]) C.1 C.2.1 dX11_same_161 hl (by decide) rfl (fun ls hl => ?_)
  obtain ⟨n, hh⟩ := hh
  exact tX11_same_b163 C hR hB51 n _ _ _ _ _ _ _ _ _ hh hw (lv_sub hl [2, 3, 4, 1, 0] rfl)
set_option maxHeartbeats 4000000 in
set_option maxRecDepth 100000 in
theorem tX11_same_b90_body {B51 : (Nat → Int32) → (Nat → Nat → Int32) → Int32 → Int32 → Int32 → Prop} {B90 : (Nat → Int32) → (Nat → Nat → Int32) → Int32 → Int32 → Int32 → Int32 → Prop} {K : Int32 → ((Nat → Int32) × (Nat → Nat → Int32)) → Prop} (C : CallFix p m c cX11_same 8 s args wsX11_same RX11) (hR : Rti .int p l e rmX11_same s m args below meth c cX11_same D A (mT cI cZ) (mWu o h cI cZ) K Q) (hB51 : ∀ (f : Nat → Int32) (g : Nat → Nat → Int32) (x1 : Int32) (x2 : Int32) (x3 : Int32) (H : Heap) (locs : List Loc) (ls : Array Slot), B51 f g x1 x2 x3 → Wd D A s (mT cI cZ) (mW o h cI cZ f g) H locs → lv_has ls 8 [(0, .ref o), (1, .int x1), (2, .int x2), (3, .int x3)] → W p l e rmX11_same s m args below meth c H locs 0 0 Q (F0 m 51 ls [])) (hB90 : ∀ (f : Nat → Int32) (g : Nat → Nat → Int32) (x1 : Int32) (x3 : Int32) (x4 : Int32) (x5 : Int32) (H : Heap) (locs : List Loc) (ls : Array Slot), B90 f g x1 x3 x4 x5 → Wd D A s (mT cI cZ) (mW o h cI cZ f g) H locs → lv_has ls 8 [(0, .ref o), (1, .int x1), (3, .int x3), (4, .int x4), (5, .int x5)] → W p l e rmX11_same s m args below meth c H locs 0 0 Q (F0 m 90 ls [])) {f : Nat → Int32} {g : Nat → Nat → Int32} {x1 : Int32} {x3 : Int32} {x4 : Int32} {x5 : Int32} (hh : wpX11_same_b90_body B51 B90 f g x1 x3 x4 x5 K) {H : Heap} {locs : List Loc} {ls : Array Slot} (hw : Wd D A s (mT cI cZ) (mW o h cI cZ f g) H locs) (hl : lv_has ls 8 [(0, .ref o), (1, .int x1), (3, .int x3), (4, .int x4), (5, .int x5)]) : W p l e rmX11_same s m args below meth c H locs 0 0 Q (F0 m 90 ls []) := by
  unfold wpX11_same_b90_body at hh
  refine lv_iload C.1 C.2.1 dX11_same_90 (lv_at hl 4 rfl) ?_
  refine lv_aload_n C.1 C.2.1 dX11_same_92 rfl (lv_at hl 0 rfl) ?_
  refine m_Vi C hw (ctX11_squares l D o h cI cZ f g  hh) (cwV 0 C.2.2.2.2 (gd_V w_1454 w_1456 w_54 w_125 w_1457) rfl rfl rfl cdX11_squares ⟨Nat.le_of_ble_eq_true rfl, Nat.le_of_ble_eq_true rfl⟩) rfl hl.1 (Nat.le_of_ble_eq_true rfl) dX11_same_93 ⟨Nat.zero_le _, Nat.zero_le _⟩ (fun r93 u93 H locs hh hw => ?_) rfl
  refine lv_icmp_ge (tgt := 119) C.1 C.2.1 dX11_same_96 (by decide) (fun c96 => ?_) (fun c96 => ?_)
  · replace hh := hh.1 c96
    refine lv_aload_n C.1 C.2.1 dX11_same_119 rfl (lv_at hl 0 rfl) ?_
    refine lv_bipush (v := (6 : Int32)) C.1 C.2.1 dX11_same_120 (by decide) ?_
    refine m_Vv C hw (ctX11_takes l D o h cI cZ u93.1 u93.2 (6 : Int32) hh) (cwV 1 C.2.2.2.2 (gd_V w_1902 w_1904 w_92 w_125 w_1905) rfl rfl rfl cdX11_takes ⟨Nat.le_of_ble_eq_true rfl, Nat.le_of_ble_eq_true rfl⟩) rfl hl.1 (Nat.le_of_ble_eq_true rfl) dX11_same_122 ⟨Nat.zero_le _, Nat.zero_le _⟩ (fun u122 H locs hh hw => ?_) rfl
    refine lv_aload_n C.1 C.2.1 dX11_same_125 rfl (lv_at hl 0 rfl) ?_
    refine m_Vi C hw (ctX11_ticks l D o h cI cZ u122.1 u122.2  hh) (cwV 0 C.2.2.2.2 (gd_V w_1854 w_1856 w_85 w_125 w_1857) rfl rfl rfl cdX11_ticks ⟨Nat.le_of_ble_eq_true rfl, Nat.le_of_ble_eq_true rfl⟩) rfl hl.1 (Nat.le_of_ble_eq_true rfl) dX11_same_126 ⟨Nat.zero_le _, Nat.zero_le _⟩ (fun r126 u126 H locs hh hw => ?_) rfl
    refine lv_istore (lv' := [(5, .int r126), (0, .ref o), (1, .int x1), (3, .int x3), (4, .int x4)]) C.1 C.2.1 dX11_same_129 hl (by decide) rfl (fun ls hl => ?_)
    refine lv_aload_n C.1 C.2.1 dX11_same_131 rfl (lv_at hl 1 rfl) ?_
    refine lv_bipush (v := (6 : Int32)) C.1 C.2.1 dX11_same_132 (by decide) ?_
    refine m_Vv C hw (ctX11_puts l D o h cI cZ u126.1 u126.2 (6 : Int32) hh) (cwV 1 C.2.2.2.2 (gd_V w_1894 w_1896 w_91 w_125 w_1897) rfl rfl rfl cdX11_puts ⟨Nat.le_of_ble_eq_true rfl, Nat.le_of_ble_eq_true rfl⟩) rfl hl.1 (Nat.le_of_ble_eq_true rfl) dX11_same_134 ⟨Nat.zero_le _, Nat.zero_le _⟩ (fun u134 H locs hh hw => ?_) rfl
    refine lv_iconst (v := (4 : Int32)) C.1 C.2.1 dX11_same_137 (by decide) ?_
    refine lv_aload_n C.1 C.2.1 dX11_same_138 rfl (lv_at hl 1 rfl) ?_
    refine m_gi C hw (inC inW11) 41 (by decide) (wc w_1503) mg_41 (x := u134.1 41) rfl dX11_same_139 ?_
    refine lv_imul C.1 C.2.1 dX11_same_142 ?_
    refine lv_aload_n C.1 C.2.1 dX11_same_143 rfl (lv_at hl 1 rfl) ?_
    refine m_gi C hw (inC inW11) 42 (by decide) (wc w_1504) mg_42 (x := u134.1 42) rfl dX11_same_144 ?_
    refine lv_iadd C.1 C.2.1 dX11_same_147 ?_
    refine lv_iload C.1 C.2.1 dX11_same_148 (lv_at hl 4 rfl) ?_
    refine lv_icmp_eq (tgt := 157) C.1 C.2.1 dX11_same_150 (by decide) (fun c150 => ?_) (fun c150 => ?_)
    · replace hh := hh.1 c150
      refine lv_iconst (v := (0 : Int32)) C.1 C.2.1 dX11_same_157 (by decide) ?_
      exact tX11_same_b158 C hR hB51 hh hw (lv_sub hl [1, 2, 3] rfl)
    · replace hh := hh.2 c150
      refine lv_iconst (v := (1 : Int32)) C.1 C.2.1 dX11_same_153 (by decide) ?_
      refine lv_goto (tgt := 158) C.1 C.2.1 dX11_same_154 (by decide) ?_
      exact tX11_same_b158 C hR hB51 hh hw (lv_sub hl [1, 2, 3] rfl)
  · replace hh := hh.2 c96
    refine lv_aload_n C.1 C.2.1 dX11_same_99 rfl (lv_at hl 0 rfl) ?_
    refine m_ga C hw (inC inW11) 70 (by decide) (wc w_1532) mg_70 dX11_same_100 ?_
    refine lv_iload C.1 C.2.1 dX11_same_103 (lv_at hl 4 rfl) ?_
    refine lv_aload_n C.1 C.2.1 dX11_same_105 rfl (lv_at hl 0 rfl) ?_
    refine m_ga C hw (inC inW11) 47 (by decide) (wc w_1509) mg_47 dX11_same_106 ?_
    refine lv_iload C.1 C.2.1 dX11_same_109 (lv_at hl 4 rfl) ?_
    obtain ⟨hi111, hh⟩ := hh
    refine m_ial C hw mp_47 (x := u93.2 47 (ix x5)) hi111 rfl dX11_same_111 ?_
    obtain ⟨hi112, hh⟩ := hh
    refine m_ias C hw mp_70 mq_70 hi112 dX11_same_112 (fun H locs hw => ?_)
    refine lv_iinc (v := x5 + (1 : Int32)) (lv' := [(5, .int (x5 + (1 : Int32))), (0, .ref o), (1, .int x1), (3, .int x3), (4, .int x4)]) C.1 C.2.1 dX11_same_113 hl (k := 4) rfl rfl (by decide) rfl (fun ls hl => ?_)
    refine lv_goto (tgt := 90) C.1 C.2.1 dX11_same_116 (by decide) ?_
    exact hB90 _ _ _ _ _ _ _ _ _ hh hw (lv_sub hl [1, 2, 3, 4, 0] rfl)
theorem tX11_same_b90 {B51 : (Nat → Int32) → (Nat → Nat → Int32) → Int32 → Int32 → Int32 → Prop} {K : Int32 → ((Nat → Int32) × (Nat → Nat → Int32)) → Prop} (C : CallFix p m c cX11_same 8 s args wsX11_same RX11) (hR : Rti .int p l e rmX11_same s m args below meth c cX11_same D A (mT cI cZ) (mWu o h cI cZ) K Q) (hB51 : ∀ (f : Nat → Int32) (g : Nat → Nat → Int32) (x1 : Int32) (x2 : Int32) (x3 : Int32) (H : Heap) (locs : List Loc) (ls : Array Slot), B51 f g x1 x2 x3 → Wd D A s (mT cI cZ) (mW o h cI cZ f g) H locs → lv_has ls 8 [(0, .ref o), (1, .int x1), (2, .int x2), (3, .int x3)] → W p l e rmX11_same s m args below meth c H locs 0 0 Q (F0 m 51 ls [])) (n : Nat) : ∀ (f : Nat → Int32) (g : Nat → Nat → Int32) (x1 : Int32) (x3 : Int32) (x4 : Int32) (x5 : Int32) (H : Heap) (locs : List Loc) (ls : Array Slot), wpX11_same_b90 B51 n f g x1 x3 x4 x5 K → Wd D A s (mT cI cZ) (mW o h cI cZ f g) H locs → lv_has ls 8 [(0, .ref o), (1, .int x1), (3, .int x3), (4, .int x4), (5, .int x5)] → W p l e rmX11_same s m args below meth c H locs 0 0 Q (F0 m 90 ls []) := by
  induction n with
  | zero => intro f g x1 x3 x4 x5 H locs ls hh; exact hh.elim
  | succ n ih => intro f g x1 x3 x4 x5 H locs ls hh hw hl; exact tX11_same_b90_body C hR hB51 ih hh hw hl
set_option maxHeartbeats 4000000 in
set_option maxRecDepth 100000 in
theorem tX11_same_b51_body {B51 : (Nat → Int32) → (Nat → Nat → Int32) → Int32 → Int32 → Int32 → Prop} {K : Int32 → ((Nat → Int32) × (Nat → Nat → Int32)) → Prop} (C : CallFix p m c cX11_same 8 s args wsX11_same RX11) (hR : Rti .int p l e rmX11_same s m args below meth c cX11_same D A (mT cI cZ) (mWu o h cI cZ) K Q) (hB51 : ∀ (f : Nat → Int32) (g : Nat → Nat → Int32) (x1 : Int32) (x2 : Int32) (x3 : Int32) (H : Heap) (locs : List Loc) (ls : Array Slot), B51 f g x1 x2 x3 → Wd D A s (mT cI cZ) (mW o h cI cZ f g) H locs → lv_has ls 8 [(0, .ref o), (1, .int x1), (2, .int x2), (3, .int x3)] → W p l e rmX11_same s m args below meth c H locs 0 0 Q (F0 m 51 ls [])) {f : Nat → Int32} {g : Nat → Nat → Int32} {x1 : Int32} {x2 : Int32} {x3 : Int32} (hh : wpX11_same_b51_body B51 f g x1 x2 x3 K) {H : Heap} {locs : List Loc} {ls : Array Slot} (hw : Wd D A s (mT cI cZ) (mW o h cI cZ f g) H locs) (hl : lv_has ls 8 [(0, .ref o), (1, .int x1), (2, .int x2), (3, .int x3)]) : W p l e rmX11_same s m args below meth c H locs 0 0 Q (F0 m 51 ls []) := by
  unfold wpX11_same_b51_body at hh
  refine lv_iload_n C.1 C.2.1 dX11_same_51 rfl (lv_at hl 3 rfl) ?_
  refine lv_iload_n C.1 C.2.1 dX11_same_52 rfl (lv_at hl 1 rfl) ?_
  refine lv_icmp_gt (tgt := 224) C.1 C.2.1 dX11_same_53 (by decide) (fun c53 => ?_) (fun c53 => ?_)
  · replace hh := hh.1 c53
    exact tX11_same_b224 C hR hh hw (lv_sub hl [0, 2] rfl)
  · replace hh := hh.2 c53
    refine lv_iload_n C.1 C.2.1 dX11_same_56 rfl (lv_at hl 2 rfl) ?_
    refine lv_if_ne (tgt := 224) C.1 C.2.1 dX11_same_57 (by decide) (fun c57 => ?_) (fun c57 => ?_)
    · replace hh := hh.1 c57
      exact tX11_same_b224 C hR hh hw (lv_sub hl [0, 2] rfl)
    · replace hh := hh.2 c57
      refine lv_aload_n C.1 C.2.1 dX11_same_60 rfl (lv_at hl 0 rfl) ?_
      refine lv_iconst (v := (5 : Int32)) C.1 C.2.1 dX11_same_61 (by decide) ?_
      refine m_Vv C hw (ctX11_takes l D o h cI cZ f g (5 : Int32) hh) (cwV 1 C.2.2.2.2 (gd_V w_1902 w_1904 w_92 w_125 w_1905) rfl rfl rfl cdX11_takes ⟨Nat.le_of_ble_eq_true rfl, Nat.le_of_ble_eq_true rfl⟩) rfl hl.1 (Nat.le_of_ble_eq_true rfl) dX11_same_62 ⟨Nat.zero_le _, Nat.zero_le _⟩ (fun u62 H locs hh hw => ?_) rfl
      refine lv_aload_n C.1 C.2.1 dX11_same_65 rfl (lv_at hl 0 rfl) ?_
      refine m_Vv C hw (ctX11_pulls l D o h cI cZ u62.1 u62.2  hh) (cwV 0 C.2.2.2.2 (gd_V w_1981 w_1983 w_104 w_125 w_1984) rfl rfl rfl cdX11_pulls ⟨Nat.le_of_ble_eq_true rfl, Nat.le_of_ble_eq_true rfl⟩) rfl hl.1 (Nat.le_of_ble_eq_true rfl) dX11_same_66 ⟨Nat.zero_le _, Nat.zero_le _⟩ (fun u66 H locs hh hw => ?_) rfl
      refine lv_aload_n C.1 C.2.1 dX11_same_69 rfl (lv_at hl 0 rfl) ?_
      refine lv_iconst (v := (5 : Int32)) C.1 C.2.1 dX11_same_70 (by decide) ?_
      refine m_Vv C hw (ctX11_puts l D o h cI cZ u66.1 u66.2 (5 : Int32) hh) (cwV 1 C.2.2.2.2 (gd_V w_1894 w_1896 w_91 w_125 w_1897) rfl rfl rfl cdX11_puts ⟨Nat.le_of_ble_eq_true rfl, Nat.le_of_ble_eq_true rfl⟩) rfl hl.1 (Nat.le_of_ble_eq_true rfl) dX11_same_71 ⟨Nat.zero_le _, Nat.zero_le _⟩ (fun u71 H locs hh hw => ?_) rfl
      refine lv_iconst (v := (4 : Int32)) C.1 C.2.1 dX11_same_74 (by decide) ?_
      refine lv_aload_n C.1 C.2.1 dX11_same_75 rfl (lv_at hl 0 rfl) ?_
      refine m_gi C hw (inC inW11) 41 (by decide) (wc w_1503) mg_41 (x := u71.1 41) rfl dX11_same_76 ?_
      refine lv_imul C.1 C.2.1 dX11_same_79 ?_
      refine lv_aload_n C.1 C.2.1 dX11_same_80 rfl (lv_at hl 0 rfl) ?_
      refine m_gi C hw (inC inW11) 42 (by decide) (wc w_1504) mg_42 (x := u71.1 42) rfl dX11_same_81 ?_
      refine lv_iadd C.1 C.2.1 dX11_same_84 ?_
      refine lv_istore (lv' := [(4, .int (((4 : Int32) * (u71.1 41)) + (u71.1 42))), (0, .ref o), (1, .int x1), (2, .int x2), (3, .int x3)]) C.1 C.2.1 dX11_same_85 hl (by decide) rfl (fun ls hl => ?_)
      refine lv_iconst (v := (0 : Int32)) C.1 C.2.1 dX11_same_87 (by decide) ?_
      refine lv_istore (lv' := [(5, .int (0 : Int32)), (4, .int (((4 : Int32) * (u71.1 41)) + (u71.1 42))), (0, .ref o), (1, .int x1), (2, .int x2), (3, .int x3)]) C.1 C.2.1 dX11_same_88 hl (by decide) rfl (fun ls hl => ?_)
      obtain ⟨n, hh⟩ := hh
      exact tX11_same_b90 C hR hB51 n _ _ _ _ _ _ _ _ _ hh hw (lv_sub hl [2, 3, 5, 1, 0] rfl)
theorem tX11_same_b51 {K : Int32 → ((Nat → Int32) × (Nat → Nat → Int32)) → Prop} (C : CallFix p m c cX11_same 8 s args wsX11_same RX11) (hR : Rti .int p l e rmX11_same s m args below meth c cX11_same D A (mT cI cZ) (mWu o h cI cZ) K Q) (n : Nat) : ∀ (f : Nat → Int32) (g : Nat → Nat → Int32) (x1 : Int32) (x2 : Int32) (x3 : Int32) (H : Heap) (locs : List Loc) (ls : Array Slot), wpX11_same_b51 n f g x1 x2 x3 K → Wd D A s (mT cI cZ) (mW o h cI cZ f g) H locs → lv_has ls 8 [(0, .ref o), (1, .int x1), (2, .int x2), (3, .int x3)] → W p l e rmX11_same s m args below meth c H locs 0 0 Q (F0 m 51 ls []) := by
  induction n with
  | zero => intro f g x1 x2 x3 H locs ls hh; exact hh.elim
  | succ n ih => intro f g x1 x2 x3 H locs ls hh hw hl; exact tX11_same_b51_body C hR ih hh hw hl
set_option maxHeartbeats 4000000 in
set_option maxRecDepth 100000 in
theorem tX11_same_b0 {K : Int32 → ((Nat → Int32) × (Nat → Nat → Int32)) → Prop} (C : CallFix p m c cX11_same 8 s args wsX11_same RX11) (hR : Rti .int p l e rmX11_same s m args below meth c cX11_same D A (mT cI cZ) (mWu o h cI cZ) K Q) {f : Nat → Int32} {g : Nat → Nat → Int32} {x1 : Int32} (hh : wpX11_same_b0 f g x1 K) {H : Heap} {locs : List Loc} {ls : Array Slot} (hw : Wd D A s (mT cI cZ) (mW o h cI cZ f g) H locs) (hl : lv_has ls 8 [(0, .ref o), (1, .int x1)]) : W p l e rmX11_same s m args below meth c H locs 0 0 Q (F0 m 0 ls []) := by
  unfold wpX11_same_b0 at hh
  refine lv_aload_n C.1 C.2.1 dX11_same_0 rfl (lv_at hl 0 rfl) ?_
  refine lv_iconst (v := (0 : Int32)) C.1 C.2.1 dX11_same_1 (by decide) ?_
  refine m_pi C hw (inC inW11) 2 (by decide) (wc w_1464) rfl (ty := .int) (by decide +kernel) rfl rfl (Nat.le_of_ble_eq_true rfl) ms_2 dX11_same_2 (fun H locs hw => ?_)
  refine lv_iload_n C.1 C.2.1 dX11_same_5 rfl (lv_at hl 1 rfl) ?_
  refine lv_iconst (v := (1 : Int32)) C.1 C.2.1 dX11_same_6 (by decide) ?_
  refine lv_sipush (v := (500 : Int32)) C.1 C.2.1 dX11_same_7 (by decide) ?_
  refine wd_Si C hw (ctX11_isIn l D x1 (1 : Int32) (500 : Int32) hh) (va_cwS 3 C.2.2.2.2 (gd_S w_1804 w_1805 (ini_cls rfl w_125) w_1806) rfl rfl rfl cdX11_isIn ⟨Nat.le_of_ble_eq_true rfl, Nat.le_of_ble_eq_true rfl⟩) rfl hl.1 (Nat.le_of_ble_eq_true rfl) dX11_same_10 ⟨Nat.zero_le _, Nat.zero_le _⟩ (fun r10 H locs hh hw => ?_) rfl
  refine lv_if_ne (tgt := 18) C.1 C.2.1 dX11_same_13 (by decide) (fun c13 => ?_) (fun c13 => ?_)
  · replace hh := hh.1 c13
    refine lv_aload_n C.1 C.2.1 dX11_same_18 rfl (lv_at hl 0 rfl) ?_
    refine lv_iconst (v := (4 : Int32)) C.1 C.2.1 dX11_same_19 (by decide) ?_
    refine m_Vv C hw (ctX11_puts l D o h cI cZ (upd f 2 (0 : Int32)) g (4 : Int32) hh) (cwV 1 C.2.2.2.2 (gd_V w_1894 w_1896 w_91 w_125 w_1897) rfl rfl rfl cdX11_puts ⟨Nat.le_of_ble_eq_true rfl, Nat.le_of_ble_eq_true rfl⟩) rfl hl.1 (Nat.le_of_ble_eq_true rfl) dX11_same_20 ⟨Nat.zero_le _, Nat.zero_le _⟩ (fun u20 H locs hh hw => ?_) rfl
    refine lv_aload_n C.1 C.2.1 dX11_same_23 rfl (lv_at hl 0 rfl) ?_
    refine lv_aload_n C.1 C.2.1 dX11_same_24 rfl (lv_at hl 0 rfl) ?_
    refine m_gi C hw (inC inW11) 49 (by decide) (wc w_1511) mg_49 (x := u20.1 49) rfl dX11_same_25 ?_
    refine lv_aload_n C.1 C.2.1 dX11_same_28 rfl (lv_at hl 0 rfl) ?_
    refine m_gi C hw (inC inW11) 50 (by decide) (wc w_1512) mg_50 (x := u20.1 50) rfl dX11_same_29 ?_
    refine lv_iand C.1 C.2.1 dX11_same_32 ?_
    refine m_pi C hw (inC inW11) 45 (by decide) (wc w_1507) rfl (ty := .int) (by decide +kernel) rfl rfl (Nat.le_of_ble_eq_true rfl) ms_45 dX11_same_33 (fun H locs hw => ?_)
    refine lv_aload_n C.1 C.2.1 dX11_same_36 rfl (lv_at hl 0 rfl) ?_
    refine lv_iconst (v := (5 : Int32)) C.1 C.2.1 dX11_same_37 (by decide) ?_
    refine m_Vv C hw (ctX11_puts l D o h cI cZ (upd u20.1 45 ((u20.1 49) &&& (u20.1 50))) u20.2 (5 : Int32) hh) (cwV 1 C.2.2.2.2 (gd_V w_1894 w_1896 w_91 w_125 w_1897) rfl rfl rfl cdX11_puts ⟨Nat.le_of_ble_eq_true rfl, Nat.le_of_ble_eq_true rfl⟩) rfl hl.1 (Nat.le_of_ble_eq_true rfl) dX11_same_38 ⟨Nat.zero_le _, Nat.zero_le _⟩ (fun u38 H locs hh hw => ?_) rfl
    refine lv_aload_n C.1 C.2.1 dX11_same_41 rfl (lv_at hl 0 rfl) ?_
    refine lv_bipush (v := (6 : Int32)) C.1 C.2.1 dX11_same_42 (by decide) ?_
    refine m_Vv C hw (ctX11_puts l D o h cI cZ u38.1 u38.2 (6 : Int32) hh) (cwV 1 C.2.2.2.2 (gd_V w_1894 w_1896 w_91 w_125 w_1897) rfl rfl rfl cdX11_puts ⟨Nat.le_of_ble_eq_true rfl, Nat.le_of_ble_eq_true rfl⟩) rfl hl.1 (Nat.le_of_ble_eq_true rfl) dX11_same_44 ⟨Nat.zero_le _, Nat.zero_le _⟩ (fun u44 H locs hh hw => ?_) rfl
    refine lv_iconst (v := (0 : Int32)) C.1 C.2.1 dX11_same_47 (by decide) ?_
    refine lv_istore_n (lv' := [(2, .int (0 : Int32)), (0, .ref o), (1, .int x1)]) C.1 C.2.1 dX11_same_48 rfl hl (by decide) rfl (fun ls hl => ?_)
    refine lv_iconst (v := (1 : Int32)) C.1 C.2.1 dX11_same_49 (by decide) ?_
    refine lv_istore_n (lv' := [(3, .int (1 : Int32)), (2, .int (0 : Int32)), (0, .ref o), (1, .int x1)]) C.1 C.2.1 dX11_same_50 rfl hl (by decide) rfl (fun ls hl => ?_)
    obtain ⟨n, hh⟩ := hh
    exact tX11_same_b51 C hR n _ _ _ _ _ _ _ _ hh hw (lv_sub hl [2, 3, 1, 0] rfl)
  · replace hh := hh.2 c13
    refine lv_iconst (v := (-1 : Int32)) C.1 C.2.1 dX11_same_16 (by decide) ?_
    exact hR _ _ _ (upd f 2 (0 : Int32), g) _ _ dX11_same_17 rfl hh hw
theorem ctX11_same (l : Launch) (D : va_G) (o : Nat) (h : Nat → Nat) (cI cZ : ClassId) (f : Nat → Int32) (g : Nat → Nat → Int32) (x1 : Int32) {K : Int32 → ((Nat → Int32) × (Nat → Nat → Int32)) → Prop} (hh : wpX11_same f g x1 K) : Ci l yX11_same wsX11_same rmX11_same [.ref o, .int x1] D (mT cI cZ) (mWu o h cI cZ) (f, g) K := by
  refine Ci_of (cc := cX11_same) (maxL := 8) (by decide) rfl (Nat.le_of_ble_eq_true rfl) ?_
  intro p e s m below meth c A Q C hw hR ls hl
  exact tX11_same_b0 C hR hh hw hl
theorem cdX11_same : yX11_same.cls = RX11 ∧ yX11_same.cls ≠ "java/lang/invoke/MethodHandle" ∧ yX11_same.cls ≠ "java/lang/invoke/VarHandle" ∧ (parseMethodDescriptor yX11_same.desc).map (fun d => d.parameters.length) = some 1 := by decide +kernel
abbrev rmX11_layLike : Room := { frames := 4, cells := 0, slots := 0, locals := 88 }
set_option maxHeartbeats 4000000 in
set_option maxRecDepth 100000 in
theorem tX11_layLike_b20_body {B20 : (Nat → Int32) → (Nat → Nat → Int32) → Int32 → Int32 → Prop} {K : ((Nat → Int32) × (Nat → Nat → Int32)) → Prop} (C : CallFix p m c cX11_layLike 3 s args wsX11_layLike RX11) (hR : Rtv p l e rmX11_layLike s m args below meth c cX11_layLike D A (mT cI cZ) (mWu o h cI cZ) K Q) (hB20 : ∀ (f : Nat → Int32) (g : Nat → Nat → Int32) (x1 : Int32) (x2 : Int32) (H : Heap) (locs : List Loc) (ls : Array Slot), B20 f g x1 x2 → Wd D A s (mT cI cZ) (mW o h cI cZ f g) H locs → lv_has ls 3 [(0, .ref o), (1, .int x1), (2, .int x2)] → W p l e rmX11_layLike s m args below meth c H locs 0 0 Q (F0 m 20 ls [])) {f : Nat → Int32} {g : Nat → Nat → Int32} {x1 : Int32} {x2 : Int32} (hh : wpX11_layLike_b20_body B20 f g x1 x2 K) {H : Heap} {locs : List Loc} {ls : Array Slot} (hw : Wd D A s (mT cI cZ) (mW o h cI cZ f g) H locs) (hl : lv_has ls 3 [(0, .ref o), (1, .int x1), (2, .int x2)]) : W p l e rmX11_layLike s m args below meth c H locs 0 0 Q (F0 m 20 ls []) := by
  unfold wpX11_layLike_b20_body at hh
  refine lv_iload_n C.1 C.2.1 dX11_layLike_20 rfl (lv_at hl 2 rfl) ?_
  refine lv_iload_n C.1 C.2.1 dX11_layLike_21 rfl (lv_at hl 1 rfl) ?_
  refine lv_icmp_ge (tgt := 52) C.1 C.2.1 dX11_layLike_22 (by decide) (fun c22 => ?_) (fun c22 => ?_)
  · replace hh := hh.1 c22
    exact hR _ _ (f, g) _ _ dX11_layLike_52 hh hw
  · replace hh := hh.2 c22
    refine lv_aload_n C.1 C.2.1 dX11_layLike_25 rfl (lv_at hl 0 rfl) ?_
    refine m_Vv C hw (ctX11_pulls l D o h cI cZ f g  hh) (cwV 0 C.2.2.2.2 (gd_V w_1981 w_1983 w_104 w_125 w_1984) rfl rfl rfl cdX11_pulls ⟨Nat.le_of_ble_eq_true rfl, Nat.le_of_ble_eq_true rfl⟩) rfl hl.1 (Nat.le_of_ble_eq_true rfl) dX11_layLike_26 ⟨Nat.zero_le _, Nat.zero_le _⟩ (fun u26 H locs hh hw => ?_) rfl
    refine lv_aload_n C.1 C.2.1 dX11_layLike_29 rfl (lv_at hl 0 rfl) ?_
    refine m_ga C hw (inC inW11) 71 (by decide) (wc w_1533) mg_71 dX11_layLike_30 ?_
    refine lv_iload_n C.1 C.2.1 dX11_layLike_33 rfl (lv_at hl 2 rfl) ?_
    refine lv_iconst (v := (4 : Int32)) C.1 C.2.1 dX11_layLike_34 (by decide) ?_
    refine lv_aload_n C.1 C.2.1 dX11_layLike_35 rfl (lv_at hl 0 rfl) ?_
    refine m_gi C hw (inC inW11) 41 (by decide) (wc w_1503) mg_41 (x := u26.1 41) rfl dX11_layLike_36 ?_
    refine lv_imul C.1 C.2.1 dX11_layLike_39 ?_
    refine lv_aload_n C.1 C.2.1 dX11_layLike_40 rfl (lv_at hl 0 rfl) ?_
    refine m_gi C hw (inC inW11) 42 (by decide) (wc w_1504) mg_42 (x := u26.1 42) rfl dX11_layLike_41 ?_
    refine lv_iadd C.1 C.2.1 dX11_layLike_44 ?_
    obtain ⟨hi45, hh⟩ := hh
    refine m_ias C hw mp_71 mq_71 hi45 dX11_layLike_45 (fun H locs hw => ?_)
    refine lv_iinc (v := x2 + (1 : Int32)) (lv' := [(2, .int (x2 + (1 : Int32))), (0, .ref o), (1, .int x1)]) C.1 C.2.1 dX11_layLike_46 hl (k := 2) rfl rfl (by decide) rfl (fun ls hl => ?_)
    refine lv_goto (tgt := 20) C.1 C.2.1 dX11_layLike_49 (by decide) ?_
    exact hB20 _ _ _ _ _ _ _ hh hw (lv_sub hl [1, 2, 0] rfl)
theorem tX11_layLike_b20 {K : ((Nat → Int32) × (Nat → Nat → Int32)) → Prop} (C : CallFix p m c cX11_layLike 3 s args wsX11_layLike RX11) (hR : Rtv p l e rmX11_layLike s m args below meth c cX11_layLike D A (mT cI cZ) (mWu o h cI cZ) K Q) (n : Nat) : ∀ (f : Nat → Int32) (g : Nat → Nat → Int32) (x1 : Int32) (x2 : Int32) (H : Heap) (locs : List Loc) (ls : Array Slot), wpX11_layLike_b20 n f g x1 x2 K → Wd D A s (mT cI cZ) (mW o h cI cZ f g) H locs → lv_has ls 3 [(0, .ref o), (1, .int x1), (2, .int x2)] → W p l e rmX11_layLike s m args below meth c H locs 0 0 Q (F0 m 20 ls []) := by
  induction n with
  | zero => intro f g x1 x2 H locs ls hh; exact hh.elim
  | succ n ih => intro f g x1 x2 H locs ls hh hw hl; exact tX11_layLike_b20_body C hR ih hh hw hl
set_option maxHeartbeats 4000000 in
set_option maxRecDepth 100000 in
theorem tX11_layLike_b0 {K : ((Nat → Int32) × (Nat → Nat → Int32)) → Prop} (C : CallFix p m c cX11_layLike 3 s args wsX11_layLike RX11) (hR : Rtv p l e rmX11_layLike s m args below meth c cX11_layLike D A (mT cI cZ) (mWu o h cI cZ) K Q) {f : Nat → Int32} {g : Nat → Nat → Int32} {x1 : Int32} (hh : wpX11_layLike_b0 f g x1 K) {H : Heap} {locs : List Loc} {ls : Array Slot} (hw : Wd D A s (mT cI cZ) (mW o h cI cZ f g) H locs) (hl : lv_has ls 3 [(0, .ref o), (1, .int x1)]) : W p l e rmX11_layLike s m args below meth c H locs 0 0 Q (F0 m 0 ls []) := by
  unfold wpX11_layLike_b0 at hh
  refine lv_aload_n C.1 C.2.1 dX11_layLike_0 rfl (lv_at hl 0 rfl) ?_
  refine lv_iconst (v := (4 : Int32)) C.1 C.2.1 dX11_layLike_1 (by decide) ?_
  refine m_Vv C hw (ctX11_takes l D o h cI cZ f g (4 : Int32) hh) (cwV 1 C.2.2.2.2 (gd_V w_1902 w_1904 w_92 w_125 w_1905) rfl rfl rfl cdX11_takes ⟨Nat.le_of_ble_eq_true rfl, Nat.le_of_ble_eq_true rfl⟩) rfl hl.1 (Nat.le_of_ble_eq_true rfl) dX11_layLike_2 ⟨Nat.zero_le _, Nat.zero_le _⟩ (fun u2 H locs hh hw => ?_) rfl
  refine lv_aload_n C.1 C.2.1 dX11_layLike_5 rfl (lv_at hl 0 rfl) ?_
  refine lv_aload_n C.1 C.2.1 dX11_layLike_6 rfl (lv_at hl 0 rfl) ?_
  refine m_gi C hw (inC inW11) 49 (by decide) (wc w_1511) mg_49 (x := u2.1 49) rfl dX11_layLike_7 ?_
  refine lv_aload_n C.1 C.2.1 dX11_layLike_10 rfl (lv_at hl 0 rfl) ?_
  refine m_gi C hw (inC inW11) 50 (by decide) (wc w_1512) mg_50 (x := u2.1 50) rfl dX11_layLike_11 ?_
  refine lv_iand C.1 C.2.1 dX11_layLike_14 ?_
  refine m_pi C hw (inC inW11) 45 (by decide) (wc w_1507) rfl (ty := .int) (by decide +kernel) rfl rfl (Nat.le_of_ble_eq_true rfl) ms_45 dX11_layLike_15 (fun H locs hw => ?_)
  refine lv_iconst (v := (0 : Int32)) C.1 C.2.1 dX11_layLike_18 (by decide) ?_
  refine lv_istore_n (lv' := [(2, .int (0 : Int32)), (0, .ref o), (1, .int x1)]) C.1 C.2.1 dX11_layLike_19 rfl hl (by decide) rfl (fun ls hl => ?_)
  obtain ⟨n, hh⟩ := hh
  exact tX11_layLike_b20 C hR n _ _ _ _ _ _ _ hh hw (lv_sub hl [1, 2, 0] rfl)
theorem ctX11_layLike (l : Launch) (D : va_G) (o : Nat) (h : Nat → Nat) (cI cZ : ClassId) (f : Nat → Int32) (g : Nat → Nat → Int32) (x1 : Int32) {K : ((Nat → Int32) × (Nat → Nat → Int32)) → Prop} (hh : wpX11_layLike f g x1 K) : Cv l yX11_layLike wsX11_layLike rmX11_layLike [.ref o, .int x1] D (mT cI cZ) (mWu o h cI cZ) (f, g) K := by
  refine Cv_of (cc := cX11_layLike) (maxL := 3) (by decide) rfl (Nat.le_of_ble_eq_true rfl) ?_
  intro p e s m below meth c A Q C hw hR ls hl
  exact tX11_layLike_b0 C hR hh hw hl
theorem cdX11_layLike : yX11_layLike.cls = RX11 ∧ yX11_layLike.cls ≠ "java/lang/invoke/MethodHandle" ∧ yX11_layLike.cls ≠ "java/lang/invoke/VarHandle" ∧ (parseMethodDescriptor yX11_layLike.desc).map (fun d => d.parameters.length) = some 1 := by decide +kernel
end
