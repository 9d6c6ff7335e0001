section
variable {p : Program} {l : Launch} {e : Env} {s : State} {m : MethodId} {args : Array Value} {below : List Frame} {meth : Method} {c : Code} {D : va_G} {A : Nat → Prop} {o : Nat} {h : Nat → Nat} {cI cZ : ClassId} {Q : State → Prop}
abbrev rmX11_isLike : Room := { frames := 4, cells := 0, slots := 0, locals := 88 }
set_option maxHeartbeats 4000000 in
set_option maxRecDepth 100000 in
theorem tX11_isLike_b67 {K : Int32 → ((Nat → Int32) × (Nat → Nat → Int32)) → Prop} (C : CallFix p m c cX11_isLike 4 s args wsX11_isLike RX11) (hR : Rti .boolean p l e rmX11_isLike s m args below meth c cX11_isLike D A (mT cI cZ) (mWu o h cI cZ) K Q) {f : Nat → Int32} {g : Nat → Nat → Int32} {x2 : Int32} (hh : wpX11_isLike_b67 f g x2 K) {H : Heap} {locs : List Loc} {ls : Array Slot} (hw : Wd D A s (mT cI cZ) (mW o h cI cZ f g) H locs) (hl : lv_has ls 4 [(0, .ref o), (2, .int x2)]) : W p l e rmX11_isLike s m args below meth c H locs 0 0 Q (F0 m 67 ls []) := by
  unfold wpX11_isLike_b67 at hh
  refine lv_iload_n C.1 C.2.1 dX11_isLike_67 rfl (lv_at hl 1 rfl) ?_
  obtain ⟨hb68, hh⟩ := hh
  exact hR _ _ _ (f, g) _ _ dX11_isLike_68 (isB_nar hb68) hh hw
set_option maxHeartbeats 4000000 in
set_option maxRecDepth 100000 in
theorem tX11_isLike_b60 {B22 : (Nat → Int32) → (Nat → Nat → Int32) → Int32 → Int32 → Int32 → Prop} {K : Int32 → ((Nat → Int32) × (Nat → Nat → Int32)) → Prop} (C : CallFix p m c cX11_isLike 4 s args wsX11_isLike RX11) (hR : Rti .boolean p l e rmX11_isLike s m args below meth c cX11_isLike D A (mT cI cZ) (mWu o h cI cZ) K Q) (hB22 : ∀ (f : Nat → Int32) (g : Nat → Nat → Int32) (x1 : Int32) (x2 : Int32) (x3 : Int32) (H : Heap) (locs : List Loc) (ls : Array Slot), B22 f g x1 x2 x3 → Wd D A s (mT cI cZ) (mW o h cI cZ f g) H locs → lv_has ls 4 [(0, .ref o), (1, .int x1), (2, .int x2), (3, .int x3)] → W p l e rmX11_isLike s m args below meth c H locs 0 0 Q (F0 m 22 ls [])) {f : Nat → Int32} {g : Nat → Nat → Int32} {k0 : Int32} {x1 : Int32} {x3 : Int32} (hh : wpX11_isLike_b60 B22 f g k0 x1 x3 K) {H : Heap} {locs : List Loc} {ls : Array Slot} (hw : Wd D A s (mT cI cZ) (mW o h cI cZ f g) H locs) (hl : lv_has ls 4 [(0, .ref o), (1, .int x1), (3, .int x3)]) : W p l e rmX11_isLike s m args below meth c H locs 0 0 Q (F0 m 60 ls [.int k0]) := by
  unfold wpX11_isLike_b60 at hh
  refine lv_istore_n (lv' := [(2, .int k0), (0, .ref o), (1, .int x1), (3, .int x3)]) C.1 C.2.1 dX11_isLike_60 rfl hl (by decide) rfl (fun ls hl => ?_)
  refine lv_iinc (v := x3 + (1 : Int32)) (lv' := [(3, .int (x3 + (1 : Int32))), (2, .int k0), (0, .ref o), (1, .int x1)]) C.1 C.2.1 dX11_isLike_61 hl (k := 3) rfl rfl (by decide) rfl (fun ls hl => ?_)
  refine lv_goto (tgt := 22) C.1 C.2.1 dX11_isLike_64 (by decide) ?_
  exact hB22 _ _ _ _ _ _ _ _ hh hw (lv_sub hl [2, 3, 1, 0] rfl)
set_option maxHeartbeats 4000000 in
set_option maxRecDepth 100000 in
theorem tX11_isLike_b22_body {B22 : (Nat → Int32) → (Nat → Nat → Int32) → Int32 → Int32 → Int32 → Prop} {K : Int32 → ((Nat → Int32) × (Nat → Nat → Int32)) → Prop} (C : CallFix p m c cX11_isLike 4 s args wsX11_isLike RX11) (hR : Rti .boolean p l e rmX11_isLike s m args below meth c cX11_isLike D A (mT cI cZ) (mWu o h cI cZ) K Q) (hB22 : ∀ (f : Nat → Int32) (g : Nat → Nat → Int32) (x1 : Int32) (x2 : Int32) (x3 : Int32) (H : Heap) (locs : List Loc) (ls : Array Slot), B22 f g x1 x2 x3 → Wd D A s (mT cI cZ) (mW o h cI cZ f g) H locs → lv_has ls 4 [(0, .ref o), (1, .int x1), (2, .int x2), (3, .int x3)] → W p l e rmX11_isLike s m args below meth c H locs 0 0 Q (F0 m 22 ls [])) {f : Nat → Int32} {g : Nat → Nat → Int32} {x1 : Int32} {x2 : Int32} {x3 : Int32} (hh : wpX11_isLike_b22_body B22 f g x1 x2 x3 K) {H : Heap} {locs : List Loc} {ls : Array Slot} (hw : Wd D A s (mT cI cZ) (mW o h cI cZ f g) H locs) (hl : lv_has ls 4 [(0, .ref o), (1, .int x1), (2, .int x2), (3, .int x3)]) : W p l e rmX11_isLike s m args below meth c H locs 0 0 Q (F0 m 22 ls []) := by
  unfold wpX11_isLike_b22_body at hh
  refine lv_iload_n C.1 C.2.1 dX11_isLike_22 rfl (lv_at hl 3 rfl) ?_
  refine lv_iload_n C.1 C.2.1 dX11_isLike_23 rfl (lv_at hl 1 rfl) ?_
  refine lv_icmp_ge (tgt := 67) C.1 C.2.1 dX11_isLike_24 (by decide) (fun c24 => ?_) (fun c24 => ?_)
  · replace hh := hh.1 c24
    exact tX11_isLike_b67 C hR hh hw (lv_sub hl [0, 2] rfl)
  · replace hh := hh.2 c24
    refine lv_iload_n C.1 C.2.1 dX11_isLike_27 rfl (lv_at hl 2 rfl) ?_
    refine lv_if_eq (tgt := 67) C.1 C.2.1 dX11_isLike_28 (by decide) (fun c28 => ?_) (fun c28 => ?_)
    · replace hh := hh.1 c28
      exact tX11_isLike_b67 C hR hh hw (lv_sub hl [0, 2] rfl)
    · replace hh := hh.2 c28
      refine lv_aload_n C.1 C.2.1 dX11_isLike_31 rfl (lv_at hl 0 rfl) ?_
      refine m_Vv C hw (ctX11_pulls l D o h cI cZ f g  hh) (cwV 0 C.2.2.2.2 (gd_V w_1981 w_1983 w_104 w_125 w_1984) rfl rfl rfl cdX11_pulls ⟨Nat.le_of_ble_eq_true rfl, Nat.le_of_ble_eq_true rfl⟩) rfl hl.1 (Nat.le_of_ble_eq_true rfl) dX11_isLike_32 ⟨Nat.zero_le _, Nat.zero_le _⟩ (fun u32 H locs hh hw => ?_) rfl
      refine lv_aload_n C.1 C.2.1 dX11_isLike_35 rfl (lv_at hl 0 rfl) ?_
      refine m_ga C hw (inC inW11) 71 (by decide) (wc w_1533) mg_71 dX11_isLike_36 ?_
      refine lv_iload_n C.1 C.2.1 dX11_isLike_39 rfl (lv_at hl 3 rfl) ?_
      obtain ⟨hi40, hh⟩ := hh
      refine m_ial C hw mp_71 (x := u32.2 71 (ix x3)) hi40 rfl dX11_isLike_40 ?_
      refine lv_iconst (v := (4 : Int32)) C.1 C.2.1 dX11_isLike_41 (by decide) ?_
      refine lv_aload_n C.1 C.2.1 dX11_isLike_42 rfl (lv_at hl 0 rfl) ?_
      refine m_gi C hw (inC inW11) 41 (by decide) (wc w_1503) mg_41 (x := u32.1 41) rfl dX11_isLike_43 ?_
      refine lv_imul C.1 C.2.1 dX11_isLike_46 ?_
      refine lv_aload_n C.1 C.2.1 dX11_isLike_47 rfl (lv_at hl 0 rfl) ?_
      refine m_gi C hw (inC inW11) 42 (by decide) (wc w_1504) mg_42 (x := u32.1 42) rfl dX11_isLike_48 ?_
      refine lv_iadd C.1 C.2.1 dX11_isLike_51 ?_
      refine lv_icmp_ne (tgt := 59) C.1 C.2.1 dX11_isLike_52 (by decide) (fun c52 => ?_) (fun c52 => ?_)
      · replace hh := hh.1 c52
        refine lv_iconst (v := (0 : Int32)) C.1 C.2.1 dX11_isLike_59 (by decide) ?_
        exact tX11_isLike_b60 C hR hB22 hh hw (lv_sub hl [0, 1, 3] rfl)
      · replace hh := hh.2 c52
        refine lv_iconst (v := (1 : Int32)) C.1 C.2.1 dX11_isLike_55 (by decide) ?_
        refine lv_goto (tgt := 60) C.1 C.2.1 dX11_isLike_56 (by decide) ?_
        exact tX11_isLike_b60 C hR hB22 hh hw (lv_sub hl [0, 1, 3] rfl)
theorem tX11_isLike_b22 {K : Int32 → ((Nat → Int32) × (Nat → Nat → Int32)) → Prop} (C : CallFix p m c cX11_isLike 4 s args wsX11_isLike RX11) (hR : Rti .boolean p l e rmX11_isLike s m args below meth c cX11_isLike D A (mT cI cZ) (mWu o h cI cZ) K Q) (n : Nat) : ∀ (f : Nat → Int32) (g : Nat → Nat → Int32) (x1 : Int32) (x2 : Int32) (x3 : Int32) (H : Heap) (locs : List Loc) (ls : Array Slot), wpX11_isLike_b22 n f g x1 x2 x3 K → Wd D A s (mT cI cZ) (mW o h cI cZ f g) H locs → lv_has ls 4 [(0, .ref o), (1, .int x1), (2, .int x2), (3, .int x3)] → W p l e rmX11_isLike s m args below meth c H locs 0 0 Q (F0 m 22 ls []) := by
  induction n with
  | zero => intro f g x1 x2 x3 H locs ls hh; exact hh.elim
  | succ n ih => intro f g x1 x2 x3 H locs ls hh hw hl; exact tX11_isLike_b22_body C hR ih hh hw hl
set_option maxHeartbeats 4000000 in
set_option maxRecDepth 100000 in
theorem tX11_isLike_b0 {K : Int32 → ((Nat → Int32) × (Nat → Nat → Int32)) → Prop} (C : CallFix p m c cX11_isLike 4 s args wsX11_isLike RX11) (hR : Rti .boolean p l e rmX11_isLike s m args below meth c cX11_isLike D A (mT cI cZ) (mWu o h cI cZ) K Q) {f : Nat → Int32} {g : Nat → Nat → Int32} {x1 : Int32} (hh : wpX11_isLike_b0 f g x1 K) {H : Heap} {locs : List Loc} {ls : Array Slot} (hw : Wd D A s (mT cI cZ) (mW o h cI cZ f g) H locs) (hl : lv_has ls 4 [(0, .ref o), (1, .int x1)]) : W p l e rmX11_isLike s m args below meth c H locs 0 0 Q (F0 m 0 ls []) := by
  unfold wpX11_isLike_b0 at hh
  refine lv_aload_n C.1 C.2.1 dX11_isLike_0 rfl (lv_at hl 0 rfl) ?_
  refine lv_iconst (v := (4 : Int32)) C.1 C.2.1 dX11_isLike_1 (by decide) ?_
  refine m_Vv C hw (ctX11_takes l D o h cI cZ f g (4 : Int32) hh) (cwV 1 C.2.2.2.2 (gd_V w_1902 w_1904 w_92 w_125 w_1905) rfl rfl rfl cdX11_takes ⟨Nat.le_of_ble_eq_true rfl, Nat.le_of_ble_eq_true rfl⟩) rfl hl.1 (Nat.le_of_ble_eq_true rfl) dX11_isLike_2 ⟨Nat.zero_le _, Nat.zero_le _⟩ (fun u2 H locs hh hw => ?_) rfl
  refine lv_aload_n C.1 C.2.1 dX11_isLike_5 rfl (lv_at hl 0 rfl) ?_
  refine lv_aload_n C.1 C.2.1 dX11_isLike_6 rfl (lv_at hl 0 rfl) ?_
  refine m_gi C hw (inC inW11) 49 (by decide) (wc w_1511) mg_49 (x := u2.1 49) rfl dX11_isLike_7 ?_
  refine lv_aload_n C.1 C.2.1 dX11_isLike_10 rfl (lv_at hl 0 rfl) ?_
  refine m_gi C hw (inC inW11) 50 (by decide) (wc w_1512) mg_50 (x := u2.1 50) rfl dX11_isLike_11 ?_
  refine lv_iand C.1 C.2.1 dX11_isLike_14 ?_
  refine m_pi C hw (inC inW11) 45 (by decide) (wc w_1507) rfl (ty := .int) (by decide +kernel) rfl rfl (Nat.le_of_ble_eq_true rfl) ms_45 dX11_isLike_15 (fun H locs hw => ?_)
  refine lv_iconst (v := (1 : Int32)) C.1 C.2.1 dX11_isLike_18 (by decide) ?_
  refine lv_istore_n (lv' := [(2, .int (1 : Int32)), (0, .ref o), (1, .int x1)]) C.1 C.2.1 dX11_isLike_19 rfl hl (by decide) rfl (fun ls hl => ?_)
  refine lv_iconst (v := (0 : Int32)) C.1 C.2.1 dX11_isLike_20 (by decide) ?_
  refine lv_istore_n (lv' := [(3, .int (0 : Int32)), (2, .int (1 : Int32)), (0, .ref o), (1, .int x1)]) C.1 C.2.1 dX11_isLike_21 rfl hl (by decide) rfl (fun ls hl => ?_)
  obtain ⟨n, hh⟩ := hh
  exact tX11_isLike_b22 C hR n _ _ _ _ _ _ _ _ hh hw (lv_sub hl [2, 3, 1, 0] rfl)
theorem ctX11_isLike (l : Launch) (D : va_G) (o : Nat) (h : Nat → Nat) (cI cZ : ClassId) (f : Nat → Int32) (g : Nat → Nat → Int32) (x1 : Int32) {K : Int32 → ((Nat → Int32) × (Nat → Nat → Int32)) → Prop} (hh : wpX11_isLike f g x1 K) : Ci l yX11_isLike wsX11_isLike rmX11_isLike [.ref o, .int x1] D (mT cI cZ) (mWu o h cI cZ) (f, g) K := by
  refine Ci_of (cc := cX11_isLike) (maxL := 4) (by decide) rfl (Nat.le_of_ble_eq_true rfl) ?_
  intro p e s m below meth c A Q C hw hR ls hl
  exact tX11_isLike_b0 C hR hh hw hl
theorem cdX11_isLike : yX11_isLike.cls = RX11 ∧ yX11_isLike.cls ≠ "java/lang/invoke/MethodHandle" ∧ yX11_isLike.cls ≠ "java/lang/invoke/VarHandle" ∧ (parseMethodDescriptor yX11_isLike.desc).map (fun d => d.parameters.length) = some 1 := by decide +kernel
abbrev rmX11_laySuspects : Room := { frames := 5, cells := 0, slots := 0, locals := 111 }
set_option maxHeartbeats 4000000 in
set_option maxRecDepth 100000 in
theorem tX11_laySuspects_b131 {B30 : (Nat → Int32) → (Nat → Nat → Int32) → Int32 → Int32 → Int32 → Int32 → Int32 → Int32 → Prop} {B42 : (Nat → Int32) → (Nat → Nat → Int32) → Int32 → Int32 → Int32 → Int32 → Int32 → Int32 → Int32 → Prop} {K : ((Nat → Int32) × (Nat → Nat → Int32)) → Prop} (C : CallFix p m c cX11_laySuspects 8 s args wsX11_laySuspects RX11) (hR : Rtv p l e rmX11_laySuspects s m args below meth c cX11_laySuspects D A (mT cI cZ) (mWu o h cI cZ) K Q) (hB30 : ∀ (f : Nat → Int32) (g : Nat → Nat → Int32) (x1 : Int32) (x2 : Int32) (x3 : Int32) (x4 : Int32) (x5 : Int32) (x6 : Int32) (H : Heap) (locs : List Loc) (ls : Array Slot), B30 f g x1 x2 x3 x4 x5 x6 → Wd D A s (mT cI cZ) (mW o h cI cZ f g) H locs → lv_has ls 8 [(0, .ref o), (1, .int x1), (2, .int x2), (3, .int x3), (4, .int x4), (5, .int x5), (6, .int x6)] → W p l e rmX11_laySuspects s m args below meth c H locs 0 0 Q (F0 m 30 ls [])) (hB42 : ∀ (f : Nat → Int32) (g : Nat → Nat → Int32) (x1 : Int32) (x2 : Int32) (x3 : Int32) (x4 : Int32) (x5 : Int32) (x6 : Int32) (x7 : Int32) (H : Heap) (locs : List Loc) (ls : Array Slot), B42 f g x1 x2 x3 x4 x5 x6 x7 → Wd D A s (mT cI cZ) (mW o h cI cZ f g) H locs → lv_has ls 8 [(0, .ref o), (1, .int x1), (2, .int x2), (3, .int x3), (4, .int x4), (5, .int x5), (6, .int x6), (7, .int x7)] → W p l e rmX11_laySuspects s m args below meth c H locs 0 0 Q (F0 m 42 ls [])) {f : Nat → Int32} {g : Nat → Nat → Int32} {x1 : Int32} {x2 : Int32} {x3 : Int32} {x4 : Int32} {x5 : Int32} {x6 : Int32} {x7 : Int32} (hh : wpX11_laySuspects_b131 B30 B42 f g x1 x2 x3 x4 x5 x6 x7 K) {H : Heap} {locs : List Loc} {ls : Array Slot} (hw : Wd D A s (mT cI cZ) (mW o h cI cZ f g) H locs) (hl : lv_has ls 8 [(0, .ref o), (1, .int x1), (2, .int x2), (3, .int x3), (4, .int x4), (5, .int x5), (6, .int x6), (7, .int x7)]) : W p l e rmX11_laySuspects s m args below meth c H locs 0 0 Q (F0 m 131 ls []) := by
  unfold wpX11_laySuspects_b131 at hh
  refine lv_iinc (v := x7 + (1 : Int32)) (lv' := [(7, .int (x7 + (1 : Int32))), (0, .ref o), (1, .int x1), (2, .int x2), (3, .int x3), (4, .int x4), (5, .int x5), (6, .int x6)]) C.1 C.2.1 dX11_laySuspects_131 hl (k := 7) rfl rfl (by decide) rfl (fun ls hl => ?_)
  refine lv_goto (tgt := 42) C.1 C.2.1 dX11_laySuspects_134 (by decide) ?_
  exact hB42 _ _ _ _ _ _ _ _ _ _ _ _ hh hw (lv_sub hl [1, 2, 3, 4, 5, 6, 7, 0] rfl)
set_option maxHeartbeats 4000000 in
set_option maxRecDepth 100000 in
theorem tX11_laySuspects_b58 {B30 : (Nat → Int32) → (Nat → Nat → Int32) → Int32 → Int32 → Int32 → Int32 → Int32 → Int32 → Prop} {B42 : (Nat → Int32) → (Nat → Nat → Int32) → Int32 → Int32 → Int32 → Int32 → Int32 → Int32 → Int32 → Prop} {K : ((Nat → Int32) × (Nat → Nat → Int32)) → Prop} (C : CallFix p m c cX11_laySuspects 8 s args wsX11_laySuspects RX11) (hR : Rtv p l e rmX11_laySuspects s m args below meth c cX11_laySuspects D A (mT cI cZ) (mWu o h cI cZ) K Q) (hB30 : ∀ (f : Nat → Int32) (g : Nat → Nat → Int32) (x1 : Int32) (x2 : Int32) (x3 : Int32) (x4 : Int32) (x5 : Int32) (x6 : Int32) (H : Heap) (locs : List Loc) (ls : Array Slot), B30 f g x1 x2 x3 x4 x5 x6 → Wd D A s (mT cI cZ) (mW o h cI cZ f g) H locs → lv_has ls 8 [(0, .ref o), (1, .int x1), (2, .int x2), (3, .int x3), (4, .int x4), (5, .int x5), (6, .int x6)] → W p l e rmX11_laySuspects s m args below meth c H locs 0 0 Q (F0 m 30 ls [])) (hB42 : ∀ (f : Nat → Int32) (g : Nat → Nat → Int32) (x1 : Int32) (x2 : Int32) (x3 : Int32) (x4 : Int32) (x5 : Int32) (x6 : Int32) (x7 : Int32) (H : Heap) (locs : List Loc) (ls : Array Slot), B42 f g x1 x2 x3 x4 x5 x6 x7 → Wd D A s (mT cI cZ) (mW o h cI cZ f g) H locs → lv_has ls 8 [(0, .ref o), (1, .int x1), (2, .int x2), (3, .int x3), (4, .int x4), (5, .int x5), (6, .int x6), (7, .int x7)] → W p l e rmX11_laySuspects s m args below meth c H locs 0 0 Q (F0 m 42 ls [])) {f : Nat → Int32} {g : Nat → Nat → Int32} {k0 : Int32} {x1 : Int32} {x2 : Int32} {x3 : Int32} {x4 : Int32} {x5 : Int32} {x6 : Int32} {x7 : Int32} (hh : wpX11_laySuspects_b58 B30 B42 f g k0 x1 x2 x3 x4 x5 x6 x7 K) {H : Heap} {locs : List Loc} {ls : Array Slot} (hw : Wd D A s (mT cI cZ) (mW o h cI cZ f g) H locs) (hl : lv_has ls 8 [(0, .ref o), (1, .int x1), (2, .int x2), (3, .int x3), (4, .int x4), (5, .int x5), (6, .int x6), (7, .int x7)]) : W p l e rmX11_laySuspects s m args below meth c H locs 0 0 Q (F0 m 58 ls [.int k0]) := by
  unfold wpX11_laySuspects_b58 at hh
  refine lv_iload C.1 C.2.1 dX11_laySuspects_58 (lv_at hl 6 rfl) ?_
  refine wd_Si C hw (ctX11_isOf l D k0 x6 hh) (va_cwS 2 C.2.2.2.2 (gd_S w_1823 w_1824 (ini_cls rfl w_125) w_1825) rfl rfl rfl cdX11_isOf ⟨Nat.le_of_ble_eq_true rfl, Nat.le_of_ble_eq_true rfl⟩) rfl hl.1 (Nat.le_of_ble_eq_true rfl) dX11_laySuspects_60 ⟨Nat.zero_le _, Nat.zero_le _⟩ (fun r60 H locs hh hw => ?_) rfl
  refine lv_if_ne (tgt := 69) C.1 C.2.1 dX11_laySuspects_63 (by decide) (fun c63 => ?_) (fun c63 => ?_)
  · replace hh := hh.1 c63
    refine lv_aload_n C.1 C.2.1 dX11_laySuspects_69 rfl (lv_at hl 0 rfl) ?_
    refine lv_iconst (v := (1 : Int32)) C.1 C.2.1 dX11_laySuspects_70 (by decide) ?_
    refine lv_iload C.1 C.2.1 dX11_laySuspects_71 (lv_at hl 6 rfl) ?_
    refine g_ishl C dX11_laySuspects_73 ?_
    refine m_pi C hw (inC inW11) 49 (by decide) (wc w_1511) rfl (ty := .int) (by decide +kernel) rfl rfl (Nat.le_of_ble_eq_true rfl) ms_49 dX11_laySuspects_74 (fun H locs hw => ?_)
    refine lv_aload_n C.1 C.2.1 dX11_laySuspects_77 rfl (lv_at hl 0 rfl) ?_
    refine lv_iload C.1 C.2.1 dX11_laySuspects_78 (lv_at hl 7 rfl) ?_
    refine lv_iload C.1 C.2.1 dX11_laySuspects_80 (lv_at hl 6 rfl) ?_
    refine g_ishl C dX11_laySuspects_82 ?_
    refine m_pi C hw (inC inW11) 50 (by decide) (wc w_1512) rfl (ty := .int) (by decide +kernel) rfl rfl (Nat.le_of_ble_eq_true rfl) ms_50 dX11_laySuspects_83 (fun H locs hw => ?_)
    refine lv_aload_n C.1 C.2.1 dX11_laySuspects_86 rfl (lv_at hl 0 rfl) ?_
    refine lv_iload_n C.1 C.2.1 dX11_laySuspects_87 rfl (lv_at hl 1 rfl) ?_
    refine m_Vi C hw (ctX11_isLike l D o h cI cZ (upd (upd f 49 (jshl (1 : Int32) x6)) 50 (jshl x7 x6)) g x1 hh) (cwV 1 C.2.2.2.2 (gd_V w_2037 w_2039 w_111 w_125 w_2040) rfl rfl rfl cdX11_isLike ⟨Nat.le_of_ble_eq_true rfl, Nat.le_of_ble_eq_true rfl⟩) rfl hl.1 (Nat.le_of_ble_eq_true rfl) dX11_laySuspects_88 ⟨Nat.zero_le _, Nat.zero_le _⟩ (fun r88 u88 H locs hh hw => ?_) rfl
    refine lv_if_ne (tgt := 97) C.1 C.2.1 dX11_laySuspects_91 (by decide) (fun c91 => ?_) (fun c91 => ?_)
    · replace hh := hh.1 c91
      refine lv_iload C.1 C.2.1 dX11_laySuspects_97 (lv_at hl 7 rfl) ?_
      refine lv_if_ne (tgt := 118) C.1 C.2.1 dX11_laySuspects_99 (by decide) (fun c99 => ?_) (fun c99 => ?_)
      · replace hh := hh.1 c99
        refine lv_aload_n C.1 C.2.1 dX11_laySuspects_118 rfl (lv_at hl 0 rfl) ?_
        refine lv_dup C.1 C.2.1 dX11_laySuspects_119 rfl ?_
        refine m_gi C hw (inC inW11) 73 (by decide) (wc w_1535) mg_73 (x := u88.1 73) rfl dX11_laySuspects_120 ?_
        refine lv_iconst (v := (1 : Int32)) C.1 C.2.1 dX11_laySuspects_123 (by decide) ?_
        refine lv_iload C.1 C.2.1 dX11_laySuspects_124 (lv_at hl 6 rfl) ?_
        refine g_ishl C dX11_laySuspects_126 ?_
        refine lv_ior C.1 C.2.1 dX11_laySuspects_127 ?_
        refine m_pi C hw (inC inW11) 73 (by decide) (wc w_1535) rfl (ty := .int) (by decide +kernel) rfl rfl (Nat.le_of_ble_eq_true rfl) ms_73 dX11_laySuspects_128 (fun H locs hw => ?_)
        exact tX11_laySuspects_b131 C hR hB30 hB42 hh hw hl
      · replace hh := hh.2 c99
        refine lv_aload_n C.1 C.2.1 dX11_laySuspects_102 rfl (lv_at hl 0 rfl) ?_
        refine lv_dup C.1 C.2.1 dX11_laySuspects_103 rfl ?_
        refine m_gi C hw (inC inW11) 72 (by decide) (wc w_1534) mg_72 (x := u88.1 72) rfl dX11_laySuspects_104 ?_
        refine lv_iconst (v := (1 : Int32)) C.1 C.2.1 dX11_laySuspects_107 (by decide) ?_
        refine lv_iload C.1 C.2.1 dX11_laySuspects_108 (lv_at hl 6 rfl) ?_
        refine g_ishl C dX11_laySuspects_110 ?_
        refine lv_ior C.1 C.2.1 dX11_laySuspects_111 ?_
        refine m_pi C hw (inC inW11) 72 (by decide) (wc w_1534) rfl (ty := .int) (by decide +kernel) rfl rfl (Nat.le_of_ble_eq_true rfl) ms_72 dX11_laySuspects_112 (fun H locs hw => ?_)
        refine lv_goto (tgt := 131) C.1 C.2.1 dX11_laySuspects_115 (by decide) ?_
        exact tX11_laySuspects_b131 C hR hB30 hB42 hh hw hl
    · replace hh := hh.2 c91
      refine lv_goto (tgt := 131) C.1 C.2.1 dX11_laySuspects_94 (by decide) ?_
      exact tX11_laySuspects_b131 C hR hB30 hB42 hh hw hl
  · replace hh := hh.2 c63
    refine lv_goto (tgt := 131) C.1 C.2.1 dX11_laySuspects_66 (by decide) ?_
    exact tX11_laySuspects_b131 C hR hB30 hB42 hh hw hl
set_option maxHeartbeats 4000000 in
set_option maxRecDepth 100000 in
theorem tX11_laySuspects_b42_body {B30 : (Nat → Int32) → (Nat → Nat → Int32) → Int32 → Int32 → Int32 → Int32 → Int32 → Int32 → Prop} {B42 : (Nat → Int32) → (Nat → Nat → Int32) → Int32 → Int32 → Int32 → Int32 → Int32 → Int32 → Int32 → Prop} {K : ((Nat → Int32) × (Nat → Nat → Int32)) → Prop} (C : CallFix p m c cX11_laySuspects 8 s args wsX11_laySuspects RX11) (hR : Rtv p l e rmX11_laySuspects s m args below meth c cX11_laySuspects D A (mT cI cZ) (mWu o h cI cZ) K Q) (hB30 : ∀ (f : Nat → Int32) (g : Nat → Nat → Int32) (x1 : Int32) (x2 : Int32) (x3 : Int32) (x4 : Int32) (x5 : Int32) (x6 : Int32) (H : Heap) (locs : List Loc) (ls : Array Slot), B30 f g x1 x2 x3 x4 x5 x6 → Wd D A s (mT cI cZ) (mW o h cI cZ f g) H locs → lv_has ls 8 [(0, .ref o), (1, .int x1), (2, .int x2), (3, .int x3), (4, .int x4), (5, .int x5), (6, .int x6)] → W p l e rmX11_laySuspects s m args below meth c H locs 0 0 Q (F0 m 30 ls [])) (hB42 : ∀ (f : Nat → Int32) (g : Nat → Nat → Int32) (x1 : Int32) (x2 : Int32) (x3 : Int32) (x4 : Int32) (x5 : Int32) (x6 : Int32) (x7 : Int32) (H : Heap) (locs : List Loc) (ls : Array Slot), B42 f g x1 x2 x3 x4 x5 x6 x7 → Wd D A s (mT cI cZ) (mW o h cI cZ f g) H locs → lv_has ls 8 [(0, .ref o), (1, .int x1), (2, .int x2), (3, .int x3), (4, .int x4), (5, .int x5), (6, .int x6), (7, .int x7)] → W p l e rmX11_laySuspects s m args below meth c H locs 0 0 Q (F0 m 42 ls [])) {f : Nat → Int32} {g : Nat → Nat → Int32} {x1 : Int32} {x2 : Int32} {x3 : Int32} {x4 : Int32} {x5 : Int32} {x6 : Int32} {x7 : Int32} (hh : wpX11_laySuspects_b42_body B30 B42 f g x1 x2 x3 x4 x5 x6 x7 K) {H : Heap} {locs : List Loc} {ls : Array Slot} (hw : Wd D A s (mT cI cZ) (mW o h cI cZ f g) H locs) (hl : lv_has ls 8 [(0, .ref o), (1, .int x1), (2, .int x2), (3, .int x3), (4, .int x4), (5, .int x5), (6, .int x6), (7, .int x7)]) : W p l e rmX11_laySuspects s m args below meth c H locs 0 0 Q (F0 m 42 ls []) := by
  unfold wpX11_laySuspects_b42_body at hh
  refine lv_iload C.1 C.2.1 dX11_laySuspects_42 (lv_at hl 7 rfl) ?_
  refine lv_iconst (v := (2 : Int32)) C.1 C.2.1 dX11_laySuspects_44 (by decide) ?_
  refine lv_icmp_ge (tgt := 137) C.1 C.2.1 dX11_laySuspects_45 (by decide) (fun c45 => ?_) (fun c45 => ?_)
  · replace hh := hh.1 c45
    refine lv_iinc (v := x6 + (1 : Int32)) (lv' := [(6, .int (x6 + (1 : Int32))), (0, .ref o), (1, .int x1), (2, .int x2), (3, .int x3), (4, .int x4), (5, .int x5), (7, .int x7)]) C.1 C.2.1 dX11_laySuspects_137 hl (k := 6) rfl rfl (by decide) rfl (fun ls hl => ?_)
    refine lv_goto (tgt := 30) C.1 C.2.1 dX11_laySuspects_140 (by decide) ?_
    exact hB30 _ _ _ _ _ _ _ _ _ _ _ hh hw (lv_sub hl [1, 2, 3, 4, 5, 6, 0] rfl)
  · replace hh := hh.2 c45
    refine lv_iload C.1 C.2.1 dX11_laySuspects_48 (lv_at hl 7 rfl) ?_
    refine lv_if_ne (tgt := 57) C.1 C.2.1 dX11_laySuspects_50 (by decide) (fun c50 => ?_) (fun c50 => ?_)
    · replace hh := hh.1 c50
      refine lv_iload_n C.1 C.2.1 dX11_laySuspects_57 rfl (lv_at hl 3 rfl) ?_
      exact tX11_laySuspects_b58 C hR hB30 hB42 hh hw hl
    · replace hh := hh.2 c50
      refine lv_iload_n C.1 C.2.1 dX11_laySuspects_53 rfl (lv_at hl 2 rfl) ?_
      refine lv_goto (tgt := 58) C.1 C.2.1 dX11_laySuspects_54 (by decide) ?_
      exact tX11_laySuspects_b58 C hR hB30 hB42 hh hw hl
theorem tX11_laySuspects_b42 {B30 : (Nat → Int32) → (Nat → Nat → Int32) → Int32 → Int32 → Int32 → Int32 → Int32 → Int32 → Prop} {K : ((Nat → Int32) × (Nat → Nat → Int32)) → Prop} (C : CallFix p m c cX11_laySuspects 8 s args wsX11_laySuspects RX11) (hR : Rtv p l e rmX11_laySuspects s m args below meth c cX11_laySuspects D A (mT cI cZ) (mWu o h cI cZ) K Q) (hB30 : ∀ (f : Nat → Int32) (g : Nat → Nat → Int32) (x1 : Int32) (x2 : Int32) (x3 : Int32) (x4 : Int32) (x5 : Int32) (x6 : Int32) (H : Heap) (locs : List Loc) (ls : Array Slot), B30 f g x1 x2 x3 x4 x5 x6 → Wd D A s (mT cI cZ) (mW o h cI cZ f g) H locs → lv_has ls 8 [(0, .ref o), (1, .int x1), (2, .int x2), (3, .int x3), (4, .int x4), (5, .int x5), (6, .int x6)] → W p l e rmX11_laySuspects s m args below meth c H locs 0 0 Q (F0 m 30 ls [])) (n : Nat) : ∀ (f : Nat → Int32) (g : Nat → Nat → Int32) (x1 : Int32) (x2 : Int32) (x3 : Int32) (x4 : Int32) (x5 : Int32) (x6 : Int32) (x7 : Int32) (H : Heap) (locs : List Loc) (ls : Array Slot), wpX11_laySuspects_b42 B30 n f g x1 x2 x3 x4 x5 x6 x7 K → Wd D A s (mT cI cZ) (mW o h cI cZ f g) H locs → lv_has ls 8 [(0, .ref o), (1, .int x1), (2, .int x2), (3, .int x3), (4, .int x4), (5, .int x5), (6, .int x6), (7, .int x7)] → W p l e rmX11_laySuspects s m args below meth c H locs 0 0 Q (F0 m 42 ls []) := by
  induction n with
  | zero => intro f g x1 x2 x3 x4 x5 x6 x7 H locs ls hh; exact hh.elim
  | succ n ih => intro f g x1 x2 x3 x4 x5 x6 x7 H locs ls hh hw hl; exact tX11_laySuspects_b42_body C hR hB30 ih hh hw hl
set_option maxHeartbeats 4000000 in
set_option maxRecDepth 100000 in
theorem tX11_laySuspects_b30_body {B30 : (Nat → Int32) → (Nat → Nat → Int32) → Int32 → Int32 → Int32 → Int32 → Int32 → Int32 → Prop} {K : ((Nat → Int32) × (Nat → Nat → Int32)) → Prop} (C : CallFix p m c cX11_laySuspects 8 s args wsX11_laySuspects RX11) (hR : Rtv p l e rmX11_laySuspects s m args below meth c cX11_laySuspects D A (mT cI cZ) (mWu o h cI cZ) K Q) (hB30 : ∀ (f : Nat → Int32) (g : Nat → Nat → Int32) (x1 : Int32) (x2 : Int32) (x3 : Int32) (x4 : Int32) (x5 : Int32) (x6 : Int32) (H : Heap) (locs : List Loc) (ls : Array Slot), B30 f g x1 x2 x3 x4 x5 x6 → Wd D A s (mT cI cZ) (mW o h cI cZ f g) H locs → lv_has ls 8 [(0, .ref o), (1, .int x1), (2, .int x2), (3, .int x3), (4, .int x4), (5, .int x5), (6, .int x6)] → W p l e rmX11_laySuspects s m args below meth c H locs 0 0 Q (F0 m 30 ls [])) {f : Nat → Int32} {g : Nat → Nat → Int32} {x1 : Int32} {x2 : Int32} {x3 : Int32} {x4 : Int32} {x5 : Int32} {x6 : Int32} (hh : wpX11_laySuspects_b30_body B30 f g x1 x2 x3 x4 x5 x6 K) {H : Heap} {locs : List Loc} {ls : Array Slot} (hw : Wd D A s (mT cI cZ) (mW o h cI cZ f g) H locs) (hl : lv_has ls 8 [(0, .ref o), (1, .int x1), (2, .int x2), (3, .int x3), (4, .int x4), (5, .int x5), (6, .int x6)]) : W p l e rmX11_laySuspects s m args below meth c H locs 0 0 Q (F0 m 30 ls []) := by
  unfold wpX11_laySuspects_b30_body at hh
  refine lv_iload C.1 C.2.1 dX11_laySuspects_30 (lv_at hl 6 rfl) ?_
  refine lv_aload_n C.1 C.2.1 dX11_laySuspects_32 rfl (lv_at hl 0 rfl) ?_
  refine m_gi C hw (inC inW11) 20 (by decide) (wc w_1482) mg_20 (x := f 20) rfl dX11_laySuspects_33 ?_
  refine lv_icmp_ge (tgt := 143) C.1 C.2.1 dX11_laySuspects_36 (by decide) (fun c36 => ?_) (fun c36 => ?_)
  · replace hh := hh.1 c36
    refine lv_aload_n C.1 C.2.1 dX11_laySuspects_143 rfl (lv_at hl 0 rfl) ?_
    refine lv_iload C.1 C.2.1 dX11_laySuspects_144 (lv_at hl 4 rfl) ?_
    refine m_pi C hw (inC inW11) 49 (by decide) (wc w_1511) rfl (ty := .int) (by decide +kernel) rfl rfl (Nat.le_of_ble_eq_true rfl) ms_49 dX11_laySuspects_146 (fun H locs hw => ?_)
    refine lv_aload_n C.1 C.2.1 dX11_laySuspects_149 rfl (lv_at hl 0 rfl) ?_
    refine lv_iload C.1 C.2.1 dX11_laySuspects_150 (lv_at hl 5 rfl) ?_
    refine m_pi C hw (inC inW11) 50 (by decide) (wc w_1512) rfl (ty := .int) (by decide +kernel) rfl rfl (Nat.le_of_ble_eq_true rfl) ms_50 dX11_laySuspects_152 (fun H locs hw => ?_)
    refine lv_aload_n C.1 C.2.1 dX11_laySuspects_155 rfl (lv_at hl 0 rfl) ?_
    refine lv_iconst (v := (4 : Int32)) C.1 C.2.1 dX11_laySuspects_156 (by decide) ?_
    refine m_Vv C hw (ctX11_takes l D o h cI cZ (upd (upd f 49 x4) 50 x5) g (4 : Int32) hh) (cwV 1 C.2.2.2.2 (gd_V w_1902 w_1904 w_92 w_125 w_1905) rfl rfl rfl cdX11_takes ⟨Nat.le_of_ble_eq_true rfl, Nat.le_of_ble_eq_true rfl⟩) rfl hl.1 (Nat.le_of_ble_eq_true rfl) dX11_laySuspects_157 ⟨Nat.zero_le _, Nat.zero_le _⟩ (fun u157 H locs hh hw => ?_) rfl
    exact hR _ _ (u157.1, u157.2) _ _ dX11_laySuspects_160 hh hw
  · replace hh := hh.2 c36
    refine lv_iconst (v := (0 : Int32)) C.1 C.2.1 dX11_laySuspects_39 (by decide) ?_
    refine lv_istore (lv' := [(7, .int (0 : Int32)), (0, .ref o), (1, .int x1), (2, .int x2), (3, .int x3), (4, .int x4), (5, .int x5), (6, .int x6)]) C.1 C.2.1 dX11_laySuspects_40 hl (by decide) rfl (fun ls hl => ?_)
    obtain ⟨n, hh⟩ := hh
    exact tX11_laySuspects_b42 C hR hB30 n _ _ _ _ _ _ _ _ _ _ _ _ hh hw (lv_sub hl [1, 2, 3, 4, 5, 6, 7, 0] rfl)
theorem tX11_laySuspects_b30 {K : ((Nat → Int32) × (Nat → Nat → Int32)) → Prop} (C : CallFix p m c cX11_laySuspects 8 s args wsX11_laySuspects RX11) (hR : Rtv p l e rmX11_laySuspects s m args below meth c cX11_laySuspects D A (mT cI cZ) (mWu o h cI cZ) K Q) (n : Nat) : ∀ (f : Nat → Int32) (g : Nat → Nat → Int32) (x1 : Int32) (x2 : Int32) (x3 : Int32) (x4 : Int32) (x5 : Int32) (x6 : Int32) (H : Heap) (locs : List Loc) (ls : Array Slot), wpX11_laySuspects_b30 n f g x1 x2 x3 x4 x5 x6 K → Wd D A s (mT cI cZ) (mW o h cI cZ f g) H locs → lv_has ls 8 [(0, .ref o), (1, .int x1), (2, .int x2), (3, .int x3), (4, .int x4), (5, .int x5), (6, .int x6)] → W p l e rmX11_laySuspects s m args below meth c H locs 0 0 Q (F0 m 30 ls []) := by
  induction n with
  | zero => intro f g x1 x2 x3 x4 x5 x6 H locs ls hh; exact hh.elim
  | succ n ih => intro f g x1 x2 x3 x4 x5 x6 H locs ls hh hw hl; exact tX11_laySuspects_b30_body C hR ih hh hw hl
set_option maxHeartbeats 4000000 in
set_option maxRecDepth 100000 in
theorem tX11_laySuspects_b0 {K : ((Nat → Int32) × (Nat → Nat → Int32)) → Prop} (C : CallFix p m c cX11_laySuspects 8 s args wsX11_laySuspects RX11) (hR : Rtv p l e rmX11_laySuspects s m args below meth c cX11_laySuspects D A (mT cI cZ) (mWu o h cI cZ) K Q) {f : Nat → Int32} {g : Nat → Nat → Int32} {x1 : Int32} {x2 : Int32} {x3 : Int32} (hh : wpX11_laySuspects_b0 f g x1 x2 x3 K) {H : Heap} {locs : List Loc} {ls : Array Slot} (hw : Wd D A s (mT cI cZ) (mW o h cI cZ f g) H locs) (hl : lv_has ls 8 [(0, .ref o), (1, .int x1), (2, .int x2), (3, .int x3)]) : W p l e rmX11_laySuspects s m args below meth c H locs 0 0 Q (F0 m 0 ls []) := by
  unfold wpX11_laySuspects_b0 at hh
  refine lv_aload_n C.1 C.2.1 dX11_laySuspects_0 rfl (lv_at hl 0 rfl) ?_
  refine m_gi C hw (inC inW11) 49 (by decide) (wc w_1511) mg_49 (x := f 49) rfl dX11_laySuspects_1 ?_
  refine lv_istore (lv' := [(4, .int (f 49)), (0, .ref o), (1, .int x1), (2, .int x2), (3, .int x3)]) C.1 C.2.1 dX11_laySuspects_4 hl (by decide) rfl (fun ls hl => ?_)
  refine lv_aload_n C.1 C.2.1 dX11_laySuspects_6 rfl (lv_at hl 1 rfl) ?_
  refine m_gi C hw (inC inW11) 50 (by decide) (wc w_1512) mg_50 (x := f 50) rfl dX11_laySuspects_7 ?_
  refine lv_istore (lv' := [(5, .int (f 50)), (4, .int (f 49)), (0, .ref o), (1, .int x1), (2, .int x2), (3, .int x3)]) C.1 C.2.1 dX11_laySuspects_10 hl (by decide) rfl (fun ls hl => ?_)
  refine lv_aload_n C.1 C.2.1 dX11_laySuspects_12 rfl (lv_at hl 2 rfl) ?_
  refine lv_iload_n C.1 C.2.1 dX11_laySuspects_13 rfl (lv_at hl 3 rfl) ?_
  refine m_Vv C hw (ctX11_layLike l D o h cI cZ f g x1 hh) (cwV 1 C.2.2.2.2 (gd_V w_2033 w_2035 w_110 w_125 w_2036) rfl rfl rfl cdX11_layLike ⟨Nat.le_of_ble_eq_true rfl, Nat.le_of_ble_eq_true rfl⟩) rfl hl.1 (Nat.le_of_ble_eq_true rfl) dX11_laySuspects_14 ⟨Nat.zero_le _, Nat.zero_le _⟩ (fun u14 H locs hh hw => ?_) rfl
  refine lv_aload_n C.1 C.2.1 dX11_laySuspects_17 rfl (lv_at hl 2 rfl) ?_
  refine lv_iconst (v := (0 : Int32)) C.1 C.2.1 dX11_laySuspects_18 (by decide) ?_
  refine m_pi C hw (inC inW11) 72 (by decide) (wc w_1534) rfl (ty := .int) (by decide +kernel) rfl rfl (Nat.le_of_ble_eq_true rfl) ms_72 dX11_laySuspects_19 (fun H locs hw => ?_)
  refine lv_aload_n C.1 C.2.1 dX11_laySuspects_22 rfl (lv_at hl 2 rfl) ?_
  refine lv_iconst (v := (0 : Int32)) C.1 C.2.1 dX11_laySuspects_23 (by decide) ?_
  refine m_pi C hw (inC inW11) 73 (by decide) (wc w_1535) rfl (ty := .int) (by decide +kernel) rfl rfl (Nat.le_of_ble_eq_true rfl) ms_73 dX11_laySuspects_24 (fun H locs hw => ?_)
  refine lv_iconst (v := (0 : Int32)) C.1 C.2.1 dX11_laySuspects_27 (by decide) ?_
  refine lv_istore (lv' := [(6, .int (0 : Int32)), (5, .int (f 50)), (4, .int (f 49)), (0, .ref o), (1, .int x1), (2, .int x2), (3, .int x3)]) C.1 C.2.1 dX11_laySuspects_28 hl (by decide) rfl (fun ls hl => ?_)
  obtain ⟨n, hh⟩ := hh
  exact tX11_laySuspects_b30 C hR n _ _ _ _ _ _ _ _ _ _ _ hh hw (lv_sub hl [3, 4, 5, 6, 2, 1, 0] rfl)
theorem ctX11_laySuspects (l : Launch) (D : va_G) (o : Nat) (h : Nat → Nat) (cI cZ : ClassId) (f : Nat → Int32) (g : Nat → Nat → Int32) (x1 : Int32) (x2 : Int32) (x3 : Int32) {K : ((Nat → Int32) × (Nat → Nat → Int32)) → Prop} (hh : wpX11_laySuspects f g x1 x2 x3 K) : Cv l yX11_laySuspects wsX11_laySuspects rmX11_laySuspects [.ref o, .int x1, .int x2, .int x3] D (mT cI cZ) (mWu o h cI cZ) (f, g) K := by
  refine Cv_of (cc := cX11_laySuspects) (maxL := 8) (by decide) rfl (Nat.le_of_ble_eq_true rfl) ?_
  intro p e s m below meth c A Q C hw hR ls hl
  exact tX11_laySuspects_b0 C hR hh hw hl
theorem cdX11_laySuspects : yX11_laySuspects.cls = RX11 ∧ yX11_laySuspects.cls ≠ "java/lang/invoke/MethodHandle" ∧ yX11_laySuspects.cls ≠ "java/lang/invoke/VarHandle" ∧ (parseMethodDescriptor yX11_laySuspects.desc).map (fun d => d.parameters.length) = some 3 := by decide +kernel
abbrev rmX11_isSound : Room := { frames := 5, cells := 0, slots := 0, locals := 111 }
set_option maxHeartbeats 4000000 in
set_option maxRecDepth 100000 in
theorem tX11_isSound_b0 {K : Int32 → ((Nat → Int32) × (Nat → Nat → Int32)) → Prop} (C : CallFix p m c cX11_isSound 5 s args wsX11_isSound RX11) (hR : Rti .boolean p l e rmX11_isSound s m args below meth c cX11_isSound D A (mT cI cZ) (mWu o h cI cZ) K Q) {f : Nat → Int32} {g : Nat → Nat → Int32} {x1 : Int32} (hh : wpX11_isSound_b0 f g x1 K) {H : Heap} {locs : List Loc} {ls : Array Slot} (hw : Wd D A s (mT cI cZ) (mW o h cI cZ f g) H locs) (hl : lv_has ls 5 [(0, .ref o), (1, .int x1)]) : W p l e rmX11_isSound s m args below meth c H locs 0 0 Q (F0 m 0 ls []) := by
  unfold wpX11_isSound_b0 at hh
  refine lv_aload_n C.1 C.2.1 dX11_isSound_0 rfl (lv_at hl 0 rfl) ?_
  refine m_gi C hw (inC inW11) 49 (by decide) (wc w_1511) mg_49 (x := f 49) rfl dX11_isSound_1 ?_
  refine lv_istore_n (lv' := [(2, .int (f 49)), (0, .ref o), (1, .int x1)]) C.1 C.2.1 dX11_isSound_4 rfl hl (by decide) rfl (fun ls hl => ?_)
  refine lv_aload_n C.1 C.2.1 dX11_isSound_5 rfl (lv_at hl 1 rfl) ?_
  refine m_gi C hw (inC inW11) 50 (by decide) (wc w_1512) mg_50 (x := f 50) rfl dX11_isSound_6 ?_
  refine lv_istore_n (lv' := [(3, .int (f 50)), (2, .int (f 49)), (0, .ref o), (1, .int x1)]) C.1 C.2.1 dX11_isSound_9 rfl hl (by decide) rfl (fun ls hl => ?_)
  refine lv_aload_n C.1 C.2.1 dX11_isSound_10 rfl (lv_at hl 2 rfl) ?_
  refine lv_iload_n C.1 C.2.1 dX11_isSound_11 rfl (lv_at hl 3 rfl) ?_
  refine m_Vv C hw (ctX11_layLike l D o h cI cZ f g x1 hh) (cwV 1 C.2.2.2.2 (gd_V w_2033 w_2035 w_110 w_125 w_2036) rfl rfl rfl cdX11_layLike ⟨Nat.le_of_ble_eq_true rfl, Nat.le_of_ble_eq_true rfl⟩) rfl hl.1 (Nat.le_of_ble_eq_true rfl) dX11_isSound_12 ⟨Nat.zero_le _, Nat.zero_le _⟩ (fun u12 H locs hh hw => ?_) rfl
  refine lv_aload_n C.1 C.2.1 dX11_isSound_15 rfl (lv_at hl 2 rfl) ?_
  refine lv_iconst (v := (0 : Int32)) C.1 C.2.1 dX11_isSound_16 (by decide) ?_
  refine m_pi C hw (inC inW11) 49 (by decide) (wc w_1511) rfl (ty := .int) (by decide +kernel) rfl rfl (Nat.le_of_ble_eq_true rfl) ms_49 dX11_isSound_17 (fun H locs hw => ?_)
  refine lv_aload_n C.1 C.2.1 dX11_isSound_20 rfl (lv_at hl 2 rfl) ?_
  refine lv_iconst (v := (0 : Int32)) C.1 C.2.1 dX11_isSound_21 (by decide) ?_
  refine m_pi C hw (inC inW11) 50 (by decide) (wc w_1512) rfl (ty := .int) (by decide +kernel) rfl rfl (Nat.le_of_ble_eq_true rfl) ms_50 dX11_isSound_22 (fun H locs hw => ?_)
  refine lv_aload_n C.1 C.2.1 dX11_isSound_25 rfl (lv_at hl 2 rfl) ?_
  refine lv_iload_n C.1 C.2.1 dX11_isSound_26 rfl (lv_at hl 3 rfl) ?_
  refine m_Vi C hw (ctX11_isLike l D o h cI cZ (upd (upd u12.1 49 (0 : Int32)) 50 (0 : Int32)) u12.2 x1 hh) (cwV 1 C.2.2.2.2 (gd_V w_2037 w_2039 w_111 w_125 w_2040) rfl rfl rfl cdX11_isLike ⟨Nat.le_of_ble_eq_true rfl, Nat.le_of_ble_eq_true rfl⟩) rfl hl.1 (Nat.le_of_ble_eq_true rfl) dX11_isSound_27 ⟨Nat.zero_le _, Nat.zero_le _⟩ (fun r27 u27 H locs hh hw => ?_) rfl
  refine lv_istore (lv' := [(4, .int r27), (3, .int (f 50)), (2, .int (f 49)), (0, .ref o), (1, .int x1)]) C.1 C.2.1 dX11_isSound_30 hl (by decide) rfl (fun ls hl => ?_)
  refine lv_aload_n C.1 C.2.1 dX11_isSound_32 rfl (lv_at hl 3 rfl) ?_
  refine lv_iload_n C.1 C.2.1 dX11_isSound_33 rfl (lv_at hl 2 rfl) ?_
  refine m_pi C hw (inC inW11) 49 (by decide) (wc w_1511) rfl (ty := .int) (by decide +kernel) rfl rfl (Nat.le_of_ble_eq_true rfl) ms_49 dX11_isSound_34 (fun H locs hw => ?_)
  refine lv_aload_n C.1 C.2.1 dX11_isSound_37 rfl (lv_at hl 3 rfl) ?_
  refine lv_iload_n C.1 C.2.1 dX11_isSound_38 rfl (lv_at hl 1 rfl) ?_
  refine m_pi C hw (inC inW11) 50 (by decide) (wc w_1512) rfl (ty := .int) (by decide +kernel) rfl rfl (Nat.le_of_ble_eq_true rfl) ms_50 dX11_isSound_39 (fun H locs hw => ?_)
  refine lv_aload_n C.1 C.2.1 dX11_isSound_42 rfl (lv_at hl 3 rfl) ?_
  refine lv_iconst (v := (4 : Int32)) C.1 C.2.1 dX11_isSound_43 (by decide) ?_
  refine m_Vv C hw (ctX11_takes l D o h cI cZ (upd (upd u27.1 49 (f 49)) 50 (f 50)) u27.2 (4 : Int32) hh) (cwV 1 C.2.2.2.2 (gd_V w_1902 w_1904 w_92 w_125 w_1905) rfl rfl rfl cdX11_takes ⟨Nat.le_of_ble_eq_true rfl, Nat.le_of_ble_eq_true rfl⟩) rfl hl.1 (Nat.le_of_ble_eq_true rfl) dX11_isSound_44 ⟨Nat.zero_le _, Nat.zero_le _⟩ (fun u44 H locs hh hw => ?_) rfl
  refine lv_iload C.1 C.2.1 dX11_isSound_47 (lv_at hl 0 rfl) ?_
  obtain ⟨hb49, hh⟩ := hh
  exact hR _ _ _ (u44.1, u44.2) _ _ dX11_isSound_49 (isB_nar hb49) hh hw
theorem ctX11_isSound (l : Launch) (D : va_G) (o : Nat) (h : Nat → Nat) (cI cZ : ClassId) (f : Nat → Int32) (g : Nat → Nat → Int32) (x1 : Int32) {K : Int32 → ((Nat → Int32) × (Nat → Nat → Int32)) → Prop} (hh : wpX11_isSound f g x1 K) : Ci l yX11_isSound wsX11_isSound rmX11_isSound [.ref o, .int x1] D (mT cI cZ) (mWu o h cI cZ) (f, g) K := by
  refine Ci_of (cc := cX11_isSound) (maxL := 5) (by decide) rfl (Nat.le_of_ble_eq_true rfl) ?_
  intro p e s m below meth c A Q C hw hR ls hl
  exact tX11_isSound_b0 C hR hh hw hl
theorem cdX11_isSound : yX11_isSound.cls = RX11 ∧ yX11_isSound.cls ≠ "java/lang/invoke/MethodHandle" ∧ yX11_isSound.cls ≠ "java/lang/invoke/VarHandle" ∧ (parseMethodDescriptor yX11_isSound.desc).map (fun d => d.parameters.length) = some 1 := by decide +kernel
abbrev rmX11_suspect : Room := { frames := 6, cells := 0, slots := 0, locals := 138 }
set_option maxHeartbeats 4000000 in
set_option maxRecDepth 100000 in
theorem tX11_suspect_b47 {K : ((Nat → Int32) × (Nat → Nat → Int32)) → Prop} (C : CallFix p m c cX11_suspect 2 s args wsX11_suspect RX11) (hR : Rtv p l e rmX11_suspect s m args below meth c cX11_suspect D A (mT cI cZ) (mWu o h cI cZ) K Q) {f : Nat → Int32} {g : Nat → Nat → Int32} (hh : wpX11_suspect_b47 f g K) {H : Heap} {locs : List Loc} {ls : Array Slot} (hw : Wd D A s (mT cI cZ) (mW o h cI cZ f g) H locs) (hl : lv_has ls 2 [(0, .ref o)]) : W p l e rmX11_suspect s m args below meth c H locs 0 0 Q (F0 m 47 ls []) := by
  unfold wpX11_suspect_b47 at hh
  exact hR _ _ (f, g) _ _ dX11_suspect_47 hh hw
set_option maxHeartbeats 4000000 in
set_option maxRecDepth 100000 in
theorem tX11_suspect_b0 {K : ((Nat → Int32) × (Nat → Nat → Int32)) → Prop} (C : CallFix p m c cX11_suspect 2 s args wsX11_suspect RX11) (hR : Rtv p l e rmX11_suspect s m args below meth c cX11_suspect D A (mT cI cZ) (mWu o h cI cZ) K Q) {f : Nat → Int32} {g : Nat → Nat → Int32} {x1 : Int32} (hh : wpX11_suspect_b0 f g x1 K) {H : Heap} {locs : List Loc} {ls : Array Slot} (hw : Wd D A s (mT cI cZ) (mW o h cI cZ f g) H locs) (hl : lv_has ls 2 [(0, .ref o), (1, .int x1)]) : W p l e rmX11_suspect s m args below meth c H locs 0 0 Q (F0 m 0 ls []) := by
  unfold wpX11_suspect_b0 at hh
  refine lv_aload_n C.1 C.2.1 dX11_suspect_0 rfl (lv_at hl 0 rfl) ?_
  refine lv_iconst (v := (4 : Int32)) C.1 C.2.1 dX11_suspect_1 (by decide) ?_
  refine m_Vv C hw (ctX11_puts l D o h cI cZ f g (4 : Int32) hh) (cwV 1 C.2.2.2.2 (gd_V w_1894 w_1896 w_91 w_125 w_1897) rfl rfl rfl cdX11_puts ⟨Nat.le_of_ble_eq_true rfl, Nat.le_of_ble_eq_true rfl⟩) rfl hl.1 (Nat.le_of_ble_eq_true rfl) dX11_suspect_2 ⟨Nat.zero_le _, Nat.zero_le _⟩ (fun u2 H locs hh hw => ?_) rfl
  refine lv_aload_n C.1 C.2.1 dX11_suspect_5 rfl (lv_at hl 0 rfl) ?_
  refine lv_iload_n C.1 C.2.1 dX11_suspect_6 rfl (lv_at hl 1 rfl) ?_
  refine m_Vi C hw (ctX11_isSound l D o h cI cZ u2.1 u2.2 x1 hh) (cwV 1 C.2.2.2.2 (gd_V w_2029 w_2031 w_109 w_125 w_2032) rfl rfl rfl cdX11_isSound ⟨Nat.le_of_ble_eq_true rfl, Nat.le_of_ble_eq_true rfl⟩) rfl hl.1 (Nat.le_of_ble_eq_true rfl) dX11_suspect_7 ⟨Nat.zero_le _, Nat.zero_le _⟩ (fun r7 u7 H locs hh hw => ?_) rfl
  refine lv_if_eq (tgt := 26) C.1 C.2.1 dX11_suspect_10 (by decide) (fun c10 => ?_) (fun c10 => ?_)
  · replace hh := hh.1 c10
    refine lv_aload_n C.1 C.2.1 dX11_suspect_26 rfl (lv_at hl 0 rfl) ?_
    refine lv_iload_n C.1 C.2.1 dX11_suspect_27 rfl (lv_at hl 1 rfl) ?_
    refine lv_iconst (v := (1 : Int32)) C.1 C.2.1 dX11_suspect_28 (by decide) ?_
    refine lv_aload_n C.1 C.2.1 dX11_suspect_29 rfl (lv_at hl 0 rfl) ?_
    refine m_gi C hw (inC inW11) 20 (by decide) (wc w_1482) mg_20 (x := u7.1 20) rfl dX11_suspect_30 ?_
    refine g_ishl C dX11_suspect_33 ?_
    refine lv_iconst (v := (1 : Int32)) C.1 C.2.1 dX11_suspect_34 (by decide) ?_
    refine lv_isub C.1 C.2.1 dX11_suspect_35 ?_
    refine lv_iconst (v := (1 : Int32)) C.1 C.2.1 dX11_suspect_36 (by decide) ?_
    refine lv_aload_n C.1 C.2.1 dX11_suspect_37 rfl (lv_at hl 0 rfl) ?_
    refine m_gi C hw (inC inW11) 20 (by decide) (wc w_1482) mg_20 (x := u7.1 20) rfl dX11_suspect_38 ?_
    refine g_ishl C dX11_suspect_41 ?_
    refine lv_iconst (v := (1 : Int32)) C.1 C.2.1 dX11_suspect_42 (by decide) ?_
    refine lv_isub C.1 C.2.1 dX11_suspect_43 ?_
    refine m_Vv C hw (ctX11_laySuspects l D o h cI cZ u7.1 u7.2 x1 ((jshl (1 : Int32) (u7.1 20)) - (1 : Int32)) ((jshl (1 : Int32) (u7.1 20)) - (1 : Int32)) hh) (cwV 3 C.2.2.2.2 (gd_V w_2041 w_2043 w_112 w_125 w_2044) rfl rfl rfl cdX11_laySuspects ⟨Nat.le_of_ble_eq_true rfl, Nat.le_of_ble_eq_true rfl⟩) rfl hl.1 (Nat.le_of_ble_eq_true rfl) dX11_suspect_44 ⟨Nat.zero_le _, Nat.zero_le _⟩ (fun u44 H locs hh hw => ?_) rfl
    exact tX11_suspect_b47 C hR hh hw (lv_sub hl [0] rfl)
  · replace hh := hh.2 c10
    refine lv_aload_n C.1 C.2.1 dX11_suspect_13 rfl (lv_at hl 0 rfl) ?_
    refine lv_iconst (v := (0 : Int32)) C.1 C.2.1 dX11_suspect_14 (by decide) ?_
    refine m_pi C hw (inC inW11) 72 (by decide) (wc w_1534) rfl (ty := .int) (by decide +kernel) rfl rfl (Nat.le_of_ble_eq_true rfl) ms_72 dX11_suspect_15 (fun H locs hw => ?_)
    refine lv_aload_n C.1 C.2.1 dX11_suspect_18 rfl (lv_at hl 0 rfl) ?_
    refine lv_iconst (v := (0 : Int32)) C.1 C.2.1 dX11_suspect_19 (by decide) ?_
    refine m_pi C hw (inC inW11) 73 (by decide) (wc w_1535) rfl (ty := .int) (by decide +kernel) rfl rfl (Nat.le_of_ble_eq_true rfl) ms_73 dX11_suspect_20 (fun H locs hw => ?_)
    refine lv_goto (tgt := 47) C.1 C.2.1 dX11_suspect_23 (by decide) ?_
    exact tX11_suspect_b47 C hR hh hw (lv_sub hl [0] rfl)
theorem ctX11_suspect (l : Launch) (D : va_G) (o : Nat) (h : Nat → Nat) (cI cZ : ClassId) (f : Nat → Int32) (g : Nat → Nat → Int32) (x1 : Int32) {K : ((Nat → Int32) × (Nat → Nat → Int32)) → Prop} (hh : wpX11_suspect f g x1 K) : Cv l yX11_suspect wsX11_suspect rmX11_suspect [.ref o, .int x1] D (mT cI cZ) (mWu o h cI cZ) (f, g) K := by
  refine Cv_of (cc := cX11_suspect) (maxL := 2) (by decide) rfl (Nat.le_of_ble_eq_true rfl) ?_
  intro p e s m below meth c A Q C hw hR ls hl
  exact tX11_suspect_b0 C hR hh hw hl
theorem cdX11_suspect : yX11_suspect.cls = RX11 ∧ yX11_suspect.cls ≠ "java/lang/invoke/MethodHandle" ∧ yX11_suspect.cls ≠ "java/lang/invoke/VarHandle" ∧ (parseMethodDescriptor yX11_suspect.desc).map (fun d => d.parameters.length) = some 1 := by decide +kernel
abbrev rmX11_suspects : Room := { frames := 7, cells := 0, slots := 0, locals := 159 }
set_option maxHeartbeats 4000000 in
set_option maxRecDepth 100000 in
theorem tX11_suspects_b25 {K : Int32 → ((Nat → Int32) × (Nat → Nat → Int32)) → Prop} (C : CallFix p m c cX11_suspects 3 s args wsX11_suspects RX11) (hR : Rti .int p l e rmX11_suspects s m args below meth c cX11_suspects D A (mT cI cZ) (mWu o h cI cZ) K Q) {f : Nat → Int32} {g : Nat → Nat → Int32} (hh : wpX11_suspects_b25 f g K) {H : Heap} {locs : List Loc} {ls : Array Slot} (hw : Wd D A s (mT cI cZ) (mW o h cI cZ f g) H locs) (hl : lv_has ls 3 [(0, .ref o)]) : W p l e rmX11_suspects s m args below meth c H locs 0 0 Q (F0 m 25 ls []) := by
  unfold wpX11_suspects_b25 at hh
  refine lv_iconst (v := (-1 : Int32)) C.1 C.2.1 dX11_suspects_25 (by decide) ?_
  exact hR _ _ _ (f, g) _ _ dX11_suspects_26 rfl hh hw
set_option maxHeartbeats 4000000 in
set_option maxRecDepth 100000 in
theorem tX11_suspects_b47 {K : Int32 → ((Nat → Int32) × (Nat → Nat → Int32)) → Prop} (C : CallFix p m c cX11_suspects 3 s args wsX11_suspects RX11) (hR : Rti .int p l e rmX11_suspects s m args below meth c cX11_suspects D A (mT cI cZ) (mWu o h cI cZ) K Q) {f : Nat → Int32} {g : Nat → Nat → Int32} {k0 : Int32} (hh : wpX11_suspects_b47 f g k0 K) {H : Heap} {locs : List Loc} {ls : Array Slot} (hw : Wd D A s (mT cI cZ) (mW o h cI cZ f g) H locs) (hl : lv_has ls 3 [(0, .ref o)]) : W p l e rmX11_suspects s m args below meth c H locs 0 0 Q (F0 m 47 ls [.int k0]) := by
  unfold wpX11_suspects_b47 at hh
  exact hR _ _ _ (f, g) _ _ dX11_suspects_47 rfl hh hw
set_option maxHeartbeats 4000000 in
set_option maxRecDepth 100000 in
theorem tX11_suspects_b0 {K : Int32 → ((Nat → Int32) × (Nat → Nat → Int32)) → Prop} (C : CallFix p m c cX11_suspects 3 s args wsX11_suspects RX11) (hR : Rti .int p l e rmX11_suspects s m args below meth c cX11_suspects D A (mT cI cZ) (mWu o h cI cZ) K Q) {f : Nat → Int32} {g : Nat → Nat → Int32} {x1 : Int32} {x2 : Int32} (hh : wpX11_suspects_b0 f g x1 x2 K) {H : Heap} {locs : List Loc} {ls : Array Slot} (hw : Wd D A s (mT cI cZ) (mW o h cI cZ f g) H locs) (hl : lv_has ls 3 [(0, .ref o), (1, .int x1), (2, .int x2)]) : W p l e rmX11_suspects s m args below meth c H locs 0 0 Q (F0 m 0 ls []) := by
  unfold wpX11_suspects_b0 at hh
  refine lv_aload_n C.1 C.2.1 dX11_suspects_0 rfl (lv_at hl 0 rfl) ?_
  refine lv_iconst (v := (0 : Int32)) C.1 C.2.1 dX11_suspects_1 (by decide) ?_
  refine m_pi C hw (inC inW11) 2 (by decide) (wc w_1464) rfl (ty := .int) (by decide +kernel) rfl rfl (Nat.le_of_ble_eq_true rfl) ms_2 dX11_suspects_2 (fun H locs hw => ?_)
  refine lv_iload_n C.1 C.2.1 dX11_suspects_5 rfl (lv_at hl 1 rfl) ?_
  refine lv_iconst (v := (1 : Int32)) C.1 C.2.1 dX11_suspects_6 (by decide) ?_
  refine lv_sipush (v := (500 : Int32)) C.1 C.2.1 dX11_suspects_7 (by decide) ?_
  refine wd_Si C hw (ctX11_isIn l D x1 (1 : Int32) (500 : Int32) hh) (va_cwS 3 C.2.2.2.2 (gd_S w_1804 w_1805 (ini_cls rfl w_125) w_1806) rfl rfl rfl cdX11_isIn ⟨Nat.le_of_ble_eq_true rfl, Nat.le_of_ble_eq_true rfl⟩) rfl hl.1 (Nat.le_of_ble_eq_true rfl) dX11_suspects_10 ⟨Nat.zero_le _, Nat.zero_le _⟩ (fun r10 H locs hh hw => ?_) rfl
  refine lv_if_eq (tgt := 25) C.1 C.2.1 dX11_suspects_13 (by decide) (fun c13 => ?_) (fun c13 => ?_)
  · replace hh := hh.1 c13
    exact tX11_suspects_b25 C hR hh hw (lv_sub hl [0] rfl)
  · replace hh := hh.2 c13
    refine lv_iload_n C.1 C.2.1 dX11_suspects_16 rfl (lv_at hl 2 rfl) ?_
    refine lv_iconst (v := (0 : Int32)) C.1 C.2.1 dX11_suspects_17 (by decide) ?_
    refine lv_iconst (v := (1 : Int32)) C.1 C.2.1 dX11_suspects_18 (by decide) ?_
    refine wd_Si C hw (ctX11_isIn l D x2 (0 : Int32) (1 : Int32) hh) (va_cwS 3 C.2.2.2.2 (gd_S w_1804 w_1805 (ini_cls rfl w_125) w_1806) rfl rfl rfl cdX11_isIn ⟨Nat.le_of_ble_eq_true rfl, Nat.le_of_ble_eq_true rfl⟩) rfl hl.1 (Nat.le_of_ble_eq_true rfl) dX11_suspects_19 ⟨Nat.zero_le _, Nat.zero_le _⟩ (fun r19 H locs hh hw => ?_) rfl
    refine lv_if_ne (tgt := 27) C.1 C.2.1 dX11_suspects_22 (by decide) (fun c22 => ?_) (fun c22 => ?_)
    · replace hh := hh.1 c22
      refine lv_aload_n C.1 C.2.1 dX11_suspects_27 rfl (lv_at hl 0 rfl) ?_
      refine lv_iload_n C.1 C.2.1 dX11_suspects_28 rfl (lv_at hl 1 rfl) ?_
      refine m_Vv C hw (ctX11_suspect l D o h cI cZ (upd f 2 (0 : Int32)) g x1 hh) (cwV 1 C.2.2.2.2 (gd_V w_2025 w_2027 w_108 w_125 w_2028) rfl rfl rfl cdX11_suspect ⟨Nat.le_of_ble_eq_true rfl, Nat.le_of_ble_eq_true rfl⟩) rfl hl.1 (Nat.le_of_ble_eq_true rfl) dX11_suspects_29 ⟨Nat.zero_le _, Nat.zero_le _⟩ (fun u29 H locs hh hw => ?_) rfl
      refine lv_iload_n C.1 C.2.1 dX11_suspects_32 rfl (lv_at hl 2 rfl) ?_
      refine lv_if_ne (tgt := 43) C.1 C.2.1 dX11_suspects_33 (by decide) (fun c33 => ?_) (fun c33 => ?_)
      · replace hh := hh.1 c33
        refine lv_aload_n C.1 C.2.1 dX11_suspects_43 rfl (lv_at hl 0 rfl) ?_
        refine m_gi C hw (inC inW11) 73 (by decide) (wc w_1535) mg_73 (x := u29.1 73) rfl dX11_suspects_44 ?_
        exact tX11_suspects_b47 C hR hh hw (lv_sub hl [0] rfl)
      · replace hh := hh.2 c33
        refine lv_aload_n C.1 C.2.1 dX11_suspects_36 rfl (lv_at hl 0 rfl) ?_
        refine m_gi C hw (inC inW11) 72 (by decide) (wc w_1534) mg_72 (x := u29.1 72) rfl dX11_suspects_37 ?_
        refine lv_goto (tgt := 47) C.1 C.2.1 dX11_suspects_40 (by decide) ?_
        exact tX11_suspects_b47 C hR hh hw (lv_sub hl [0] rfl)
    · replace hh := hh.2 c22
      exact tX11_suspects_b25 C hR hh hw (lv_sub hl [0] rfl)
theorem ctX11_suspects (l : Launch) (D : va_G) (o : Nat) (h : Nat → Nat) (cI cZ : ClassId) (f : Nat → Int32) (g : Nat → Nat → Int32) (x1 : Int32) (x2 : Int32) {K : Int32 → ((Nat → Int32) × (Nat → Nat → Int32)) → Prop} (hh : wpX11_suspects f g x1 x2 K) : Ci l yX11_suspects wsX11_suspects rmX11_suspects [.ref o, .int x1, .int x2] D (mT cI cZ) (mWu o h cI cZ) (f, g) K := by
  refine Ci_of (cc := cX11_suspects) (maxL := 3) (by decide) rfl (Nat.le_of_ble_eq_true rfl) ?_
  intro p e s m below meth c A Q C hw hR ls hl
  exact tX11_suspects_b0 C hR hh hw hl
theorem cdX11_suspects : yX11_suspects.cls = RX11 ∧ yX11_suspects.cls ≠ "java/lang/invoke/MethodHandle" ∧ yX11_suspects.cls ≠ "java/lang/invoke/VarHandle" ∧ (parseMethodDescriptor yX11_suspects.desc).map (fun d => d.parameters.length) = some 2 := by decide +kernel
abbrev rmX11_manyOf : Room := { frames := 0, cells := 0, slots := 0, locals := 0 }
set_option maxHeartbeats 4000000 in
set_option maxRecDepth 100000 in
theorem tX11_manyOf_b4_body {B4 : Int32 → Int32 → Int32 → Prop} {K : Int32 → Unit → Prop} (C : CallFix p m c cX11_manyOf 3 s args wsX11_manyOf RX11) (hR : Rti .int p l e rmX11_manyOf s m args below meth c cX11_manyOf D A [] (fun _ : Unit => []) K Q) (hB4 : ∀  (x0 : Int32) (x1 : Int32) (x2 : Int32) (H : Heap) (locs : List Loc) (ls : Array Slot), B4 x0 x1 x2 → Wd D A s [] [] H locs → lv_has ls 3 [(0, .int x0), (1, .int x1), (2, .int x2)] → W p l e rmX11_manyOf s m args below meth c H locs 0 0 Q (F0 m 4 ls [])) {x0 : Int32} {x1 : Int32} {x2 : Int32} (hh : wpX11_manyOf_b4_body B4 x0 x1 x2 K) {H : Heap} {locs : List Loc} {ls : Array Slot} (hw : Wd D A s [] [] H locs) (hl : lv_has ls 3 [(0, .int x0), (1, .int x1), (2, .int x2)]) : W p l e rmX11_manyOf s m args below meth c H locs 0 0 Q (F0 m 4 ls []) := by
  unfold wpX11_manyOf_b4_body at hh
  refine lv_iload_n C.1 C.2.1 dX11_manyOf_4 rfl (lv_at hl 2 rfl) ?_
  refine lv_bipush (v := (20 : Int32)) C.1 C.2.1 dX11_manyOf_5 (by decide) ?_
  refine lv_icmp_ge (tgt := 24) C.1 C.2.1 dX11_manyOf_7 (by decide) (fun c7 => ?_) (fun c7 => ?_)
  · replace hh := hh.1 c7
    refine lv_iload_n C.1 C.2.1 dX11_manyOf_24 rfl (lv_at hl 1 rfl) ?_
    exact hR _ _ _ () _ _ dX11_manyOf_25 rfl hh hw
  · replace hh := hh.2 c7
    refine lv_iload_n C.1 C.2.1 dX11_manyOf_10 rfl (lv_at hl 1 rfl) ?_
    refine lv_iload_n C.1 C.2.1 dX11_manyOf_11 rfl (lv_at hl 0 rfl) ?_
    refine lv_iload_n C.1 C.2.1 dX11_manyOf_12 rfl (lv_at hl 2 rfl) ?_
    refine g_ishr C dX11_manyOf_13 ?_
    refine lv_iconst (v := (1 : Int32)) C.1 C.2.1 dX11_manyOf_14 (by decide) ?_
    refine lv_iand C.1 C.2.1 dX11_manyOf_15 ?_
    refine lv_iadd C.1 C.2.1 dX11_manyOf_16 ?_
    refine lv_istore_n (lv' := [(1, .int (x1 + ((jshr x0 x2) &&& (1 : Int32)))), (0, .int x0), (2, .int x2)]) C.1 C.2.1 dX11_manyOf_17 rfl hl (by decide) rfl (fun ls hl => ?_)
    refine lv_iinc (v := x2 + (1 : Int32)) (lv' := [(2, .int (x2 + (1 : Int32))), (1, .int (x1 + ((jshr x0 x2) &&& (1 : Int32)))), (0, .int x0)]) C.1 C.2.1 dX11_manyOf_18 hl (k := 2) rfl rfl (by decide) rfl (fun ls hl => ?_)
    refine lv_goto (tgt := 4) C.1 C.2.1 dX11_manyOf_21 (by decide) ?_
    exact hB4 _ _ _ _ _ _ hh hw (lv_sub hl [2, 1, 0] rfl)
theorem tX11_manyOf_b4 {K : Int32 → Unit → Prop} (C : CallFix p m c cX11_manyOf 3 s args wsX11_manyOf RX11) (hR : Rti .int p l e rmX11_manyOf s m args below meth c cX11_manyOf D A [] (fun _ : Unit => []) K Q) (n : Nat) : ∀ (x0 : Int32) (x1 : Int32) (x2 : Int32) (H : Heap) (locs : List Loc) (ls : Array Slot), wpX11_manyOf_b4 n x0 x1 x2 K → Wd D A s [] [] H locs → lv_has ls 3 [(0, .int x0), (1, .int x1), (2, .int x2)] → W p l e rmX11_manyOf s m args below meth c H locs 0 0 Q (F0 m 4 ls []) := by
  induction n with
  | zero => intro x0 x1 x2 H locs ls hh; exact hh.elim
  | succ n ih => intro x0 x1 x2 H locs ls hh hw hl; exact tX11_manyOf_b4_body C hR ih hh hw hl
set_option maxHeartbeats 4000000 in
set_option maxRecDepth 100000 in
theorem tX11_manyOf_b0 {K : Int32 → Unit → Prop} (C : CallFix p m c cX11_manyOf 3 s args wsX11_manyOf RX11) (hR : Rti .int p l e rmX11_manyOf s m args below meth c cX11_manyOf D A [] (fun _ : Unit => []) K Q) {x0 : Int32} (hh : wpX11_manyOf_b0 x0 K) {H : Heap} {locs : List Loc} {ls : Array Slot} (hw : Wd D A s [] [] H locs) (hl : lv_has ls 3 [(0, .int x0)]) : W p l e rmX11_manyOf s m args below meth c H locs 0 0 Q (F0 m 0 ls []) := by
  unfold wpX11_manyOf_b0 at hh
  refine lv_iconst (v := (0 : Int32)) C.1 C.2.1 dX11_manyOf_0 (by decide) ?_
  refine lv_istore_n (lv' := [(1, .int (0 : Int32)), (0, .int x0)]) C.1 C.2.1 dX11_manyOf_1 rfl hl (by decide) rfl (fun ls hl => ?_)
  refine lv_iconst (v := (0 : Int32)) C.1 C.2.1 dX11_manyOf_2 (by decide) ?_
  refine lv_istore_n (lv' := [(2, .int (0 : Int32)), (1, .int (0 : Int32)), (0, .int x0)]) C.1 C.2.1 dX11_manyOf_3 rfl hl (by decide) rfl (fun ls hl => ?_)
  obtain ⟨n, hh⟩ := hh
  exact tX11_manyOf_b4 C hR n _ _ _ _ _ _ hh hw (lv_sub hl [2, 1, 0] rfl)
theorem ctX11_manyOf (l : Launch) (D : va_G) (x0 : Int32) {K : Int32 → Unit → Prop} (hh : wpX11_manyOf x0 K) : Ci l yX11_manyOf wsX11_manyOf rmX11_manyOf [.int x0] D [] (fun _ : Unit => []) () K := by
  refine Ci_of (cc := cX11_manyOf) (maxL := 3) (by decide) rfl (Nat.le_of_ble_eq_true rfl) ?_
  intro p e s m below meth c A Q C hw hR ls hl
  exact tX11_manyOf_b0 C hR hh hw hl
theorem cdX11_manyOf : yX11_manyOf.cls ≠ "java/lang/invoke/MethodHandle" ∧ yX11_manyOf.cls ≠ "java/lang/invoke/VarHandle" ∧ (parseMethodDescriptor yX11_manyOf.desc).map (fun d => d.parameters.length) = some 1 := by decide +kernel
abbrev rmX11_trial : Room := { frames := 7, cells := 0, slots := 0, locals := 159 }
set_option maxHeartbeats 4000000 in
set_option maxRecDepth 100000 in
theorem tX11_trial_b25 {K : Int32 → ((Nat → Int32) × (Nat → Nat → Int32)) → Prop} (C : CallFix p m c cX11_trial 11 s args wsX11_trial RX11) (hR : Rti .int p l e rmX11_trial s m args below meth c cX11_trial D A (mT cI cZ) (mWu o h cI cZ) K Q) {f : Nat → Int32} {g : Nat → Nat → Int32} (hh : wpX11_trial_b25 f g K) {H : Heap} {locs : List Loc} {ls : Array Slot} (hw : Wd D A s (mT cI cZ) (mW o h cI cZ f g) H locs) (hl : lv_has ls 11 [(0, .ref o)]) : W p l e rmX11_trial s m args below meth c H locs 0 0 Q (F0 m 25 ls []) := by
  unfold wpX11_trial_b25 at hh
  refine lv_iconst (v := (-1 : Int32)) C.1 C.2.1 dX11_trial_25 (by decide) ?_
  exact hR _ _ _ (f, g) _ _ dX11_trial_26 rfl hh hw
set_option maxHeartbeats 4000000 in
set_option maxRecDepth 100000 in
theorem tX11_trial_b221 {K : Int32 → ((Nat → Int32) × (Nat → Nat → Int32)) → Prop} (C : CallFix p m c cX11_trial 11 s args wsX11_trial RX11) (hR : Rti .int p l e rmX11_trial s m args below meth c cX11_trial D A (mT cI cZ) (mWu o h cI cZ) K Q) {f : Nat → Int32} {g : Nat → Nat → Int32} {k0 : Int32} (hh : wpX11_trial_b221 f g k0 K) {H : Heap} {locs : List Loc} {ls : Array Slot} (hw : Wd D A s (mT cI cZ) (mW o h cI cZ f g) H locs) (hl : lv_has ls 11 [(0, .ref o)]) : W p l e rmX11_trial s m args below meth c H locs 0 0 Q (F0 m 221 ls [.int k0]) := by
  unfold wpX11_trial_b221 at hh
  exact hR _ _ _ (f, g) _ _ dX11_trial_221 rfl hh hw
set_option maxHeartbeats 4000000 in
set_option maxRecDepth 100000 in
theorem tX11_trial_b204 {B68 : (Nat → Int32) → (Nat → Nat → Int32) → Int32 → Int32 → Int32 → Int32 → Int32 → Int32 → Int32 → Prop} {K : Int32 → ((Nat → Int32) × (Nat → Nat → Int32)) → Prop} (C : CallFix p m c cX11_trial 11 s args wsX11_trial RX11) (hR : Rti .int p l e rmX11_trial s m args below meth c cX11_trial D A (mT cI cZ) (mWu o h cI cZ) K Q) (hB68 : ∀ (f : Nat → Int32) (g : Nat → Nat → Int32) (x1 : Int32) (x2 : Int32) (x3 : Int32) (x4 : Int32) (x5 : Int32) (x6 : Int32) (x7 : Int32) (H : Heap) (locs : List Loc) (ls : Array Slot), B68 f g x1 x2 x3 x4 x5 x6 x7 → Wd D A s (mT cI cZ) (mW o h cI cZ f g) H locs → lv_has ls 11 [(0, .ref o), (1, .int x1), (2, .int x2), (3, .int x3), (4, .int x4), (5, .int x5), (6, .int x6), (7, .int x7)] → W p l e rmX11_trial s m args below meth c H locs 0 0 Q (F0 m 68 ls [])) {f : Nat → Int32} {g : Nat → Nat → Int32} {x1 : Int32} {x2 : Int32} {x3 : Int32} {x4 : Int32} {x5 : Int32} {x6 : Int32} {x7 : Int32} (hh : wpX11_trial_b204 B68 f g x1 x2 x3 x4 x5 x6 x7 K) {H : Heap} {locs : List Loc} {ls : Array Slot} (hw : Wd D A s (mT cI cZ) (mW o h cI cZ f g) H locs) (hl : lv_has ls 11 [(0, .ref o), (1, .int x1), (2, .int x2), (3, .int x3), (4, .int x4), (5, .int x5), (6, .int x6), (7, .int x7)]) : W p l e rmX11_trial s m args below meth c H locs 0 0 Q (F0 m 204 ls []) := by
  unfold wpX11_trial_b204 at hh
  refine lv_iinc (v := x7 + (1 : Int32)) (lv' := [(7, .int (x7 + (1 : Int32))), (0, .ref o), (1, .int x1), (2, .int x2), (3, .int x3), (4, .int x4), (5, .int x5), (6, .int x6)]) C.1 C.2.1 dX11_trial_204 hl (k := 7) rfl rfl (by decide) rfl (fun ls hl => ?_)
  refine lv_goto (tgt := 68) C.1 C.2.1 dX11_trial_207 (by decide) ?_
  exact hB68 _ _ _ _ _ _ _ _ _ _ _ _ hh hw (lv_sub hl [1, 2, 3, 4, 5, 6, 7, 0] rfl)
set_option maxHeartbeats 4000000 in
set_option maxRecDepth 100000 in
theorem tX11_trial_b196 {B68 : (Nat → Int32) → (Nat → Nat → Int32) → Int32 → Int32 → Int32 → Int32 → Int32 → Int32 → Int32 → Prop} {K : Int32 → ((Nat → Int32) × (Nat → Nat → Int32)) → Prop} (C : CallFix p m c cX11_trial 11 s args wsX11_trial RX11) (hR : Rti .int p l e rmX11_trial s m args below meth c cX11_trial D A (mT cI cZ) (mWu o h cI cZ) K Q) (hB68 : ∀ (f : Nat → Int32) (g : Nat → Nat → Int32) (x1 : Int32) (x2 : Int32) (x3 : Int32) (x4 : Int32) (x5 : Int32) (x6 : Int32) (x7 : Int32) (H : Heap) (locs : List Loc) (ls : Array Slot), B68 f g x1 x2 x3 x4 x5 x6 x7 → Wd D A s (mT cI cZ) (mW o h cI cZ f g) H locs → lv_has ls 11 [(0, .ref o), (1, .int x1), (2, .int x2), (3, .int x3), (4, .int x4), (5, .int x5), (6, .int x6), (7, .int x7)] → W p l e rmX11_trial s m args below meth c H locs 0 0 Q (F0 m 68 ls [])) {f : Nat → Int32} {g : Nat → Nat → Int32} {x1 : Int32} {x2 : Int32} {x3 : Int32} {x4 : Int32} {x7 : Int32} {x10 : Int32} (hh : wpX11_trial_b196 B68 f g x1 x2 x3 x4 x7 x10 K) {H : Heap} {locs : List Loc} {ls : Array Slot} (hw : Wd D A s (mT cI cZ) (mW o h cI cZ f g) H locs) (hl : lv_has ls 11 [(0, .ref o), (1, .int x1), (2, .int x2), (3, .int x3), (4, .int x4), (7, .int x7), (10, .int x10)]) : W p l e rmX11_trial s m args below meth c H locs 0 0 Q (F0 m 196 ls []) := by
  unfold wpX11_trial_b196 at hh
  refine lv_iload C.1 C.2.1 dX11_trial_196 (lv_at hl 5 rfl) ?_
  refine lv_istore (lv' := [(5, .int x7), (0, .ref o), (1, .int x1), (2, .int x2), (3, .int x3), (4, .int x4), (7, .int x7), (10, .int x10)]) C.1 C.2.1 dX11_trial_198 hl (by decide) rfl (fun ls hl => ?_)
  refine lv_iload C.1 C.2.1 dX11_trial_200 (lv_at hl 7 rfl) ?_
  refine lv_istore (lv' := [(6, .int x10), (5, .int x7), (0, .ref o), (1, .int x1), (2, .int x2), (3, .int x3), (4, .int x4), (7, .int x7), (10, .int x10)]) C.1 C.2.1 dX11_trial_202 hl (by decide) rfl (fun ls hl => ?_)
  exact tX11_trial_b204 C hR hB68 hh hw (lv_sub hl [2, 3, 4, 5, 6, 1, 0, 7] rfl)
set_option maxHeartbeats 4000000 in
set_option maxRecDepth 100000 in
theorem tX11_trial_b172 {B68 : (Nat → Int32) → (Nat → Nat → Int32) → Int32 → Int32 → Int32 → Int32 → Int32 → Int32 → Int32 → Prop} {K : Int32 → ((Nat → Int32) × (Nat → Nat → Int32)) → Prop} (C : CallFix p m c cX11_trial 11 s args wsX11_trial RX11) (hR : Rti .int p l e rmX11_trial s m args below meth c cX11_trial D A (mT cI cZ) (mWu o h cI cZ) K Q) (hB68 : ∀ (f : Nat → Int32) (g : Nat → Nat → Int32) (x1 : Int32) (x2 : Int32) (x3 : Int32) (x4 : Int32) (x5 : Int32) (x6 : Int32) (x7 : Int32) (H : Heap) (locs : List Loc) (ls : Array Slot), B68 f g x1 x2 x3 x4 x5 x6 x7 → Wd D A s (mT cI cZ) (mW o h cI cZ f g) H locs → lv_has ls 11 [(0, .ref o), (1, .int x1), (2, .int x2), (3, .int x3), (4, .int x4), (5, .int x5), (6, .int x6), (7, .int x7)] → W p l e rmX11_trial s m args below meth c H locs 0 0 Q (F0 m 68 ls [])) {f : Nat → Int32} {g : Nat → Nat → Int32} {k1 : Int32} {k2 : Int32} {k3 : Int32} {x1 : Int32} {x2 : Int32} {x3 : Int32} {x4 : Int32} {x5 : Int32} {x6 : Int32} {x7 : Int32} {x10 : Int32} (hh : wpX11_trial_b172 B68 f g k1 k2 k3 x1 x2 x3 x4 x5 x6 x7 x10 K) {H : Heap} {locs : List Loc} {ls : Array Slot} (hw : Wd D A s (mT cI cZ) (mW o h cI cZ f g) H locs) (hl : lv_has ls 11 [(0, .ref o), (1, .int x1), (2, .int x2), (3, .int x3), (4, .int x4), (5, .int x5), (6, .int x6), (7, .int x7), (10, .int x10)]) : W p l e rmX11_trial s m args below meth c H locs 0 0 Q (F0 m 172 ls [.int k3, .int k2, .int k1, .ref o]) := by
  unfold wpX11_trial_b172 at hh
  refine m_Vv C hw (ctX11_putWall l D o h cI cZ f g k1 k2 k3 hh) (cwV 3 C.2.2.2.2 (gd_V w_1826 w_1828 w_82 w_125 w_1829) rfl rfl rfl cdX11_putWall ⟨Nat.le_of_ble_eq_true rfl, Nat.le_of_ble_eq_true rfl⟩) rfl hl.1 (Nat.le_of_ble_eq_true rfl) dX11_trial_172 ⟨Nat.zero_le _, Nat.zero_le _⟩ (fun u172 H locs hh hw => ?_) rfl
  refine lv_aload_n C.1 C.2.1 dX11_trial_175 rfl (lv_at hl 0 rfl) ?_
  refine lv_iconst (v := (4 : Int32)) C.1 C.2.1 dX11_trial_176 (by decide) ?_
  refine m_Vv C hw (ctX11_puts l D o h cI cZ u172.1 u172.2 (4 : Int32) hh) (cwV 1 C.2.2.2.2 (gd_V w_1894 w_1896 w_91 w_125 w_1897) rfl rfl rfl cdX11_puts ⟨Nat.le_of_ble_eq_true rfl, Nat.le_of_ble_eq_true rfl⟩) rfl hl.1 (Nat.le_of_ble_eq_true rfl) dX11_trial_177 ⟨Nat.zero_le _, Nat.zero_le _⟩ (fun u177 H locs hh hw => ?_) rfl
  refine lv_iload C.1 C.2.1 dX11_trial_180 (lv_at hl 5 rfl) ?_
  refine lv_iconst (v := (-1 : Int32)) C.1 C.2.1 dX11_trial_182 (by decide) ?_
  refine lv_icmp_eq (tgt := 196) C.1 C.2.1 dX11_trial_183 (by decide) (fun c183 => ?_) (fun c183 => ?_)
  · replace hh := hh.1 c183
    exact tX11_trial_b196 C hR hB68 hh hw (lv_sub hl [0, 1, 2, 3, 4, 7, 8] rfl)
  · replace hh := hh.2 c183
    refine lv_iload C.1 C.2.1 dX11_trial_186 (lv_at hl 8 rfl) ?_
    refine lv_iload C.1 C.2.1 dX11_trial_188 (lv_at hl 6 rfl) ?_
    refine lv_icmp_lt (tgt := 196) C.1 C.2.1 dX11_trial_190 (by decide) (fun c190 => ?_) (fun c190 => ?_)
    · replace hh := hh.1 c190
      exact tX11_trial_b196 C hR hB68 hh hw (lv_sub hl [0, 1, 2, 3, 4, 7, 8] rfl)
    · replace hh := hh.2 c190
      refine lv_goto (tgt := 204) C.1 C.2.1 dX11_trial_193 (by decide) ?_
      exact tX11_trial_b204 C hR hB68 hh hw (lv_sub hl [0, 1, 2, 3, 4, 5, 6, 7] rfl)
set_option maxHeartbeats 4000000 in
set_option maxRecDepth 100000 in
theorem tX11_trial_b118 {B68 : (Nat → Int32) → (Nat → Nat → Int32) → Int32 → Int32 → Int32 → Int32 → Int32 → Int32 → Int32 → Prop} {K : Int32 → ((Nat → Int32) × (Nat → Nat → Int32)) → Prop} (C : CallFix p m c cX11_trial 11 s args wsX11_trial RX11) (hR : Rti .int p l e rmX11_trial s m args below meth c cX11_trial D A (mT cI cZ) (mWu o h cI cZ) K Q) (hB68 : ∀ (f : Nat → Int32) (g : Nat → Nat → Int32) (x1 : Int32) (x2 : Int32) (x3 : Int32) (x4 : Int32) (x5 : Int32) (x6 : Int32) (x7 : Int32) (H : Heap) (locs : List Loc) (ls : Array Slot), B68 f g x1 x2 x3 x4 x5 x6 x7 → Wd D A s (mT cI cZ) (mW o h cI cZ f g) H locs → lv_has ls 11 [(0, .ref o), (1, .int x1), (2, .int x2), (3, .int x3), (4, .int x4), (5, .int x5), (6, .int x6), (7, .int x7)] → W p l e rmX11_trial s m args below meth c H locs 0 0 Q (F0 m 68 ls [])) {f : Nat → Int32} {g : Nat → Nat → Int32} {k1 : Int32} {k2 : Int32} {k3 : Int32} {x1 : Int32} {x2 : Int32} {x3 : Int32} {x4 : Int32} {x5 : Int32} {x6 : Int32} {x7 : Int32} {x8 : Int32} {x9 : Int32} (hh : wpX11_trial_b118 B68 f g k1 k2 k3 x1 x2 x3 x4 x5 x6 x7 x8 x9 K) {H : Heap} {locs : List Loc} {ls : Array Slot} (hw : Wd D A s (mT cI cZ) (mW o h cI cZ f g) H locs) (hl : lv_has ls 11 [(0, .ref o), (1, .int x1), (2, .int x2), (3, .int x3), (4, .int x4), (5, .int x5), (6, .int x6), (7, .int x7), (8, .int x8), (9, .int x9)]) : W p l e rmX11_trial s m args below meth c H locs 0 0 Q (F0 m 118 ls [.int k3, .int k2, .int k1, .ref o]) := by
  unfold wpX11_trial_b118 at hh
  refine m_Vv C hw (ctX11_putWall l D o h cI cZ f g k1 k2 k3 hh) (cwV 3 C.2.2.2.2 (gd_V w_1826 w_1828 w_82 w_125 w_1829) rfl rfl rfl cdX11_putWall ⟨Nat.le_of_ble_eq_true rfl, Nat.le_of_ble_eq_true rfl⟩) rfl hl.1 (Nat.le_of_ble_eq_true rfl) dX11_trial_118 ⟨Nat.zero_le _, Nat.zero_le _⟩ (fun u118 H locs hh hw => ?_) rfl
  refine lv_aload_n C.1 C.2.1 dX11_trial_121 rfl (lv_at hl 0 rfl) ?_
  refine lv_iconst (v := (4 : Int32)) C.1 C.2.1 dX11_trial_122 (by decide) ?_
  refine m_Vv C hw (ctX11_puts l D o h cI cZ u118.1 u118.2 (4 : Int32) hh) (cwV 1 C.2.2.2.2 (gd_V w_1894 w_1896 w_91 w_125 w_1897) rfl rfl rfl cdX11_puts ⟨Nat.le_of_ble_eq_true rfl, Nat.le_of_ble_eq_true rfl⟩) rfl hl.1 (Nat.le_of_ble_eq_true rfl) dX11_trial_123 ⟨Nat.zero_le _, Nat.zero_le _⟩ (fun u123 H locs hh hw => ?_) rfl
  refine lv_aload_n C.1 C.2.1 dX11_trial_126 rfl (lv_at hl 0 rfl) ?_
  refine lv_iload_n C.1 C.2.1 dX11_trial_127 rfl (lv_at hl 1 rfl) ?_
  refine lv_iload_n C.1 C.2.1 dX11_trial_128 rfl (lv_at hl 3 rfl) ?_
  refine lv_iload C.1 C.2.1 dX11_trial_129 (lv_at hl 4 rfl) ?_
  refine m_Vv C hw (ctX11_laySuspects l D o h cI cZ u123.1 u123.2 x1 x3 x4 hh) (cwV 3 C.2.2.2.2 (gd_V w_2041 w_2043 w_112 w_125 w_2044) rfl rfl rfl cdX11_laySuspects ⟨Nat.le_of_ble_eq_true rfl, Nat.le_of_ble_eq_true rfl⟩) rfl hl.1 (Nat.le_of_ble_eq_true rfl) dX11_trial_131 ⟨Nat.zero_le _, Nat.zero_le _⟩ (fun u131 H locs hh hw => ?_) rfl
  refine lv_aload_n C.1 C.2.1 dX11_trial_134 rfl (lv_at hl 0 rfl) ?_
  refine m_gi C hw (inC inW11) 72 (by decide) (wc w_1534) mg_72 (x := u131.1 72) rfl dX11_trial_135 ?_
  refine wd_Si C hw (ctX11_manyOf l D (u131.1 72) hh) (va_cwS 1 C.2.2.2.2 (gd_S w_2049 w_2050 (ini_cls rfl w_125) w_2051) rfl rfl rfl cdX11_manyOf ⟨Nat.le_of_ble_eq_true rfl, Nat.le_of_ble_eq_true rfl⟩) rfl hl.1 (Nat.le_of_ble_eq_true rfl) dX11_trial_138 ⟨Nat.zero_le _, Nat.zero_le _⟩ (fun r138 H locs hh hw => ?_) rfl
  refine lv_aload_n C.1 C.2.1 dX11_trial_141 rfl (lv_at hl 0 rfl) ?_
  refine m_gi C hw (inC inW11) 73 (by decide) (wc w_1535) mg_73 (x := u131.1 73) rfl dX11_trial_142 ?_
  refine wd_Si C hw (ctX11_manyOf l D (u131.1 73) hh) (va_cwS 1 C.2.2.2.2 (gd_S w_2049 w_2050 (ini_cls rfl w_125) w_2051) rfl rfl rfl cdX11_manyOf ⟨Nat.le_of_ble_eq_true rfl, Nat.le_of_ble_eq_true rfl⟩) rfl hl.1 (Nat.le_of_ble_eq_true rfl) dX11_trial_145 ⟨Nat.zero_le _, Nat.zero_le _⟩ (fun r145 H locs hh hw => ?_) rfl
  refine lv_iadd C.1 C.2.1 dX11_trial_148 ?_
  refine lv_istore (lv' := [(10, .int (r138 + r145)), (0, .ref o), (1, .int x1), (2, .int x2), (3, .int x3), (4, .int x4), (5, .int x5), (6, .int x6), (7, .int x7), (8, .int x8), (9, .int x9)]) C.1 C.2.1 dX11_trial_149 hl (by decide) rfl (fun ls hl => ?_)
  refine lv_aload_n C.1 C.2.1 dX11_trial_151 rfl (lv_at hl 1 rfl) ?_
  refine lv_iload C.1 C.2.1 dX11_trial_152 (lv_at hl 9 rfl) ?_
  refine lv_iload C.1 C.2.1 dX11_trial_154 (lv_at hl 10 rfl) ?_
  refine lv_aload_n C.1 C.2.1 dX11_trial_156 rfl (lv_at hl 1 rfl) ?_
  refine lv_iload C.1 C.2.1 dX11_trial_157 (lv_at hl 9 rfl) ?_
  refine lv_iload C.1 C.2.1 dX11_trial_159 (lv_at hl 10 rfl) ?_
  refine m_Vi C hw (ctX11_isWall l D o h cI cZ u131.1 u131.2 x8 x9 hh) (cwV 2 C.2.2.2.2 (gd_V w_1819 w_1821 w_81 w_125 w_1822) rfl rfl rfl cdX11_isWall ⟨Nat.le_of_ble_eq_true rfl, Nat.le_of_ble_eq_true rfl⟩) rfl hl.1 (Nat.le_of_ble_eq_true rfl) dX11_trial_161 ⟨Nat.zero_le _, Nat.zero_le _⟩ (fun r161 u161 H locs hh hw => ?_) rfl
  refine lv_if_ne (tgt := 171) C.1 C.2.1 dX11_trial_164 (by decide) (fun c164 => ?_) (fun c164 => ?_)
  · replace hh := hh.1 c164
    refine lv_iconst (v := (0 : Int32)) C.1 C.2.1 dX11_trial_171 (by decide) ?_
    exact tX11_trial_b172 C hR hB68 hh hw (lv_sub hl [1, 2, 3, 4, 5, 6, 7, 8, 0] rfl)
  · replace hh := hh.2 c164
    refine lv_iconst (v := (1 : Int32)) C.1 C.2.1 dX11_trial_167 (by decide) ?_
    refine lv_goto (tgt := 172) C.1 C.2.1 dX11_trial_168 (by decide) ?_
    exact tX11_trial_b172 C hR hB68 hh hw (lv_sub hl [1, 2, 3, 4, 5, 6, 7, 8, 0] rfl)
set_option maxHeartbeats 4000000 in
set_option maxRecDepth 100000 in
theorem tX11_trial_b68_body {B68 : (Nat → Int32) → (Nat → Nat → Int32) → Int32 → Int32 → Int32 → Int32 → Int32 → Int32 → Int32 → Prop} {K : Int32 → ((Nat → Int32) × (Nat → Nat → Int32)) → Prop} (C : CallFix p m c cX11_trial 11 s args wsX11_trial RX11) (hR : Rti .int p l e rmX11_trial s m args below meth c cX11_trial D A (mT cI cZ) (mWu o h cI cZ) K Q) (hB68 : ∀ (f : Nat → Int32) (g : Nat → Nat → Int32) (x1 : Int32) (x2 : Int32) (x3 : Int32) (x4 : Int32) (x5 : Int32) (x6 : Int32) (x7 : Int32) (H : Heap) (locs : List Loc) (ls : Array Slot), B68 f g x1 x2 x3 x4 x5 x6 x7 → Wd D A s (mT cI cZ) (mW o h cI cZ f g) H locs → lv_has ls 11 [(0, .ref o), (1, .int x1), (2, .int x2), (3, .int x3), (4, .int x4), (5, .int x5), (6, .int x6), (7, .int x7)] → W p l e rmX11_trial s m args below meth c H locs 0 0 Q (F0 m 68 ls [])) {f : Nat → Int32} {g : Nat → Nat → Int32} {x1 : Int32} {x2 : Int32} {x3 : Int32} {x4 : Int32} {x5 : Int32} {x6 : Int32} {x7 : Int32} (hh : wpX11_trial_b68_body B68 f g x1 x2 x3 x4 x5 x6 x7 K) {H : Heap} {locs : List Loc} {ls : Array Slot} (hw : Wd D A s (mT cI cZ) (mW o h cI cZ f g) H locs) (hl : lv_has ls 11 [(0, .ref o), (1, .int x1), (2, .int x2), (3, .int x3), (4, .int x4), (5, .int x5), (6, .int x6), (7, .int x7)]) : W p l e rmX11_trial s m args below meth c H locs 0 0 Q (F0 m 68 ls []) := by
  unfold wpX11_trial_b68_body at hh
  refine lv_iload C.1 C.2.1 dX11_trial_68 (lv_at hl 7 rfl) ?_
  refine lv_aload_n C.1 C.2.1 dX11_trial_70 rfl (lv_at hl 0 rfl) ?_
  refine m_Vi C hw (ctX11_wallMany l D o h cI cZ f g  hh) (cwV 0 C.2.2.2.2 (gd_V w_1937 w_1939 w_97 w_125 w_1940) rfl rfl rfl cdX11_wallMany ⟨Nat.le_of_ble_eq_true rfl, Nat.le_of_ble_eq_true rfl⟩) rfl hl.1 (Nat.le_of_ble_eq_true rfl) dX11_trial_71 ⟨Nat.zero_le _, Nat.zero_le _⟩ (fun r71 u71 H locs hh hw => ?_) rfl
  refine lv_icmp_ge (tgt := 210) C.1 C.2.1 dX11_trial_74 (by decide) (fun c74 => ?_) (fun c74 => ?_)
  · replace hh := hh.1 c74
    refine lv_iload_n C.1 C.2.1 dX11_trial_210 rfl (lv_at hl 2 rfl) ?_
    refine lv_if_ne (tgt := 219) C.1 C.2.1 dX11_trial_211 (by decide) (fun c211 => ?_) (fun c211 => ?_)
    · replace hh := hh.1 c211
      refine lv_iload C.1 C.2.1 dX11_trial_219 (lv_at hl 6 rfl) ?_
      exact tX11_trial_b221 C hR hh hw (lv_sub hl [0] rfl)
    · replace hh := hh.2 c211
      refine lv_iload C.1 C.2.1 dX11_trial_214 (lv_at hl 5 rfl) ?_
      refine lv_goto (tgt := 221) C.1 C.2.1 dX11_trial_216 (by decide) ?_
      exact tX11_trial_b221 C hR hh hw (lv_sub hl [0] rfl)
  · replace hh := hh.2 c74
    refine lv_aload_n C.1 C.2.1 dX11_trial_77 rfl (lv_at hl 0 rfl) ?_
    refine lv_iload C.1 C.2.1 dX11_trial_78 (lv_at hl 7 rfl) ?_
    refine m_Vi C hw (ctX11_wallAt l D o h cI cZ u71.1 u71.2 x7 hh) (cwV 1 C.2.2.2.2 (gd_V w_1945 w_1947 w_99 w_125 w_1948) rfl rfl rfl cdX11_wallAt ⟨Nat.le_of_ble_eq_true rfl, Nat.le_of_ble_eq_true rfl⟩) rfl hl.1 (Nat.le_of_ble_eq_true rfl) dX11_trial_80 ⟨Nat.zero_le _, Nat.zero_le _⟩ (fun r80 u80 H locs hh hw => ?_) rfl
    refine lv_iconst (v := (4 : Int32)) C.1 C.2.1 dX11_trial_83 (by decide) ?_
    refine lv_idiv C.1 C.2.1 dX11_trial_84 (by decide) ?_
    refine lv_istore (lv' := [(8, .int (r80 / (4 : Int32))), (0, .ref o), (1, .int x1), (2, .int x2), (3, .int x3), (4, .int x4), (5, .int x5), (6, .int x6), (7, .int x7)]) C.1 C.2.1 dX11_trial_85 hl (by decide) rfl (fun ls hl => ?_)
    refine lv_aload_n C.1 C.2.1 dX11_trial_87 rfl (lv_at hl 1 rfl) ?_
    refine lv_iload C.1 C.2.1 dX11_trial_88 (lv_at hl 8 rfl) ?_
    refine m_Vi C hw (ctX11_wallAt l D o h cI cZ u80.1 u80.2 x7 hh) (cwV 1 C.2.2.2.2 (gd_V w_1945 w_1947 w_99 w_125 w_1948) rfl rfl rfl cdX11_wallAt ⟨Nat.le_of_ble_eq_true rfl, Nat.le_of_ble_eq_true rfl⟩) rfl hl.1 (Nat.le_of_ble_eq_true rfl) dX11_trial_90 ⟨Nat.zero_le _, Nat.zero_le _⟩ (fun r90 u90 H locs hh hw => ?_) rfl
    refine lv_iconst (v := (4 : Int32)) C.1 C.2.1 dX11_trial_93 (by decide) ?_
    refine g_irem C dX11_trial_94 (by decide) ?_
    refine lv_istore (lv' := [(9, .int (jrem r90 (4 : Int32))), (8, .int (r80 / (4 : Int32))), (0, .ref o), (1, .int x1), (2, .int x2), (3, .int x3), (4, .int x4), (5, .int x5), (6, .int x6), (7, .int x7)]) C.1 C.2.1 dX11_trial_95 hl (by decide) rfl (fun ls hl => ?_)
    refine lv_aload_n C.1 C.2.1 dX11_trial_97 rfl (lv_at hl 2 rfl) ?_
    refine lv_iload C.1 C.2.1 dX11_trial_98 (lv_at hl 1 rfl) ?_
    refine lv_iload C.1 C.2.1 dX11_trial_100 (lv_at hl 0 rfl) ?_
    refine lv_aload_n C.1 C.2.1 dX11_trial_102 rfl (lv_at hl 2 rfl) ?_
    refine lv_iload C.1 C.2.1 dX11_trial_103 (lv_at hl 1 rfl) ?_
    refine lv_iload C.1 C.2.1 dX11_trial_105 (lv_at hl 0 rfl) ?_
    refine m_Vi C hw (ctX11_isWall l D o h cI cZ u90.1 u90.2 (r80 / (4 : Int32)) (jrem r90 (4 : Int32)) hh) (cwV 2 C.2.2.2.2 (gd_V w_1819 w_1821 w_81 w_125 w_1822) rfl rfl rfl cdX11_isWall ⟨Nat.le_of_ble_eq_true rfl, Nat.le_of_ble_eq_true rfl⟩) rfl hl.1 (Nat.le_of_ble_eq_true rfl) dX11_trial_107 ⟨Nat.zero_le _, Nat.zero_le _⟩ (fun r107 u107 H locs hh hw => ?_) rfl
    refine lv_if_ne (tgt := 117) C.1 C.2.1 dX11_trial_110 (by decide) (fun c110 => ?_) (fun c110 => ?_)
    · replace hh := hh.1 c110
      refine lv_iconst (v := (0 : Int32)) C.1 C.2.1 dX11_trial_117 (by decide) ?_
      exact tX11_trial_b118 C hR hB68 hh hw (lv_sub hl [2, 3, 4, 5, 6, 7, 8, 9, 1, 0] rfl)
    · replace hh := hh.2 c110
      refine lv_iconst (v := (1 : Int32)) C.1 C.2.1 dX11_trial_113 (by decide) ?_
      refine lv_goto (tgt := 118) C.1 C.2.1 dX11_trial_114 (by decide) ?_
      exact tX11_trial_b118 C hR hB68 hh hw (lv_sub hl [2, 3, 4, 5, 6, 7, 8, 9, 1, 0] rfl)
theorem tX11_trial_b68 {K : Int32 → ((Nat → Int32) × (Nat → Nat → Int32)) → Prop} (C : CallFix p m c cX11_trial 11 s args wsX11_trial RX11) (hR : Rti .int p l e rmX11_trial s m args below meth c cX11_trial D A (mT cI cZ) (mWu o h cI cZ) K Q) (n : Nat) : ∀ (f : Nat → Int32) (g : Nat → Nat → Int32) (x1 : Int32) (x2 : Int32) (x3 : Int32) (x4 : Int32) (x5 : Int32) (x6 : Int32) (x7 : Int32) (H : Heap) (locs : List Loc) (ls : Array Slot), wpX11_trial_b68 n f g x1 x2 x3 x4 x5 x6 x7 K → Wd D A s (mT cI cZ) (mW o h cI cZ f g) H locs → lv_has ls 11 [(0, .ref o), (1, .int x1), (2, .int x2), (3, .int x3), (4, .int x4), (5, .int x5), (6, .int x6), (7, .int x7)] → W p l e rmX11_trial s m args below meth c H locs 0 0 Q (F0 m 68 ls []) := by
  induction n with
  | zero => intro f g x1 x2 x3 x4 x5 x6 x7 H locs ls hh; exact hh.elim
  | succ n ih => intro f g x1 x2 x3 x4 x5 x6 x7 H locs ls hh hw hl; exact tX11_trial_b68_body C hR ih hh hw hl
set_option maxHeartbeats 4000000 in
set_option maxRecDepth 100000 in
theorem tX11_trial_b0 {K : Int32 → ((Nat → Int32) × (Nat → Nat → Int32)) → Prop} (C : CallFix p m c cX11_trial 11 s args wsX11_trial RX11) (hR : Rti .int p l e rmX11_trial s m args below meth c cX11_trial D A (mT cI cZ) (mWu o h cI cZ) K Q) {f : Nat → Int32} {g : Nat → Nat → Int32} {x1 : Int32} {x2 : Int32} (hh : wpX11_trial_b0 f g x1 x2 K) {H : Heap} {locs : List Loc} {ls : Array Slot} (hw : Wd D A s (mT cI cZ) (mW o h cI cZ f g) H locs) (hl : lv_has ls 11 [(0, .ref o), (1, .int x1), (2, .int x2)]) : W p l e rmX11_trial s m args below meth c H locs 0 0 Q (F0 m 0 ls []) := by
  unfold wpX11_trial_b0 at hh
  refine lv_aload_n C.1 C.2.1 dX11_trial_0 rfl (lv_at hl 0 rfl) ?_
  refine lv_iconst (v := (0 : Int32)) C.1 C.2.1 dX11_trial_1 (by decide) ?_
  refine m_pi C hw (inC inW11) 2 (by decide) (wc w_1464) rfl (ty := .int) (by decide +kernel) rfl rfl (Nat.le_of_ble_eq_true rfl) ms_2 dX11_trial_2 (fun H locs hw => ?_)
  refine lv_iload_n C.1 C.2.1 dX11_trial_5 rfl (lv_at hl 1 rfl) ?_
  refine lv_iconst (v := (1 : Int32)) C.1 C.2.1 dX11_trial_6 (by decide) ?_
  refine lv_sipush (v := (500 : Int32)) C.1 C.2.1 dX11_trial_7 (by decide) ?_
  refine wd_Si C hw (ctX11_isIn l D x1 (1 : Int32) (500 : Int32) hh) (va_cwS 3 C.2.2.2.2 (gd_S w_1804 w_1805 (ini_cls rfl w_125) w_1806) rfl rfl rfl cdX11_isIn ⟨Nat.le_of_ble_eq_true rfl, Nat.le_of_ble_eq_true rfl⟩) rfl hl.1 (Nat.le_of_ble_eq_true rfl) dX11_trial_10 ⟨Nat.zero_le _, Nat.zero_le _⟩ (fun r10 H locs hh hw => ?_) rfl
  refine lv_if_eq (tgt := 25) C.1 C.2.1 dX11_trial_13 (by decide) (fun c13 => ?_) (fun c13 => ?_)
  · replace hh := hh.1 c13
    exact tX11_trial_b25 C hR hh hw (lv_sub hl [0] rfl)
  · replace hh := hh.2 c13
    refine lv_iload_n C.1 C.2.1 dX11_trial_16 rfl (lv_at hl 2 rfl) ?_
    refine lv_iconst (v := (0 : Int32)) C.1 C.2.1 dX11_trial_17 (by decide) ?_
    refine lv_iconst (v := (1 : Int32)) C.1 C.2.1 dX11_trial_18 (by decide) ?_
    refine wd_Si C hw (ctX11_isIn l D x2 (0 : Int32) (1 : Int32) hh) (va_cwS 3 C.2.2.2.2 (gd_S w_1804 w_1805 (ini_cls rfl w_125) w_1806) rfl rfl rfl cdX11_isIn ⟨Nat.le_of_ble_eq_true rfl, Nat.le_of_ble_eq_true rfl⟩) rfl hl.1 (Nat.le_of_ble_eq_true rfl) dX11_trial_19 ⟨Nat.zero_le _, Nat.zero_le _⟩ (fun r19 H locs hh hw => ?_) rfl
    refine lv_if_ne (tgt := 27) C.1 C.2.1 dX11_trial_22 (by decide) (fun c22 => ?_) (fun c22 => ?_)
    · replace hh := hh.1 c22
      refine lv_aload_n C.1 C.2.1 dX11_trial_27 rfl (lv_at hl 0 rfl) ?_
      refine lv_iload_n C.1 C.2.1 dX11_trial_28 rfl (lv_at hl 1 rfl) ?_
      refine m_Vv C hw (ctX11_suspect l D o h cI cZ (upd f 2 (0 : Int32)) g x1 hh) (cwV 1 C.2.2.2.2 (gd_V w_2025 w_2027 w_108 w_125 w_2028) rfl rfl rfl cdX11_suspect ⟨Nat.le_of_ble_eq_true rfl, Nat.le_of_ble_eq_true rfl⟩) rfl hl.1 (Nat.le_of_ble_eq_true rfl) dX11_trial_29 ⟨Nat.zero_le _, Nat.zero_le _⟩ (fun u29 H locs hh hw => ?_) rfl
      refine lv_aload_n C.1 C.2.1 dX11_trial_32 rfl (lv_at hl 0 rfl) ?_
      refine m_gi C hw (inC inW11) 72 (by decide) (wc w_1534) mg_72 (x := u29.1 72) rfl dX11_trial_33 ?_
      refine lv_istore_n (lv' := [(3, .int (u29.1 72)), (0, .ref o), (1, .int x1), (2, .int x2)]) C.1 C.2.1 dX11_trial_36 rfl hl (by decide) rfl (fun ls hl => ?_)
      refine lv_aload_n C.1 C.2.1 dX11_trial_37 rfl (lv_at hl 1 rfl) ?_
      refine m_gi C hw (inC inW11) 73 (by decide) (wc w_1535) mg_73 (x := u29.1 73) rfl dX11_trial_38 ?_
      refine lv_istore (lv' := [(4, .int (u29.1 73)), (3, .int (u29.1 72)), (0, .ref o), (1, .int x1), (2, .int x2)]) C.1 C.2.1 dX11_trial_41 hl (by decide) rfl (fun ls hl => ?_)
      refine lv_iload_n C.1 C.2.1 dX11_trial_43 rfl (lv_at hl 1 rfl) ?_
      refine wd_Si C hw (ctX11_manyOf l D (u29.1 72) hh) (va_cwS 1 C.2.2.2.2 (gd_S w_2049 w_2050 (ini_cls rfl w_125) w_2051) rfl rfl rfl cdX11_manyOf ⟨Nat.le_of_ble_eq_true rfl, Nat.le_of_ble_eq_true rfl⟩) rfl hl.1 (Nat.le_of_ble_eq_true rfl) dX11_trial_44 ⟨Nat.zero_le _, Nat.zero_le _⟩ (fun r44 H locs hh hw => ?_) rfl
      refine lv_iload C.1 C.2.1 dX11_trial_47 (lv_at hl 0 rfl) ?_
      refine wd_Si C hw (ctX11_manyOf l D (u29.1 73) hh) (va_cwS 1 C.2.2.2.2 (gd_S w_2049 w_2050 (ini_cls rfl w_125) w_2051) rfl rfl rfl cdX11_manyOf ⟨Nat.le_of_ble_eq_true rfl, Nat.le_of_ble_eq_true rfl⟩) rfl hl.1 (Nat.le_of_ble_eq_true rfl) dX11_trial_49 ⟨Nat.zero_le _, Nat.zero_le _⟩ (fun r49 H locs hh hw => ?_) rfl
      refine lv_iadd C.1 C.2.1 dX11_trial_52 ?_
      refine lv_iconst (v := (2 : Int32)) C.1 C.2.1 dX11_trial_53 (by decide) ?_
      refine lv_icmp_ge (tgt := 59) C.1 C.2.1 dX11_trial_54 (by decide) (fun c54 => ?_) (fun c54 => ?_)
      · replace hh := hh.1 c54
        refine lv_iconst (v := (-1 : Int32)) C.1 C.2.1 dX11_trial_59 (by decide) ?_
        refine lv_istore (lv' := [(5, .int (-1 : Int32)), (4, .int (u29.1 73)), (3, .int (u29.1 72)), (0, .ref o), (1, .int x1), (2, .int x2)]) C.1 C.2.1 dX11_trial_60 hl (by decide) rfl (fun ls hl => ?_)
        refine lv_iconst (v := (0 : Int32)) C.1 C.2.1 dX11_trial_62 (by decide) ?_
        refine lv_istore (lv' := [(6, .int (0 : Int32)), (5, .int (-1 : Int32)), (4, .int (u29.1 73)), (3, .int (u29.1 72)), (0, .ref o), (1, .int x1), (2, .int x2)]) C.1 C.2.1 dX11_trial_63 hl (by decide) rfl (fun ls hl => ?_)
        refine lv_iconst (v := (0 : Int32)) C.1 C.2.1 dX11_trial_65 (by decide) ?_
        refine lv_istore (lv' := [(7, .int (0 : Int32)), (6, .int (0 : Int32)), (5, .int (-1 : Int32)), (4, .int (u29.1 73)), (3, .int (u29.1 72)), (0, .ref o), (1, .int x1), (2, .int x2)]) C.1 C.2.1 dX11_trial_66 hl (by decide) rfl (fun ls hl => ?_)
        obtain ⟨n, hh⟩ := hh
        exact tX11_trial_b68 C hR n _ _ _ _ _ _ _ _ _ _ _ _ hh hw (lv_sub hl [5, 6, 7, 4, 3, 2, 1, 0] rfl)
      · replace hh := hh.2 c54
        refine lv_iconst (v := (-1 : Int32)) C.1 C.2.1 dX11_trial_57 (by decide) ?_
        exact hR _ _ _ (u29.1, u29.2) _ _ dX11_trial_58 rfl hh hw
    · replace hh := hh.2 c22
      exact tX11_trial_b25 C hR hh hw (lv_sub hl [0] rfl)
theorem ctX11_trial (l : Launch) (D : va_G) (o : Nat) (h : Nat → Nat) (cI cZ : ClassId) (f : Nat → Int32) (g : Nat → Nat → Int32) (x1 : Int32) (x2 : Int32) {K : Int32 → ((Nat → Int32) × (Nat → Nat → Int32)) → Prop} (hh : wpX11_trial f g x1 x2 K) : Ci l yX11_trial wsX11_trial rmX11_trial [.ref o, .int x1, .int x2] D (mT cI cZ) (mWu o h cI cZ) (f, g) K := by
  refine Ci_of (cc := cX11_trial) (maxL := 11) (by decide) rfl (Nat.le_of_ble_eq_true rfl) ?_
  intro p e s m below meth c A Q C hw hR ls hl
  exact tX11_trial_b0 C hR hh hw hl
theorem cdX11_trial : yX11_trial.cls = RX11 ∧ yX11_trial.cls ≠ "java/lang/invoke/MethodHandle" ∧ yX11_trial.cls ≠ "java/lang/invoke/VarHandle" ∧ (parseMethodDescriptor yX11_trial.desc).map (fun d => d.parameters.length) = some 2 := by decide +kernel
abbrev rmX11_count : Room := { frames := 2, cells := 0, slots := 0, locals := 43 }
set_option maxHeartbeats 4000000 in
set_option maxRecDepth 100000 in
theorem tX11_count_b109 {B74 : (Nat → Int32) → (Nat → Nat → Int32) → Int32 → Int32 → Prop} {K : Int32 → ((Nat → Int32) × (Nat → Nat → Int32)) → Prop} (C : CallFix p m c cX11_count 4 s args wsX11_count RX11) (hR : Rti .int p l e rmX11_count s m args below meth c cX11_count D A (mT cI cZ) (mWu o h cI cZ) K Q) (hB74 : ∀ (f : Nat → Int32) (g : Nat → Nat → Int32) (x2 : Int32) (x3 : Int32) (H : Heap) (locs : List Loc) (ls : Array Slot), B74 f g x2 x3 → Wd D A s (mT cI cZ) (mW o h cI cZ f g) H locs → lv_has ls 4 [(0, .ref o), (2, .int x2), (3, .int x3)] → W p l e rmX11_count s m args below meth c H locs 0 0 Q (F0 m 74 ls [])) {f : Nat → Int32} {g : Nat → Nat → Int32} {k0 : Int32} {k1 : Int32} {x3 : Int32} (hh : wpX11_count_b109 B74 f g k0 k1 x3 K) {H : Heap} {locs : List Loc} {ls : Array Slot} (hw : Wd D A s (mT cI cZ) (mW o h cI cZ f g) H locs) (hl : lv_has ls 4 [(0, .ref o), (3, .int x3)]) : W p l e rmX11_count s m args below meth c H locs 0 0 Q (F0 m 109 ls [.int k1, .int k0]) := by
  unfold wpX11_count_b109 at hh
  refine lv_iadd C.1 C.2.1 dX11_count_109 ?_
  refine lv_istore_n (lv' := [(2, .int (k0 + k1)), (0, .ref o), (3, .int x3)]) C.1 C.2.1 dX11_count_110 rfl hl (by decide) rfl (fun ls hl => ?_)
  refine lv_iinc (v := x3 + (1 : Int32)) (lv' := [(3, .int (x3 + (1 : Int32))), (2, .int (k0 + k1)), (0, .ref o)]) C.1 C.2.1 dX11_count_111 hl (k := 2) rfl rfl (by decide) rfl (fun ls hl => ?_)
  refine lv_goto (tgt := 74) C.1 C.2.1 dX11_count_114 (by decide) ?_
  exact hB74 _ _ _ _ _ _ _ hh hw (lv_sub hl [2, 1, 0] rfl)
set_option maxHeartbeats 4000000 in
set_option maxRecDepth 100000 in
theorem tX11_count_b74_body {B74 : (Nat → Int32) → (Nat → Nat → Int32) → Int32 → Int32 → Prop} {K : Int32 → ((Nat → Int32) × (Nat → Nat → Int32)) → Prop} (C : CallFix p m c cX11_count 4 s args wsX11_count RX11) (hR : Rti .int p l e rmX11_count s m args below meth c cX11_count D A (mT cI cZ) (mWu o h cI cZ) K Q) (hB74 : ∀ (f : Nat → Int32) (g : Nat → Nat → Int32) (x2 : Int32) (x3 : Int32) (H : Heap) (locs : List Loc) (ls : Array Slot), B74 f g x2 x3 → Wd D A s (mT cI cZ) (mW o h cI cZ f g) H locs → lv_has ls 4 [(0, .ref o), (2, .int x2), (3, .int x3)] → W p l e rmX11_count s m args below meth c H locs 0 0 Q (F0 m 74 ls [])) {f : Nat → Int32} {g : Nat → Nat → Int32} {x2 : Int32} {x3 : Int32} (hh : wpX11_count_b74_body B74 f g x2 x3 K) {H : Heap} {locs : List Loc} {ls : Array Slot} (hw : Wd D A s (mT cI cZ) (mW o h cI cZ f g) H locs) (hl : lv_has ls 4 [(0, .ref o), (2, .int x2), (3, .int x3)]) : W p l e rmX11_count s m args below meth c H locs 0 0 Q (F0 m 74 ls []) := by
  unfold wpX11_count_b74_body at hh
  refine lv_iload_n C.1 C.2.1 dX11_count_74 rfl (lv_at hl 2 rfl) ?_
  refine lv_aload_n C.1 C.2.1 dX11_count_75 rfl (lv_at hl 0 rfl) ?_
  refine m_Vi C hw (ctX11_wallMany l D o h cI cZ f g  hh) (cwV 0 C.2.2.2.2 (gd_V w_1937 w_1939 w_97 w_125 w_1940) rfl rfl rfl cdX11_wallMany ⟨Nat.le_of_ble_eq_true rfl, Nat.le_of_ble_eq_true rfl⟩) rfl hl.1 (Nat.le_of_ble_eq_true rfl) dX11_count_76 ⟨Nat.zero_le _, Nat.zero_le _⟩ (fun r76 u76 H locs hh hw => ?_) rfl
  refine lv_icmp_ge (tgt := 117) C.1 C.2.1 dX11_count_79 (by decide) (fun c79 => ?_) (fun c79 => ?_)
  · replace hh := hh.1 c79
    refine lv_iload_n C.1 C.2.1 dX11_count_117 rfl (lv_at hl 1 rfl) ?_
    exact hR _ _ _ (u76.1, u76.2) _ _ dX11_count_118 rfl hh hw
  · replace hh := hh.2 c79
    refine lv_iload_n C.1 C.2.1 dX11_count_82 rfl (lv_at hl 1 rfl) ?_
    refine lv_aload_n C.1 C.2.1 dX11_count_83 rfl (lv_at hl 0 rfl) ?_
    refine lv_aload_n C.1 C.2.1 dX11_count_84 rfl (lv_at hl 0 rfl) ?_
    refine lv_iload_n C.1 C.2.1 dX11_count_85 rfl (lv_at hl 2 rfl) ?_
    refine m_Vi C hw (ctX11_wallAt l D o h cI cZ u76.1 u76.2 x3 hh) (cwV 1 C.2.2.2.2 (gd_V w_1945 w_1947 w_99 w_125 w_1948) rfl rfl rfl cdX11_wallAt ⟨Nat.le_of_ble_eq_true rfl, Nat.le_of_ble_eq_true rfl⟩) rfl hl.1 (Nat.le_of_ble_eq_true rfl) dX11_count_86 ⟨Nat.zero_le _, Nat.zero_le _⟩ (fun r86 u86 H locs hh hw => ?_) rfl
    refine lv_iconst (v := (4 : Int32)) C.1 C.2.1 dX11_count_89 (by decide) ?_
    refine lv_idiv C.1 C.2.1 dX11_count_90 (by decide) ?_
    refine lv_aload_n C.1 C.2.1 dX11_count_91 rfl (lv_at hl 0 rfl) ?_
    refine lv_iload_n C.1 C.2.1 dX11_count_92 rfl (lv_at hl 2 rfl) ?_
    refine m_Vi C hw (ctX11_wallAt l D o h cI cZ u86.1 u86.2 x3 hh) (cwV 1 C.2.2.2.2 (gd_V w_1945 w_1947 w_99 w_125 w_1948) rfl rfl rfl cdX11_wallAt ⟨Nat.le_of_ble_eq_true rfl, Nat.le_of_ble_eq_true rfl⟩) rfl hl.1 (Nat.le_of_ble_eq_true rfl) dX11_count_93 ⟨Nat.zero_le _, Nat.zero_le _⟩ (fun r93 u93 H locs hh hw => ?_) rfl
    refine lv_iconst (v := (4 : Int32)) C.1 C.2.1 dX11_count_96 (by decide) ?_
    refine g_irem C dX11_count_97 (by decide) ?_
    refine m_Vi C hw (ctX11_isWall l D o h cI cZ u93.1 u93.2 (r86 / (4 : Int32)) (jrem r93 (4 : Int32)) hh) (cwV 2 C.2.2.2.2 (gd_V w_1819 w_1821 w_81 w_125 w_1822) rfl rfl rfl cdX11_isWall ⟨Nat.le_of_ble_eq_true rfl, Nat.le_of_ble_eq_true rfl⟩) rfl hl.1 (Nat.le_of_ble_eq_true rfl) dX11_count_98 ⟨Nat.zero_le _, Nat.zero_le _⟩ (fun r98 u98 H locs hh hw => ?_) rfl
    refine lv_if_eq (tgt := 108) C.1 C.2.1 dX11_count_101 (by decide) (fun c101 => ?_) (fun c101 => ?_)
    · replace hh := hh.1 c101
      refine lv_iconst (v := (0 : Int32)) C.1 C.2.1 dX11_count_108 (by decide) ?_
      exact tX11_count_b109 C hR hB74 hh hw (lv_sub hl [0, 2] rfl)
    · replace hh := hh.2 c101
      refine lv_iconst (v := (1 : Int32)) C.1 C.2.1 dX11_count_104 (by decide) ?_
      refine lv_goto (tgt := 109) C.1 C.2.1 dX11_count_105 (by decide) ?_
      exact tX11_count_b109 C hR hB74 hh hw (lv_sub hl [0, 2] rfl)
theorem tX11_count_b74 {K : Int32 → ((Nat → Int32) × (Nat → Nat → Int32)) → Prop} (C : CallFix p m c cX11_count 4 s args wsX11_count RX11) (hR : Rti .int p l e rmX11_count s m args below meth c cX11_count D A (mT cI cZ) (mWu o h cI cZ) K Q) (n : Nat) : ∀ (f : Nat → Int32) (g : Nat → Nat → Int32) (x2 : Int32) (x3 : Int32) (H : Heap) (locs : List Loc) (ls : Array Slot), wpX11_count_b74 n f g x2 x3 K → Wd D A s (mT cI cZ) (mW o h cI cZ f g) H locs → lv_has ls 4 [(0, .ref o), (2, .int x2), (3, .int x3)] → W p l e rmX11_count s m args below meth c H locs 0 0 Q (F0 m 74 ls []) := by
  induction n with
  | zero => intro f g x2 x3 H locs ls hh; exact hh.elim
  | succ n ih => intro f g x2 x3 H locs ls hh hw hl; exact tX11_count_b74_body C hR ih hh hw hl
set_option maxHeartbeats 4000000 in
set_option maxRecDepth 100000 in
theorem tX11_count_b146 {B126 : (Nat → Int32) → (Nat → Nat → Int32) → Int32 → Int32 → Prop} {K : Int32 → ((Nat → Int32) × (Nat → Nat → Int32)) → Prop} (C : CallFix p m c cX11_count 4 s args wsX11_count RX11) (hR : Rti .int p l e rmX11_count s m args below meth c cX11_count D A (mT cI cZ) (mWu o h cI cZ) K Q) (hB126 : ∀ (f : Nat → Int32) (g : Nat → Nat → Int32) (x2 : Int32) (x3 : Int32) (H : Heap) (locs : List Loc) (ls : Array Slot), B126 f g x2 x3 → Wd D A s (mT cI cZ) (mW o h cI cZ f g) H locs → lv_has ls 4 [(0, .ref o), (2, .int x2), (3, .int x3)] → W p l e rmX11_count s m args below meth c H locs 0 0 Q (F0 m 126 ls [])) {f : Nat → Int32} {g : Nat → Nat → Int32} {k0 : Int32} {k1 : Int32} {x3 : Int32} (hh : wpX11_count_b146 B126 f g k0 k1 x3 K) {H : Heap} {locs : List Loc} {ls : Array Slot} (hw : Wd D A s (mT cI cZ) (mW o h cI cZ f g) H locs) (hl : lv_has ls 4 [(0, .ref o), (3, .int x3)]) : W p l e rmX11_count s m args below meth c H locs 0 0 Q (F0 m 146 ls [.int k1, .int k0]) := by
  unfold wpX11_count_b146 at hh
  refine lv_iadd C.1 C.2.1 dX11_count_146 ?_
  refine lv_istore_n (lv' := [(2, .int (k0 + k1)), (0, .ref o), (3, .int x3)]) C.1 C.2.1 dX11_count_147 rfl hl (by decide) rfl (fun ls hl => ?_)
  refine lv_iinc (v := x3 + (1 : Int32)) (lv' := [(3, .int (x3 + (1 : Int32))), (2, .int (k0 + k1)), (0, .ref o)]) C.1 C.2.1 dX11_count_148 hl (k := 2) rfl rfl (by decide) rfl (fun ls hl => ?_)
  refine lv_goto (tgt := 126) C.1 C.2.1 dX11_count_151 (by decide) ?_
  exact hB126 _ _ _ _ _ _ _ hh hw (lv_sub hl [2, 1, 0] rfl)
set_option maxHeartbeats 4000000 in
set_option maxRecDepth 100000 in
theorem tX11_count_b126_body {B126 : (Nat → Int32) → (Nat → Nat → Int32) → Int32 → Int32 → Prop} {K : Int32 → ((Nat → Int32) × (Nat → Nat → Int32)) → Prop} (C : CallFix p m c cX11_count 4 s args wsX11_count RX11) (hR : Rti .int p l e rmX11_count s m args below meth c cX11_count D A (mT cI cZ) (mWu o h cI cZ) K Q) (hB126 : ∀ (f : Nat → Int32) (g : Nat → Nat → Int32) (x2 : Int32) (x3 : Int32) (H : Heap) (locs : List Loc) (ls : Array Slot), B126 f g x2 x3 → Wd D A s (mT cI cZ) (mW o h cI cZ f g) H locs → lv_has ls 4 [(0, .ref o), (2, .int x2), (3, .int x3)] → W p l e rmX11_count s m args below meth c H locs 0 0 Q (F0 m 126 ls [])) {f : Nat → Int32} {g : Nat → Nat → Int32} {x2 : Int32} {x3 : Int32} (hh : wpX11_count_b126_body B126 f g x2 x3 K) {H : Heap} {locs : List Loc} {ls : Array Slot} (hw : Wd D A s (mT cI cZ) (mW o h cI cZ f g) H locs) (hl : lv_has ls 4 [(0, .ref o), (2, .int x2), (3, .int x3)]) : W p l e rmX11_count s m args below meth c H locs 0 0 Q (F0 m 126 ls []) := by
  unfold wpX11_count_b126_body at hh
  refine lv_iload_n C.1 C.2.1 dX11_count_126 rfl (lv_at hl 2 rfl) ?_
  refine lv_iconst (v := (4 : Int32)) C.1 C.2.1 dX11_count_127 (by decide) ?_
  refine lv_icmp_ge (tgt := 154) C.1 C.2.1 dX11_count_128 (by decide) (fun c128 => ?_) (fun c128 => ?_)
  · replace hh := hh.1 c128
    refine lv_iload_n C.1 C.2.1 dX11_count_154 rfl (lv_at hl 1 rfl) ?_
    exact hR _ _ _ (f, g) _ _ dX11_count_155 rfl hh hw
  · replace hh := hh.2 c128
    refine lv_iload_n C.1 C.2.1 dX11_count_131 rfl (lv_at hl 1 rfl) ?_
    refine lv_aload_n C.1 C.2.1 dX11_count_132 rfl (lv_at hl 0 rfl) ?_
    refine m_ga C hw (inC inW11) 56 (by decide) (wc w_1518) mg_56 dX11_count_133 ?_
    refine lv_iload_n C.1 C.2.1 dX11_count_136 rfl (lv_at hl 2 rfl) ?_
    obtain ⟨hi137, hh⟩ := hh
    refine m_zal C hw mp_56 (x := g 56 (ix x3)) hi137 rfl dX11_count_137 ?_
    refine lv_if_eq (tgt := 145) C.1 C.2.1 dX11_count_138 (by decide) (fun c138 => ?_) (fun c138 => ?_)
    · replace hh := hh.1 c138
      refine lv_iconst (v := (0 : Int32)) C.1 C.2.1 dX11_count_145 (by decide) ?_
      exact tX11_count_b146 C hR hB126 hh hw (lv_sub hl [0, 2] rfl)
    · replace hh := hh.2 c138
      refine lv_iconst (v := (1 : Int32)) C.1 C.2.1 dX11_count_141 (by decide) ?_
      refine lv_goto (tgt := 146) C.1 C.2.1 dX11_count_142 (by decide) ?_
      exact tX11_count_b146 C hR hB126 hh hw (lv_sub hl [0, 2] rfl)
theorem tX11_count_b126 {K : Int32 → ((Nat → Int32) × (Nat → Nat → Int32)) → Prop} (C : CallFix p m c cX11_count 4 s args wsX11_count RX11) (hR : Rti .int p l e rmX11_count s m args below meth c cX11_count D A (mT cI cZ) (mWu o h cI cZ) K Q) (n : Nat) : ∀ (f : Nat → Int32) (g : Nat → Nat → Int32) (x2 : Int32) (x3 : Int32) (H : Heap) (locs : List Loc) (ls : Array Slot), wpX11_count_b126 n f g x2 x3 K → Wd D A s (mT cI cZ) (mW o h cI cZ f g) H locs → lv_has ls 4 [(0, .ref o), (2, .int x2), (3, .int x3)] → W p l e rmX11_count s m args below meth c H locs 0 0 Q (F0 m 126 ls []) := by
  induction n with
  | zero => intro f g x2 x3 H locs ls hh; exact hh.elim
  | succ n ih => intro f g x2 x3 H locs ls hh hw hl; exact tX11_count_b126_body C hR ih hh hw hl
set_option maxHeartbeats 4000000 in
set_option maxRecDepth 100000 in
theorem tX11_count_b0 {K : Int32 → ((Nat → Int32) × (Nat → Nat → Int32)) → Prop} (C : CallFix p m c cX11_count 4 s args wsX11_count RX11) (hR : Rti .int p l e rmX11_count s m args below meth c cX11_count D A (mT cI cZ) (mWu o h cI cZ) K Q) {f : Nat → Int32} {g : Nat → Nat → Int32} {x1 : Int32} (hh : wpX11_count_b0 f g x1 K) {H : Heap} {locs : List Loc} {ls : Array Slot} (hw : Wd D A s (mT cI cZ) (mW o h cI cZ f g) H locs) (hl : lv_has ls 4 [(0, .ref o), (1, .int x1)]) : W p l e rmX11_count s m args below meth c H locs 0 0 Q (F0 m 0 ls []) := by
  unfold wpX11_count_b0 at hh
  refine lv_aload_n C.1 C.2.1 dX11_count_0 rfl (lv_at hl 0 rfl) ?_
  refine lv_iconst (v := (0 : Int32)) C.1 C.2.1 dX11_count_1 (by decide) ?_
  refine m_pi C hw (inC inW11) 2 (by decide) (wc w_1464) rfl (ty := .int) (by decide +kernel) rfl rfl (Nat.le_of_ble_eq_true rfl) ms_2 dX11_count_2 (fun H locs hw => ?_)
  refine lv_iconst (v := (0 : Int32)) C.1 C.2.1 dX11_count_5 (by decide) ?_
  refine lv_istore_n (lv' := [(2, .int (0 : Int32)), (0, .ref o), (1, .int x1)]) C.1 C.2.1 dX11_count_6 rfl hl (by decide) rfl (fun ls hl => ?_)
  refine lv_iload_n C.1 C.2.1 dX11_count_7 rfl (lv_at hl 2 rfl) ?_
  refine sw_in (x := x1) (lo := 0) (hi := 6) (fun hlo hhi => ?_) (fun ho => ?_)
  · have hv : (x1).toInt = 0 ∨ (x1).toInt = 1 ∨ (x1).toInt = 2 ∨ (x1).toInt = 3 ∨ (x1).toInt = 4 ∨ (x1).toInt = 5 ∨ (x1).toInt = 6 := by omega
    rcases hv with hv | hv | hv | hv | hv | hv | hv
    · replace hh := hh.1 (sw_eq hv (by decide))
      refine lv_tableIn (off := 44) (tgt := 52) C.1 C.2.1 dX11_count_8 hlo hhi (by rw [hv]; rfl) (by decide) ?_
      refine lv_aload_n C.1 C.2.1 dX11_count_52 rfl (lv_at hl 1 rfl) ?_
      refine m_Vi C hw (ctX11_squares l D o h cI cZ (upd f 2 (0 : Int32)) g  hh) (cwV 0 C.2.2.2.2 (gd_V w_1454 w_1456 w_54 w_125 w_1457) rfl rfl rfl cdX11_squares ⟨Nat.le_of_ble_eq_true rfl, Nat.le_of_ble_eq_true rfl⟩) rfl hl.1 (Nat.le_of_ble_eq_true rfl) dX11_count_53 ⟨Nat.zero_le _, Nat.zero_le _⟩ (fun r53 u53 H locs hh hw => ?_) rfl
      exact hR _ _ _ (u53.1, u53.2) _ _ dX11_count_56 rfl hh hw
    · replace hh := hh.2.1 (sw_eq hv (by decide))
      refine lv_tableIn (off := 49) (tgt := 57) C.1 C.2.1 dX11_count_8 hlo hhi (by rw [hv]; rfl) (by decide) ?_
      refine lv_aload_n C.1 C.2.1 dX11_count_57 rfl (lv_at hl 1 rfl) ?_
      refine m_gi C hw (inC inW11) 12 (by decide) (wc w_1474) mg_12 (x := f 12) rfl dX11_count_58 ?_
      exact hR _ _ _ (upd f 2 (0 : Int32), g) _ _ dX11_count_61 rfl hh hw
    · replace hh := hh.2.2.1 (sw_eq hv (by decide))
      refine lv_tableIn (off := 54) (tgt := 62) C.1 C.2.1 dX11_count_8 hlo hhi (by rw [hv]; rfl) (by decide) ?_
      refine lv_aload_n C.1 C.2.1 dX11_count_62 rfl (lv_at hl 1 rfl) ?_
      refine m_gi C hw (inC inW11) 20 (by decide) (wc w_1482) mg_20 (x := f 20) rfl dX11_count_63 ?_
      exact hR _ _ _ (upd f 2 (0 : Int32), g) _ _ dX11_count_66 rfl hh hw
    · replace hh := hh.2.2.2.1 (sw_eq hv (by decide))
      refine lv_tableIn (off := 59) (tgt := 67) C.1 C.2.1 dX11_count_8 hlo hhi (by rw [hv]; rfl) (by decide) ?_
      refine lv_aload_n C.1 C.2.1 dX11_count_67 rfl (lv_at hl 1 rfl) ?_
      refine m_gi C hw (inC inW11) 22 (by decide) (wc w_1484) mg_22 (x := f 22) rfl dX11_count_68 ?_
      exact hR _ _ _ (upd f 2 (0 : Int32), g) _ _ dX11_count_71 rfl hh hw
    · replace hh := hh.2.2.2.2.1 (sw_eq hv (by decide))
      refine lv_tableIn (off := 64) (tgt := 72) C.1 C.2.1 dX11_count_8 hlo hhi (by rw [hv]; rfl) (by decide) ?_
      refine lv_iconst (v := (0 : Int32)) C.1 C.2.1 dX11_count_72 (by decide) ?_
      refine lv_istore_n (lv' := [(3, .int (0 : Int32)), (2, .int (0 : Int32)), (0, .ref o), (1, .int x1)]) C.1 C.2.1 dX11_count_73 rfl hl (by decide) rfl (fun ls hl => ?_)
      obtain ⟨n, hh⟩ := hh
      exact tX11_count_b74 C hR n _ _ _ _ _ _ _ hh hw (lv_sub hl [2, 1, 0] rfl)
    · replace hh := hh.2.2.2.2.2.1 (sw_eq hv (by decide))
      refine lv_tableIn (off := 111) (tgt := 119) C.1 C.2.1 dX11_count_8 hlo hhi (by rw [hv]; rfl) (by decide) ?_
      refine lv_aload_n C.1 C.2.1 dX11_count_119 rfl (lv_at hl 1 rfl) ?_
      refine m_gi C hw (inC inW11) 40 (by decide) (wc w_1502) mg_40 (x := f 40) rfl dX11_count_120 ?_
      exact hR _ _ _ (upd f 2 (0 : Int32), g) _ _ dX11_count_123 rfl hh hw
    · replace hh := hh.2.2.2.2.2.2.1 (sw_eq hv (by decide))
      refine lv_tableIn (off := 116) (tgt := 124) C.1 C.2.1 dX11_count_8 hlo hhi (by rw [hv]; rfl) (by decide) ?_
      refine lv_iconst (v := (0 : Int32)) C.1 C.2.1 dX11_count_124 (by decide) ?_
      refine lv_istore_n (lv' := [(3, .int (0 : Int32)), (2, .int (0 : Int32)), (0, .ref o), (1, .int x1)]) C.1 C.2.1 dX11_count_125 rfl hl (by decide) rfl (fun ls hl => ?_)
      obtain ⟨n, hh⟩ := hh
      exact tX11_count_b126 C hR n _ _ _ _ _ _ _ hh hw (lv_sub hl [2, 1, 0] rfl)
  · replace hh := hh.2.2.2.2.2.2.2 ho
    refine lv_tableOut (tgt := 156) C.1 C.2.1 dX11_count_8 ho (by decide) ?_
    refine lv_iconst (v := (-1 : Int32)) C.1 C.2.1 dX11_count_156 (by decide) ?_
    exact hR _ _ _ (upd f 2 (0 : Int32), g) _ _ dX11_count_157 rfl hh hw
theorem ctX11_count (l : Launch) (D : va_G) (o : Nat) (h : Nat → Nat) (cI cZ : ClassId) (f : Nat → Int32) (g : Nat → Nat → Int32) (x1 : Int32) {K : Int32 → ((Nat → Int32) × (Nat → Nat → Int32)) → Prop} (hh : wpX11_count f g x1 K) : Ci l yX11_count wsX11_count rmX11_count [.ref o, .int x1] D (mT cI cZ) (mWu o h cI cZ) (f, g) K := by
  refine Ci_of (cc := cX11_count) (maxL := 4) (by decide) rfl (Nat.le_of_ble_eq_true rfl) ?_
  intro p e s m below meth c A Q C hw hR ls hl
  exact tX11_count_b0 C hR hh hw hl
theorem cdX11_count : yX11_count.cls = RX11 ∧ yX11_count.cls ≠ "java/lang/invoke/MethodHandle" ∧ yX11_count.cls ≠ "java/lang/invoke/VarHandle" ∧ (parseMethodDescriptor yX11_count.desc).map (fun d => d.parameters.length) = some 1 := by decide +kernel
end
