section
variable {p : Program} {l : Launch} {e : Env} {s : State} {m : MethodId} {args : Array Value} {below : List Frame} {meth : Method} {c : Code} {D : va_G} {A : Nat → Prop} {o : Nat} {h : Nat → Nat} {cI cZ : ClassId} {Q : State → Prop}
abbrev rmX11_relayRead : Room := { frames := 0, cells := 0, slots := 0, locals := 0 }
set_option maxHeartbeats 4000000 in
set_option maxRecDepth 100000 in
theorem tX11_relayRead_b2_body {B2 : (Nat → Int32) → (Nat → Nat → Int32) → Int32 → Int32 → Prop} {K : Int32 → ((Nat → Int32) × (Nat → Nat → Int32)) → Prop} (C : CallFix p m c cX11_relayRead 3 s args wsX11_relayRead RX11) (hR : Rti .int p l e rmX11_relayRead s m args below meth c cX11_relayRead D A (mT cI cZ) (mWu o h cI cZ) K Q) (hB2 : ∀ (f : Nat → Int32) (g : Nat → Nat → Int32) (x1 : Int32) (x2 : Int32) (H : Heap) (locs : List Loc) (ls : Array Slot), B2 f g x1 x2 → Wd D A s (mT cI cZ) (mW o h cI cZ f g) H locs → lv_has ls 3 [(0, .ref o), (1, .int x1), (2, .int x2)] → W p l e rmX11_relayRead s m args below meth c H locs 0 0 Q (F0 m 2 ls [])) {f : Nat → Int32} {g : Nat → Nat → Int32} {x1 : Int32} {x2 : Int32} (hh : wpX11_relayRead_b2_body B2 f g x1 x2 K) {H : Heap} {locs : List Loc} {ls : Array Slot} (hw : Wd D A s (mT cI cZ) (mW o h cI cZ f g) H locs) (hl : lv_has ls 3 [(0, .ref o), (1, .int x1), (2, .int x2)]) : W p l e rmX11_relayRead s m args below meth c H locs 0 0 Q (F0 m 2 ls []) := by
  unfold wpX11_relayRead_b2_body at hh
  refine lv_iload_n C.1 C.2.1 dX11_relayRead_2 rfl (lv_at hl 2 rfl) ?_
  refine lv_aload_n C.1 C.2.1 dX11_relayRead_3 rfl (lv_at hl 0 rfl) ?_
  refine m_gi C hw (inC inW11) 21 (by decide) (wc w_1483) mg_21 (x := f 21) rfl dX11_relayRead_4 ?_
  refine lv_icmp_ge (tgt := 31) C.1 C.2.1 dX11_relayRead_7 (by decide) (fun c7 => ?_) (fun c7 => ?_)
  · replace hh := hh.1 c7
    refine lv_iconst (v := (-1 : Int32)) C.1 C.2.1 dX11_relayRead_31 (by decide) ?_
    exact hR _ _ _ (f, g) _ _ dX11_relayRead_32 rfl hh hw
  · replace hh := hh.2 c7
    refine lv_aload_n C.1 C.2.1 dX11_relayRead_10 rfl (lv_at hl 0 rfl) ?_
    refine m_ga C hw (inC inW11) 24 (by decide) (wc w_1486) mg_24 dX11_relayRead_11 ?_
    refine lv_bipush (v := (20 : Int32)) C.1 C.2.1 dX11_relayRead_14 (by decide) ?_
    refine lv_iload_n C.1 C.2.1 dX11_relayRead_16 rfl (lv_at hl 2 rfl) ?_
    refine lv_iadd C.1 C.2.1 dX11_relayRead_17 ?_
    obtain ⟨hi18, hh⟩ := hh
    refine m_ial C hw mp_24 (x := g 24 (ix ((20 : Int32) + x2))) hi18 rfl dX11_relayRead_18 ?_
    refine lv_iload_n C.1 C.2.1 dX11_relayRead_19 rfl (lv_at hl 1 rfl) ?_
    refine lv_icmp_ne (tgt := 25) C.1 C.2.1 dX11_relayRead_20 (by decide) (fun c20 => ?_) (fun c20 => ?_)
    · replace hh := hh.1 c20
      refine lv_iinc (v := x2 + (1 : Int32)) (lv' := [(2, .int (x2 + (1 : Int32))), (0, .ref o), (1, .int x1)]) C.1 C.2.1 dX11_relayRead_25 hl (k := 2) rfl rfl (by decide) rfl (fun ls hl => ?_)
      refine lv_goto (tgt := 2) C.1 C.2.1 dX11_relayRead_28 (by decide) ?_
      exact hB2 _ _ _ _ _ _ _ hh hw (lv_sub hl [1, 2, 0] rfl)
    · replace hh := hh.2 c20
      refine lv_iload_n C.1 C.2.1 dX11_relayRead_23 rfl (lv_at hl 2 rfl) ?_
      exact hR _ _ _ (f, g) _ _ dX11_relayRead_24 rfl hh hw
theorem tX11_relayRead_b2 {K : Int32 → ((Nat → Int32) × (Nat → Nat → Int32)) → Prop} (C : CallFix p m c cX11_relayRead 3 s args wsX11_relayRead RX11) (hR : Rti .int p l e rmX11_relayRead s m args below meth c cX11_relayRead D A (mT cI cZ) (mWu o h cI cZ) K Q) (n : Nat) : ∀ (f : Nat → Int32) (g : Nat → Nat → Int32) (x1 : Int32) (x2 : Int32) (H : Heap) (locs : List Loc) (ls : Array Slot), wpX11_relayRead_b2 n f g x1 x2 K → Wd D A s (mT cI cZ) (mW o h cI cZ f g) H locs → lv_has ls 3 [(0, .ref o), (1, .int x1), (2, .int x2)] → W p l e rmX11_relayRead s m args below meth c H locs 0 0 Q (F0 m 2 ls []) := by
  induction n with
  | zero => intro f g x1 x2 H locs ls hh; exact hh.elim
  | succ n ih => intro f g x1 x2 H locs ls hh hw hl; exact tX11_relayRead_b2_body C hR ih hh hw hl
set_option maxHeartbeats 4000000 in
set_option maxRecDepth 100000 in
theorem tX11_relayRead_b0 {K : Int32 → ((Nat → Int32) × (Nat → Nat → Int32)) → Prop} (C : CallFix p m c cX11_relayRead 3 s args wsX11_relayRead RX11) (hR : Rti .int p l e rmX11_relayRead s m args below meth c cX11_relayRead D A (mT cI cZ) (mWu o h cI cZ) K Q) {f : Nat → Int32} {g : Nat → Nat → Int32} {x1 : Int32} (hh : wpX11_relayRead_b0 f g x1 K) {H : Heap} {locs : List Loc} {ls : Array Slot} (hw : Wd D A s (mT cI cZ) (mW o h cI cZ f g) H locs) (hl : lv_has ls 3 [(0, .ref o), (1, .int x1)]) : W p l e rmX11_relayRead s m args below meth c H locs 0 0 Q (F0 m 0 ls []) := by
  unfold wpX11_relayRead_b0 at hh
  refine lv_iconst (v := (0 : Int32)) C.1 C.2.1 dX11_relayRead_0 (by decide) ?_
  refine lv_istore_n (lv' := [(2, .int (0 : Int32)), (0, .ref o), (1, .int x1)]) C.1 C.2.1 dX11_relayRead_1 rfl hl (by decide) rfl (fun ls hl => ?_)
  obtain ⟨n, hh⟩ := hh
  exact tX11_relayRead_b2 C hR n _ _ _ _ _ _ _ hh hw (lv_sub hl [1, 2, 0] rfl)
theorem ctX11_relayRead (l : Launch) (D : va_G) (o : Nat) (h : Nat → Nat) (cI cZ : ClassId) (f : Nat → Int32) (g : Nat → Nat → Int32) (x1 : Int32) {K : Int32 → ((Nat → Int32) × (Nat → Nat → Int32)) → Prop} (hh : wpX11_relayRead f g x1 K) : Ci l yX11_relayRead wsX11_relayRead rmX11_relayRead [.ref o, .int x1] D (mT cI cZ) (mWu o h cI cZ) (f, g) K := by
  refine Ci_of (cc := cX11_relayRead) (maxL := 3) (by decide) rfl (Nat.le_of_ble_eq_true rfl) ?_
  intro p e s m below meth c A Q C hw hR ls hl
  exact tX11_relayRead_b0 C hR hh hw hl
theorem cdX11_relayRead : yX11_relayRead.cls = RX11 ∧ yX11_relayRead.cls ≠ "java/lang/invoke/MethodHandle" ∧ yX11_relayRead.cls ≠ "java/lang/invoke/VarHandle" ∧ (parseMethodDescriptor yX11_relayRead.desc).map (fun d => d.parameters.length) = some 1 := by decide +kernel
abbrev rmX11_netLine : Room := { frames := 4, cells := 0, slots := 0, locals := 90 }
set_option maxHeartbeats 4000000 in
set_option maxRecDepth 100000 in
theorem tX11_netLine_b221 {K : Int32 → ((Nat → Int32) × (Nat → Nat → Int32)) → Prop} (C : CallFix p m c cX11_netLine 2 s args wsX11_netLine RX11) (hR : Rti .boolean p l e rmX11_netLine s m args below meth c cX11_netLine D A (mT cI cZ) (mWu o h cI cZ) K Q) {f : Nat → Int32} {g : Nat → Nat → Int32} {k0 : Int32} (hh : wpX11_netLine_b221 f g k0 K) {H : Heap} {locs : List Loc} {ls : Array Slot} (hw : Wd D A s (mT cI cZ) (mW o h cI cZ f g) H locs) (hl : lv_has ls 2 [(0, .ref o)]) : W p l e rmX11_netLine s m args below meth c H locs 0 0 Q (F0 m 221 ls [.int k0]) := by
  unfold wpX11_netLine_b221 at hh
  obtain ⟨hb221, hh⟩ := hh
  exact hR _ _ _ (f, g) _ _ dX11_netLine_221 (isB_nar hb221) hh hw
set_option maxHeartbeats 4000000 in
set_option maxRecDepth 100000 in
theorem tX11_netLine_b220 {K : Int32 → ((Nat → Int32) × (Nat → Nat → Int32)) → Prop} (C : CallFix p m c cX11_netLine 2 s args wsX11_netLine RX11) (hR : Rti .boolean p l e rmX11_netLine s m args below meth c cX11_netLine D A (mT cI cZ) (mWu o h cI cZ) K Q) {f : Nat → Int32} {g : Nat → Nat → Int32} (hh : wpX11_netLine_b220 f g K) {H : Heap} {locs : List Loc} {ls : Array Slot} (hw : Wd D A s (mT cI cZ) (mW o h cI cZ f g) H locs) (hl : lv_has ls 2 [(0, .ref o)]) : W p l e rmX11_netLine s m args below meth c H locs 0 0 Q (F0 m 220 ls []) := by
  unfold wpX11_netLine_b220 at hh
  refine lv_iconst (v := (0 : Int32)) C.1 C.2.1 dX11_netLine_220 (by decide) ?_
  exact tX11_netLine_b221 C hR hh hw hl
set_option maxHeartbeats 4000000 in
set_option maxRecDepth 100000 in
theorem tX11_netLine_b195 {K : Int32 → ((Nat → Int32) × (Nat → Nat → Int32)) → Prop} (C : CallFix p m c cX11_netLine 2 s args wsX11_netLine RX11) (hR : Rti .boolean p l e rmX11_netLine s m args below meth c cX11_netLine D A (mT cI cZ) (mWu o h cI cZ) K Q) {f : Nat → Int32} {g : Nat → Nat → Int32} {x1 : Int32} (hh : wpX11_netLine_b195 f g x1 K) {H : Heap} {locs : List Loc} {ls : Array Slot} (hw : Wd D A s (mT cI cZ) (mW o h cI cZ f g) H locs) (hl : lv_has ls 2 [(0, .ref o), (1, .int x1)]) : W p l e rmX11_netLine s m args below meth c H locs 0 0 Q (F0 m 195 ls []) := by
  unfold wpX11_netLine_b195 at hh
  refine lv_aload_n C.1 C.2.1 dX11_netLine_195 rfl (lv_at hl 0 rfl) ?_
  refine m_Vv C hw (ctX11_take l D o h cI cZ f g  hh) (cwV 0 C.2.2.2.2 (gd_V w_1698 w_1700 w_57 w_125 w_1701) rfl rfl rfl cdX11_take ⟨Nat.le_of_ble_eq_true rfl, Nat.le_of_ble_eq_true rfl⟩) rfl hl.1 (Nat.le_of_ble_eq_true rfl) dX11_netLine_196 ⟨Nat.zero_le _, Nat.zero_le _⟩ (fun u196 H locs hh hw => ?_) rfl
  refine lv_aload_n C.1 C.2.1 dX11_netLine_199 rfl (lv_at hl 0 rfl) ?_
  refine lv_bipush (v := (61 : Int32)) C.1 C.2.1 dX11_netLine_200 (by decide) ?_
  refine m_Vi C hw (ctX11_signRead l D o h cI cZ u196.1 u196.2 (61 : Int32) hh) (cwV 1 C.2.2.2.2 (gd_V w_1765 w_1767 w_71 w_125 w_1768) rfl rfl rfl cdX11_signRead ⟨Nat.le_of_ble_eq_true rfl, Nat.le_of_ble_eq_true rfl⟩) rfl hl.1 (Nat.le_of_ble_eq_true rfl) dX11_netLine_202 ⟨Nat.zero_le _, Nat.zero_le _⟩ (fun r202 u202 H locs hh hw => ?_) rfl
  refine lv_if_eq (tgt := 220) C.1 C.2.1 dX11_netLine_205 (by decide) (fun c205 => ?_) (fun c205 => ?_)
  · replace hh := hh.1 c205
    exact tX11_netLine_b220 C hR hh hw (lv_sub hl [0] rfl)
  · replace hh := hh.2 c205
    refine lv_aload_n C.1 C.2.1 dX11_netLine_208 rfl (lv_at hl 0 rfl) ?_
    refine lv_iload_n C.1 C.2.1 dX11_netLine_209 rfl (lv_at hl 1 rfl) ?_
    refine m_Vi C hw (ctX11_partRead l D o h cI cZ u202.1 u202.2 x1 hh) (cwV 1 C.2.2.2.2 (gd_V w_1769 w_1771 w_72 w_125 w_1772) rfl rfl rfl cdX11_partRead ⟨Nat.le_of_ble_eq_true rfl, Nat.le_of_ble_eq_true rfl⟩) rfl hl.1 (Nat.le_of_ble_eq_true rfl) dX11_netLine_210 ⟨Nat.zero_le _, Nat.zero_le _⟩ (fun r210 u210 H locs hh hw => ?_) rfl
    refine lv_if_eq (tgt := 220) C.1 C.2.1 dX11_netLine_213 (by decide) (fun c213 => ?_) (fun c213 => ?_)
    · replace hh := hh.1 c213
      exact tX11_netLine_b220 C hR hh hw (lv_sub hl [0] rfl)
    · replace hh := hh.2 c213
      refine lv_iconst (v := (1 : Int32)) C.1 C.2.1 dX11_netLine_216 (by decide) ?_
      refine lv_goto (tgt := 221) C.1 C.2.1 dX11_netLine_217 (by decide) ?_
      exact tX11_netLine_b221 C hR hh hw (lv_sub hl [0] rfl)
set_option maxHeartbeats 4000000 in
set_option maxRecDepth 100000 in
theorem tX11_netLine_b170 {K : Int32 → ((Nat → Int32) × (Nat → Nat → Int32)) → Prop} (C : CallFix p m c cX11_netLine 2 s args wsX11_netLine RX11) (hR : Rti .boolean p l e rmX11_netLine s m args below meth c cX11_netLine D A (mT cI cZ) (mWu o h cI cZ) K Q) {f : Nat → Int32} {g : Nat → Nat → Int32} {k0 : Int32} (hh : wpX11_netLine_b170 f g k0 K) {H : Heap} {locs : List Loc} {ls : Array Slot} (hw : Wd D A s (mT cI cZ) (mW o h cI cZ f g) H locs) (hl : lv_has ls 2 [(0, .ref o)]) : W p l e rmX11_netLine s m args below meth c H locs 0 0 Q (F0 m 170 ls [.int k0]) := by
  unfold wpX11_netLine_b170 at hh
  refine lv_istore_n (lv' := [(1, .int k0), (0, .ref o)]) C.1 C.2.1 dX11_netLine_170 rfl hl (by decide) rfl (fun ls hl => ?_)
  refine lv_aload_n C.1 C.2.1 dX11_netLine_171 rfl (lv_at hl 1 rfl) ?_
  refine m_ga C hw (inC inW11) 26 (by decide) (wc w_1488) mg_26 dX11_netLine_172 ?_
  refine lv_bipush (v := (24 : Int32)) C.1 C.2.1 dX11_netLine_175 (by decide) ?_
  refine lv_iload_n C.1 C.2.1 dX11_netLine_177 rfl (lv_at hl 0 rfl) ?_
  refine lv_iadd C.1 C.2.1 dX11_netLine_178 ?_
  obtain ⟨hi179, hh⟩ := hh
  refine m_ial C hw mp_26 (x := g 26 (ix ((24 : Int32) + k0))) hi179 rfl dX11_netLine_179 ?_
  refine lv_if_le (tgt := 195) C.1 C.2.1 dX11_netLine_180 (by decide) (fun c180 => ?_) (fun c180 => ?_)
  · replace hh := hh.1 c180
    exact tX11_netLine_b195 C hR hh hw (lv_sub hl [1, 0] rfl)
  · replace hh := hh.2 c180
    refine lv_aload_n C.1 C.2.1 dX11_netLine_183 rfl (lv_at hl 1 rfl) ?_
    refine lv_iconst (v := (3 : Int32)) C.1 C.2.1 dX11_netLine_184 (by decide) ?_
    refine m_Vi C hw (ctX11_wrong l D o h cI cZ f g (3 : Int32) hh) (cwV 1 C.2.2.2.2 (gd_V w_1729 w_1731 w_64 w_125 w_1732) rfl rfl rfl cdX11_wrong ⟨Nat.le_of_ble_eq_true rfl, Nat.le_of_ble_eq_true rfl⟩) rfl hl.1 (Nat.le_of_ble_eq_true rfl) dX11_netLine_185 ⟨Nat.zero_le _, Nat.zero_le _⟩ (fun r185 u185 H locs hh hw => ?_) rfl
    obtain ⟨hb188, hh⟩ := hh
    exact hR _ _ _ (u185.1, u185.2) _ _ dX11_netLine_188 (isB_nar hb188) hh hw
set_option maxHeartbeats 4000000 in
set_option maxRecDepth 100000 in
theorem tX11_netLine_b126 {K : Int32 → ((Nat → Int32) × (Nat → Nat → Int32)) → Prop} (C : CallFix p m c cX11_netLine 2 s args wsX11_netLine RX11) (hR : Rti .boolean p l e rmX11_netLine s m args below meth c cX11_netLine D A (mT cI cZ) (mWu o h cI cZ) K Q) {f : Nat → Int32} {g : Nat → Nat → Int32} (hh : wpX11_netLine_b126 f g K) {H : Heap} {locs : List Loc} {ls : Array Slot} (hw : Wd D A s (mT cI cZ) (mW o h cI cZ f g) H locs) (hl : lv_has ls 2 [(0, .ref o)]) : W p l e rmX11_netLine s m args below meth c H locs 0 0 Q (F0 m 126 ls []) := by
  unfold wpX11_netLine_b126 at hh
  refine lv_aload_n C.1 C.2.1 dX11_netLine_126 rfl (lv_at hl 0 rfl) ?_
  refine m_gi C hw (inC inW11) 9 (by decide) (wc w_1471) mg_9 (x := f 9) rfl dX11_netLine_127 ?_
  refine lv_bipush (v := (14 : Int32)) C.1 C.2.1 dX11_netLine_130 (by decide) ?_
  refine lv_icmp_ne (tgt := 140) C.1 C.2.1 dX11_netLine_132 (by decide) (fun c132 => ?_) (fun c132 => ?_)
  · replace hh := hh.1 c132
    refine lv_aload_n C.1 C.2.1 dX11_netLine_140 rfl (lv_at hl 0 rfl) ?_
    refine m_gi C hw (inC inW11) 9 (by decide) (wc w_1471) mg_9 (x := f 9) rfl dX11_netLine_141 ?_
    refine lv_bipush (v := (10 : Int32)) C.1 C.2.1 dX11_netLine_144 (by decide) ?_
    refine lv_icmp_ne (tgt := 154) C.1 C.2.1 dX11_netLine_146 (by decide) (fun c146 => ?_) (fun c146 => ?_)
    · replace hh := hh.1 c146
      refine lv_aload_n C.1 C.2.1 dX11_netLine_154 rfl (lv_at hl 0 rfl) ?_
      refine m_gi C hw (inC inW11) 9 (by decide) (wc w_1471) mg_9 (x := f 9) rfl dX11_netLine_155 ?_
      refine lv_bipush (v := (9 : Int32)) C.1 C.2.1 dX11_netLine_158 (by decide) ?_
      refine lv_icmp_ne (tgt := 168) C.1 C.2.1 dX11_netLine_160 (by decide) (fun c160 => ?_) (fun c160 => ?_)
      · replace hh := hh.1 c160
        refine lv_bipush (v := (23 : Int32)) C.1 C.2.1 dX11_netLine_168 (by decide) ?_
        exact tX11_netLine_b170 C hR hh hw hl
      · replace hh := hh.2 c160
        refine lv_bipush (v := (22 : Int32)) C.1 C.2.1 dX11_netLine_163 (by decide) ?_
        refine lv_goto (tgt := 170) C.1 C.2.1 dX11_netLine_165 (by decide) ?_
        exact tX11_netLine_b170 C hR hh hw hl
    · replace hh := hh.2 c146
      refine lv_bipush (v := (21 : Int32)) C.1 C.2.1 dX11_netLine_149 (by decide) ?_
      refine lv_goto (tgt := 170) C.1 C.2.1 dX11_netLine_151 (by decide) ?_
      exact tX11_netLine_b170 C hR hh hw hl
  · replace hh := hh.2 c132
    refine lv_bipush (v := (20 : Int32)) C.1 C.2.1 dX11_netLine_135 (by decide) ?_
    refine lv_goto (tgt := 170) C.1 C.2.1 dX11_netLine_137 (by decide) ?_
    exact tX11_netLine_b170 C hR hh hw hl
set_option maxHeartbeats 4000000 in
set_option maxRecDepth 100000 in
theorem tX11_netLine_b0 {K : Int32 → ((Nat → Int32) × (Nat → Nat → Int32)) → Prop} (C : CallFix p m c cX11_netLine 2 s args wsX11_netLine RX11) (hR : Rti .boolean p l e rmX11_netLine s m args below meth c cX11_netLine D A (mT cI cZ) (mWu o h cI cZ) K Q) {f : Nat → Int32} {g : Nat → Nat → Int32} (hh : wpX11_netLine_b0 f g K) {H : Heap} {locs : List Loc} {ls : Array Slot} (hw : Wd D A s (mT cI cZ) (mW o h cI cZ f g) H locs) (hl : lv_has ls 2 [(0, .ref o)]) : W p l e rmX11_netLine s m args below meth c H locs 0 0 Q (F0 m 0 ls []) := by
  unfold wpX11_netLine_b0 at hh
  refine lv_aload_n C.1 C.2.1 dX11_netLine_0 rfl (lv_at hl 0 rfl) ?_
  refine lv_bipush (v := (20 : Int32)) C.1 C.2.1 dX11_netLine_1 (by decide) ?_
  refine m_Vi C hw (ctX11_isKey l D o h cI cZ f g (20 : Int32) hh) (cwV 1 C.2.2.2.2 (gd_V w_1725 w_1727 w_63 w_125 w_1728) rfl rfl rfl cdX11_isKey ⟨Nat.le_of_ble_eq_true rfl, Nat.le_of_ble_eq_true rfl⟩) rfl hl.1 (Nat.le_of_ble_eq_true rfl) dX11_netLine_3 ⟨Nat.zero_le _, Nat.zero_le _⟩ (fun r3 u3 H locs hh hw => ?_) rfl
  refine lv_if_eq (tgt := 90) C.1 C.2.1 dX11_netLine_6 (by decide) (fun c6 => ?_) (fun c6 => ?_)
  · replace hh := hh.1 c6
    refine lv_aload_n C.1 C.2.1 dX11_netLine_90 rfl (lv_at hl 0 rfl) ?_
    refine lv_bipush (v := (14 : Int32)) C.1 C.2.1 dX11_netLine_91 (by decide) ?_
    refine m_Vi C hw (ctX11_isKey l D o h cI cZ u3.1 u3.2 (14 : Int32) hh) (cwV 1 C.2.2.2.2 (gd_V w_1725 w_1727 w_63 w_125 w_1728) rfl rfl rfl cdX11_isKey ⟨Nat.le_of_ble_eq_true rfl, Nat.le_of_ble_eq_true rfl⟩) rfl hl.1 (Nat.le_of_ble_eq_true rfl) dX11_netLine_93 ⟨Nat.zero_le _, Nat.zero_le _⟩ (fun r93 u93 H locs hh hw => ?_) rfl
    refine lv_if_ne (tgt := 126) C.1 C.2.1 dX11_netLine_96 (by decide) (fun c96 => ?_) (fun c96 => ?_)
    · replace hh := hh.1 c96
      exact tX11_netLine_b126 C hR hh hw hl
    · replace hh := hh.2 c96
      refine lv_aload_n C.1 C.2.1 dX11_netLine_99 rfl (lv_at hl 0 rfl) ?_
      refine lv_bipush (v := (10 : Int32)) C.1 C.2.1 dX11_netLine_100 (by decide) ?_
      refine m_Vi C hw (ctX11_isKey l D o h cI cZ u93.1 u93.2 (10 : Int32) hh) (cwV 1 C.2.2.2.2 (gd_V w_1725 w_1727 w_63 w_125 w_1728) rfl rfl rfl cdX11_isKey ⟨Nat.le_of_ble_eq_true rfl, Nat.le_of_ble_eq_true rfl⟩) rfl hl.1 (Nat.le_of_ble_eq_true rfl) dX11_netLine_102 ⟨Nat.zero_le _, Nat.zero_le _⟩ (fun r102 u102 H locs hh hw => ?_) rfl
      refine lv_if_ne (tgt := 126) C.1 C.2.1 dX11_netLine_105 (by decide) (fun c105 => ?_) (fun c105 => ?_)
      · replace hh := hh.1 c105
        exact tX11_netLine_b126 C hR hh hw hl
      · replace hh := hh.2 c105
        refine lv_aload_n C.1 C.2.1 dX11_netLine_108 rfl (lv_at hl 0 rfl) ?_
        refine lv_bipush (v := (9 : Int32)) C.1 C.2.1 dX11_netLine_109 (by decide) ?_
        refine m_Vi C hw (ctX11_isKey l D o h cI cZ u102.1 u102.2 (9 : Int32) hh) (cwV 1 C.2.2.2.2 (gd_V w_1725 w_1727 w_63 w_125 w_1728) rfl rfl rfl cdX11_isKey ⟨Nat.le_of_ble_eq_true rfl, Nat.le_of_ble_eq_true rfl⟩) rfl hl.1 (Nat.le_of_ble_eq_true rfl) dX11_netLine_111 ⟨Nat.zero_le _, Nat.zero_le _⟩ (fun r111 u111 H locs hh hw => ?_) rfl
        refine lv_if_ne (tgt := 126) C.1 C.2.1 dX11_netLine_114 (by decide) (fun c114 => ?_) (fun c114 => ?_)
        · replace hh := hh.1 c114
          exact tX11_netLine_b126 C hR hh hw hl
        · replace hh := hh.2 c114
          refine lv_aload_n C.1 C.2.1 dX11_netLine_117 rfl (lv_at hl 0 rfl) ?_
          refine lv_bipush (v := (13 : Int32)) C.1 C.2.1 dX11_netLine_118 (by decide) ?_
          refine m_Vi C hw (ctX11_isKey l D o h cI cZ u111.1 u111.2 (13 : Int32) hh) (cwV 1 C.2.2.2.2 (gd_V w_1725 w_1727 w_63 w_125 w_1728) rfl rfl rfl cdX11_isKey ⟨Nat.le_of_ble_eq_true rfl, Nat.le_of_ble_eq_true rfl⟩) rfl hl.1 (Nat.le_of_ble_eq_true rfl) dX11_netLine_120 ⟨Nat.zero_le _, Nat.zero_le _⟩ (fun r120 u120 H locs hh hw => ?_) rfl
          refine lv_if_eq (tgt := 189) C.1 C.2.1 dX11_netLine_123 (by decide) (fun c123 => ?_) (fun c123 => ?_)
          · replace hh := hh.1 c123
            refine lv_aload_n C.1 C.2.1 dX11_netLine_189 rfl (lv_at hl 0 rfl) ?_
            refine lv_iconst (v := (1 : Int32)) C.1 C.2.1 dX11_netLine_190 (by decide) ?_
            refine m_Vi C hw (ctX11_wrong l D o h cI cZ u120.1 u120.2 (1 : Int32) hh) (cwV 1 C.2.2.2.2 (gd_V w_1729 w_1731 w_64 w_125 w_1732) rfl rfl rfl cdX11_wrong ⟨Nat.le_of_ble_eq_true rfl, Nat.le_of_ble_eq_true rfl⟩) rfl hl.1 (Nat.le_of_ble_eq_true rfl) dX11_netLine_191 ⟨Nat.zero_le _, Nat.zero_le _⟩ (fun r191 u191 H locs hh hw => ?_) rfl
            obtain ⟨hb194, hh⟩ := hh
            exact hR _ _ _ (u191.1, u191.2) _ _ dX11_netLine_194 (isB_nar hb194) hh hw
          · replace hh := hh.2 c123
            exact tX11_netLine_b126 C hR hh hw hl
  · replace hh := hh.2 c6
    refine lv_aload_n C.1 C.2.1 dX11_netLine_9 rfl (lv_at hl 0 rfl) ?_
    refine m_gi C hw (inC inW11) 21 (by decide) (wc w_1483) mg_21 (x := u3.1 21) rfl dX11_netLine_10 ?_
    refine lv_bipush (v := (20 : Int32)) C.1 C.2.1 dX11_netLine_13 (by decide) ?_
    refine lv_icmp_ne (tgt := 24) C.1 C.2.1 dX11_netLine_15 (by decide) (fun c15 => ?_) (fun c15 => ?_)
    · replace hh := hh.1 c15
      refine lv_aload_n C.1 C.2.1 dX11_netLine_24 rfl (lv_at hl 0 rfl) ?_
      refine m_Vv C hw (ctX11_take l D o h cI cZ u3.1 u3.2  hh) (cwV 0 C.2.2.2.2 (gd_V w_1698 w_1700 w_57 w_125 w_1701) rfl rfl rfl cdX11_take ⟨Nat.le_of_ble_eq_true rfl, Nat.le_of_ble_eq_true rfl⟩) rfl hl.1 (Nat.le_of_ble_eq_true rfl) dX11_netLine_25 ⟨Nat.zero_le _, Nat.zero_le _⟩ (fun u25 H locs hh hw => ?_) rfl
      refine lv_aload_n C.1 C.2.1 dX11_netLine_28 rfl (lv_at hl 0 rfl) ?_
      refine m_gi C hw (inC inW11) 8 (by decide) (wc w_1470) mg_8 (x := u25.1 8) rfl dX11_netLine_29 ?_
      refine lv_iconst (v := (2 : Int32)) C.1 C.2.1 dX11_netLine_32 (by decide) ?_
      refine lv_icmp_eq (tgt := 42) C.1 C.2.1 dX11_netLine_33 (by decide) (fun c33 => ?_) (fun c33 => ?_)
      · replace hh := hh.1 c33
        refine lv_aload_n C.1 C.2.1 dX11_netLine_42 rfl (lv_at hl 0 rfl) ?_
        refine lv_aload_n C.1 C.2.1 dX11_netLine_43 rfl (lv_at hl 0 rfl) ?_
        refine m_gi C hw (inC inW11) 9 (by decide) (wc w_1471) mg_9 (x := u25.1 9) rfl dX11_netLine_44 ?_
        refine m_Vi C hw (ctX11_relayRead l D o h cI cZ u25.1 u25.2 (u25.1 9) hh) (cwV 1 C.2.2.2.2 (gd_V w_1761 w_1763 w_70 w_125 w_1764) rfl rfl rfl cdX11_relayRead ⟨Nat.le_of_ble_eq_true rfl, Nat.le_of_ble_eq_true rfl⟩) rfl hl.1 (Nat.le_of_ble_eq_true rfl) dX11_netLine_47 ⟨Nat.zero_le _, Nat.zero_le _⟩ (fun r47 u47 H locs hh hw => ?_) rfl
        refine lv_if_lt (tgt := 59) C.1 C.2.1 dX11_netLine_50 (by decide) (fun c50 => ?_) (fun c50 => ?_)
        · replace hh := hh.1 c50
          refine lv_aload_n C.1 C.2.1 dX11_netLine_59 rfl (lv_at hl 0 rfl) ?_
          refine m_gi C hw (inC inW11) 21 (by decide) (wc w_1483) mg_21 (x := u47.1 21) rfl dX11_netLine_60 ?_
          refine lv_istore_n (lv' := [(1, .int (u47.1 21)), (0, .ref o)]) C.1 C.2.1 dX11_netLine_63 rfl hl (by decide) rfl (fun ls hl => ?_)
          refine lv_aload_n C.1 C.2.1 dX11_netLine_64 rfl (lv_at hl 1 rfl) ?_
          refine m_ga C hw (inC inW11) 24 (by decide) (wc w_1486) mg_24 dX11_netLine_65 ?_
          refine lv_bipush (v := (20 : Int32)) C.1 C.2.1 dX11_netLine_68 (by decide) ?_
          refine lv_iload_n C.1 C.2.1 dX11_netLine_70 rfl (lv_at hl 0 rfl) ?_
          refine lv_iadd C.1 C.2.1 dX11_netLine_71 ?_
          refine lv_aload_n C.1 C.2.1 dX11_netLine_72 rfl (lv_at hl 1 rfl) ?_
          refine m_gi C hw (inC inW11) 9 (by decide) (wc w_1471) mg_9 (x := u47.1 9) rfl dX11_netLine_73 ?_
          obtain ⟨hi76, hh⟩ := hh
          refine m_ias C hw mp_24 mq_24 hi76 dX11_netLine_76 (fun H locs hw => ?_)
          refine lv_aload_n C.1 C.2.1 dX11_netLine_77 rfl (lv_at hl 1 rfl) ?_
          refine lv_dup C.1 C.2.1 dX11_netLine_78 rfl ?_
          refine m_gi C hw (inC inW11) 21 (by decide) (wc w_1483) mg_21 (x := u47.1 21) rfl dX11_netLine_79 ?_
          refine lv_iconst (v := (1 : Int32)) C.1 C.2.1 dX11_netLine_82 (by decide) ?_
          refine lv_iadd C.1 C.2.1 dX11_netLine_83 ?_
          refine m_pi C hw (inC inW11) 21 (by decide) (wc w_1483) rfl (ty := .int) (by decide +kernel) rfl rfl (Nat.le_of_ble_eq_true rfl) ms_21 dX11_netLine_84 (fun H locs hw => ?_)
          refine lv_goto (tgt := 195) C.1 C.2.1 dX11_netLine_87 (by decide) ?_
          exact tX11_netLine_b195 C hR hh hw (lv_sub hl [1, 0] rfl)
        · replace hh := hh.2 c50
          refine lv_aload_n C.1 C.2.1 dX11_netLine_53 rfl (lv_at hl 0 rfl) ?_
          refine lv_iconst (v := (3 : Int32)) C.1 C.2.1 dX11_netLine_54 (by decide) ?_
          refine m_Vi C hw (ctX11_wrong l D o h cI cZ u47.1 u47.2 (3 : Int32) hh) (cwV 1 C.2.2.2.2 (gd_V w_1729 w_1731 w_64 w_125 w_1732) rfl rfl rfl cdX11_wrong ⟨Nat.le_of_ble_eq_true rfl, Nat.le_of_ble_eq_true rfl⟩) rfl hl.1 (Nat.le_of_ble_eq_true rfl) dX11_netLine_55 ⟨Nat.zero_le _, Nat.zero_le _⟩ (fun r55 u55 H locs hh hw => ?_) rfl
          obtain ⟨hb58, hh⟩ := hh
          exact hR _ _ _ (u55.1, u55.2) _ _ dX11_netLine_58 (isB_nar hb58) hh hw
      · replace hh := hh.2 c33
        refine lv_aload_n C.1 C.2.1 dX11_netLine_36 rfl (lv_at hl 0 rfl) ?_
        refine lv_iconst (v := (1 : Int32)) C.1 C.2.1 dX11_netLine_37 (by decide) ?_
        refine m_Vi C hw (ctX11_wrong l D o h cI cZ u25.1 u25.2 (1 : Int32) hh) (cwV 1 C.2.2.2.2 (gd_V w_1729 w_1731 w_64 w_125 w_1732) rfl rfl rfl cdX11_wrong ⟨Nat.le_of_ble_eq_true rfl, Nat.le_of_ble_eq_true rfl⟩) rfl hl.1 (Nat.le_of_ble_eq_true rfl) dX11_netLine_38 ⟨Nat.zero_le _, Nat.zero_le _⟩ (fun r38 u38 H locs hh hw => ?_) rfl
        obtain ⟨hb41, hh⟩ := hh
        exact hR _ _ _ (u38.1, u38.2) _ _ dX11_netLine_41 (isB_nar hb41) hh hw
    · replace hh := hh.2 c15
      refine lv_aload_n C.1 C.2.1 dX11_netLine_18 rfl (lv_at hl 0 rfl) ?_
      refine lv_iconst (v := (2 : Int32)) C.1 C.2.1 dX11_netLine_19 (by decide) ?_
      refine m_Vi C hw (ctX11_wrong l D o h cI cZ u3.1 u3.2 (2 : Int32) hh) (cwV 1 C.2.2.2.2 (gd_V w_1729 w_1731 w_64 w_125 w_1732) rfl rfl rfl cdX11_wrong ⟨Nat.le_of_ble_eq_true rfl, Nat.le_of_ble_eq_true rfl⟩) rfl hl.1 (Nat.le_of_ble_eq_true rfl) dX11_netLine_20 ⟨Nat.zero_le _, Nat.zero_le _⟩ (fun r20 u20 H locs hh hw => ?_) rfl
      obtain ⟨hb23, hh⟩ := hh
      exact hR _ _ _ (u20.1, u20.2) _ _ dX11_netLine_23 (isB_nar hb23) hh hw
theorem ctX11_netLine (l : Launch) (D : va_G) (o : Nat) (h : Nat → Nat) (cI cZ : ClassId) (f : Nat → Int32) (g : Nat → Nat → Int32) {K : Int32 → ((Nat → Int32) × (Nat → Nat → Int32)) → Prop} (hh : wpX11_netLine f g K) : Ci l yX11_netLine wsX11_netLine rmX11_netLine [.ref o] D (mT cI cZ) (mWu o h cI cZ) (f, g) K := by
  refine Ci_of (cc := cX11_netLine) (maxL := 2) (by decide) rfl (Nat.le_of_ble_eq_true rfl) ?_
  intro p e s m below meth c A Q C hw hR ls hl
  exact tX11_netLine_b0 C hR hh hw hl
theorem cdX11_netLine : yX11_netLine.cls = RX11 ∧ yX11_netLine.cls ≠ "java/lang/invoke/MethodHandle" ∧ yX11_netLine.cls ≠ "java/lang/invoke/VarHandle" ∧ (parseMethodDescriptor yX11_netLine.desc).map (fun d => d.parameters.length) = some 0 := by decide +kernel
abbrev rmX11_forgets : Room := { frames := 0, cells := 0, slots := 0, locals := 0 }
set_option maxHeartbeats 4000000 in
set_option maxRecDepth 100000 in
theorem tX11_forgets_b0 {K : ((Nat → Int32) × (Nat → Nat → Int32)) → Prop} (C : CallFix p m c cX11_forgets 1 s args wsX11_forgets RX11) (hR : Rtv p l e rmX11_forgets s m args below meth c cX11_forgets D A (mT cI cZ) (mWu o h cI cZ) K Q) {f : Nat → Int32} {g : Nat → Nat → Int32} (hh : wpX11_forgets_b0 f g K) {H : Heap} {locs : List Loc} {ls : Array Slot} (hw : Wd D A s (mT cI cZ) (mW o h cI cZ f g) H locs) (hl : lv_has ls 1 [(0, .ref o)]) : W p l e rmX11_forgets s m args below meth c H locs 0 0 Q (F0 m 0 ls []) := by
  unfold wpX11_forgets_b0 at hh
  refine lv_aload_n C.1 C.2.1 dX11_forgets_0 rfl (lv_at hl 0 rfl) ?_
  refine lv_iconst (v := (0 : Int32)) C.1 C.2.1 dX11_forgets_1 (by decide) ?_
  refine m_pi C hw (inC inW11) 66 (by decide) (wc w_1528) rfl (ty := .boolean) (by decide +kernel) rfl rfl (Nat.le_of_ble_eq_true rfl) ms_66 dX11_forgets_2 (fun H locs hw => ?_)
  exact hR _ _ (upd f 66 (0 : Int32), g) _ _ dX11_forgets_5 hh hw
theorem ctX11_forgets (l : Launch) (D : va_G) (o : Nat) (h : Nat → Nat) (cI cZ : ClassId) (f : Nat → Int32) (g : Nat → Nat → Int32) {K : ((Nat → Int32) × (Nat → Nat → Int32)) → Prop} (hh : wpX11_forgets f g K) : Cv l yX11_forgets wsX11_forgets rmX11_forgets [.ref o] D (mT cI cZ) (mWu o h cI cZ) (f, g) K := by
  refine Cv_of (cc := cX11_forgets) (maxL := 1) (by decide) rfl (Nat.le_of_ble_eq_true rfl) ?_
  intro p e s m below meth c A Q C hw hR ls hl
  exact tX11_forgets_b0 C hR hh hw hl
theorem cdX11_forgets : yX11_forgets.cls = RX11 ∧ yX11_forgets.cls ≠ "java/lang/invoke/MethodHandle" ∧ yX11_forgets.cls ≠ "java/lang/invoke/VarHandle" ∧ (parseMethodDescriptor yX11_forgets.desc).map (fun d => d.parameters.length) = some 0 := by decide +kernel
abbrev rmX11_net : Room := { frames := 5, cells := 0, slots := 0, locals := 111 }
set_option maxHeartbeats 4000000 in
set_option maxRecDepth 100000 in
theorem tX11_net_b296_body {B296 : (Nat → Int32) → (Nat → Nat → Int32) → Int32 → Prop} {K : Int32 → ((Nat → Int32) × (Nat → Nat → Int32)) → Prop} (C : CallFix p m c cX11_net 5 s args wsX11_net RX11) (hR : Rti .int p l e rmX11_net s m args below meth c cX11_net D A (mT cI cZ) (mWu o h cI cZ) K Q) (hB296 : ∀ (f : Nat → Int32) (g : Nat → Nat → Int32) (x2 : Int32) (H : Heap) (locs : List Loc) (ls : Array Slot), B296 f g x2 → Wd D A s (mT cI cZ) (mW o h cI cZ f g) H locs → lv_has ls 5 [(0, .ref o), (2, .int x2)] → W p l e rmX11_net s m args below meth c H locs 0 0 Q (F0 m 296 ls [])) {f : Nat → Int32} {g : Nat → Nat → Int32} {x2 : Int32} (hh : wpX11_net_b296_body B296 f g x2 K) {H : Heap} {locs : List Loc} {ls : Array Slot} (hw : Wd D A s (mT cI cZ) (mW o h cI cZ f g) H locs) (hl : lv_has ls 5 [(0, .ref o), (2, .int x2)]) : W p l e rmX11_net s m args below meth c H locs 0 0 Q (F0 m 296 ls []) := by
  unfold wpX11_net_b296_body at hh
  refine lv_iload_n C.1 C.2.1 dX11_net_296 rfl (lv_at hl 1 rfl) ?_
  refine lv_iconst (v := (4 : Int32)) C.1 C.2.1 dX11_net_297 (by decide) ?_
  refine lv_icmp_ge (tgt := 314) C.1 C.2.1 dX11_net_298 (by decide) (fun c298 => ?_) (fun c298 => ?_)
  · replace hh := hh.1 c298
    refine lv_aload_n C.1 C.2.1 dX11_net_314 rfl (lv_at hl 0 rfl) ?_
    refine m_gi C hw (inC inW11) 20 (by decide) (wc w_1482) mg_20 (x := f 20) rfl dX11_net_315 ?_
    exact hR _ _ _ (f, g) _ _ dX11_net_318 rfl hh hw
  · replace hh := hh.2 c298
    refine lv_aload_n C.1 C.2.1 dX11_net_301 rfl (lv_at hl 0 rfl) ?_
    refine m_ga C hw (inC inW11) 56 (by decide) (wc w_1518) mg_56 dX11_net_302 ?_
    refine lv_iload_n C.1 C.2.1 dX11_net_305 rfl (lv_at hl 1 rfl) ?_
    refine lv_iconst (v := (0 : Int32)) C.1 C.2.1 dX11_net_306 (by decide) ?_
    obtain ⟨hi307, hh⟩ := hh
    refine m_zas C hw mp_56 mq_56 hi307 dX11_net_307 (fun H locs hw => ?_)
    refine lv_iinc (v := x2 + (1 : Int32)) (lv' := [(2, .int (x2 + (1 : Int32))), (0, .ref o)]) C.1 C.2.1 dX11_net_308 hl (k := 1) rfl rfl (by decide) rfl (fun ls hl => ?_)
    refine lv_goto (tgt := 296) C.1 C.2.1 dX11_net_311 (by decide) ?_
    exact hB296 _ _ _ _ _ _ hh hw (lv_sub hl [1, 0] rfl)
theorem tX11_net_b296 {K : Int32 → ((Nat → Int32) × (Nat → Nat → Int32)) → Prop} (C : CallFix p m c cX11_net 5 s args wsX11_net RX11) (hR : Rti .int p l e rmX11_net s m args below meth c cX11_net D A (mT cI cZ) (mWu o h cI cZ) K Q) (n : Nat) : ∀ (f : Nat → Int32) (g : Nat → Nat → Int32) (x2 : Int32) (H : Heap) (locs : List Loc) (ls : Array Slot), wpX11_net_b296 n f g x2 K → Wd D A s (mT cI cZ) (mW o h cI cZ f g) H locs → lv_has ls 5 [(0, .ref o), (2, .int x2)] → W p l e rmX11_net s m args below meth c H locs 0 0 Q (F0 m 296 ls []) := by
  induction n with
  | zero => intro f g x2 H locs ls hh; exact hh.elim
  | succ n ih => intro f g x2 H locs ls hh hw hl; exact tX11_net_b296_body C hR ih hh hw hl
set_option maxHeartbeats 4000000 in
set_option maxRecDepth 100000 in
theorem tX11_net_b233_body {B233 : (Nat → Int32) → (Nat → Nat → Int32) → Int32 → Prop} {K : Int32 → ((Nat → Int32) × (Nat → Nat → Int32)) → Prop} (C : CallFix p m c cX11_net 5 s args wsX11_net RX11) (hR : Rti .int p l e rmX11_net s m args below meth c cX11_net D A (mT cI cZ) (mWu o h cI cZ) K Q) (hB233 : ∀ (f : Nat → Int32) (g : Nat → Nat → Int32) (x2 : Int32) (H : Heap) (locs : List Loc) (ls : Array Slot), B233 f g x2 → Wd D A s (mT cI cZ) (mW o h cI cZ f g) H locs → lv_has ls 5 [(0, .ref o), (2, .int x2)] → W p l e rmX11_net s m args below meth c H locs 0 0 Q (F0 m 233 ls [])) {f : Nat → Int32} {g : Nat → Nat → Int32} {x2 : Int32} (hh : wpX11_net_b233_body B233 f g x2 K) {H : Heap} {locs : List Loc} {ls : Array Slot} (hw : Wd D A s (mT cI cZ) (mW o h cI cZ f g) H locs) (hl : lv_has ls 5 [(0, .ref o), (2, .int x2)]) : W p l e rmX11_net s m args below meth c H locs 0 0 Q (F0 m 233 ls []) := by
  unfold wpX11_net_b233_body at hh
  refine lv_iload_n C.1 C.2.1 dX11_net_233 rfl (lv_at hl 1 rfl) ?_
  refine lv_bipush (v := (24 : Int32)) C.1 C.2.1 dX11_net_234 (by decide) ?_
  refine lv_icmp_ge (tgt := 275) C.1 C.2.1 dX11_net_236 (by decide) (fun c236 => ?_) (fun c236 => ?_)
  · replace hh := hh.1 c236
    refine lv_aload_n C.1 C.2.1 dX11_net_275 rfl (lv_at hl 0 rfl) ?_
    refine lv_iconst (v := (0 : Int32)) C.1 C.2.1 dX11_net_276 (by decide) ?_
    refine m_pi C hw (inC inW11) 45 (by decide) (wc w_1507) rfl (ty := .int) (by decide +kernel) rfl rfl (Nat.le_of_ble_eq_true rfl) ms_45 dX11_net_277 (fun H locs hw => ?_)
    refine lv_aload_n C.1 C.2.1 dX11_net_280 rfl (lv_at hl 0 rfl) ?_
    refine lv_iconst (v := (0 : Int32)) C.1 C.2.1 dX11_net_281 (by decide) ?_
    refine m_pi C hw (inC inW11) 49 (by decide) (wc w_1511) rfl (ty := .int) (by decide +kernel) rfl rfl (Nat.le_of_ble_eq_true rfl) ms_49 dX11_net_282 (fun H locs hw => ?_)
    refine lv_aload_n C.1 C.2.1 dX11_net_285 rfl (lv_at hl 0 rfl) ?_
    refine lv_iconst (v := (0 : Int32)) C.1 C.2.1 dX11_net_286 (by decide) ?_
    refine m_pi C hw (inC inW11) 50 (by decide) (wc w_1512) rfl (ty := .int) (by decide +kernel) rfl rfl (Nat.le_of_ble_eq_true rfl) ms_50 dX11_net_287 (fun H locs hw => ?_)
    refine lv_aload_n C.1 C.2.1 dX11_net_290 rfl (lv_at hl 0 rfl) ?_
    refine m_Vv C hw (ctX11_forgets l D o h cI cZ (upd (upd (upd f 45 (0 : Int32)) 49 (0 : Int32)) 50 (0 : Int32)) g  hh) (cwV 0 C.2.2.2.2 (gd_V w_1458 w_1460 w_55 w_125 w_1461) rfl rfl rfl cdX11_forgets ⟨Nat.le_of_ble_eq_true rfl, Nat.le_of_ble_eq_true rfl⟩) rfl hl.1 (Nat.le_of_ble_eq_true rfl) dX11_net_291 ⟨Nat.zero_le _, Nat.zero_le _⟩ (fun u291 H locs hh hw => ?_) rfl
    refine lv_iconst (v := (0 : Int32)) C.1 C.2.1 dX11_net_294 (by decide) ?_
    refine lv_istore_n (lv' := [(2, .int (0 : Int32)), (0, .ref o)]) C.1 C.2.1 dX11_net_295 rfl hl (by decide) rfl (fun ls hl => ?_)
    obtain ⟨n, hh⟩ := hh
    exact tX11_net_b296 C hR n _ _ _ _ _ _ hh hw (lv_sub hl [1, 0] rfl)
  · replace hh := hh.2 c236
    refine lv_aload_n C.1 C.2.1 dX11_net_239 rfl (lv_at hl 0 rfl) ?_
    refine m_ga C hw (inC inW11) 25 (by decide) (wc w_1487) mg_25 dX11_net_240 ?_
    refine lv_iload_n C.1 C.2.1 dX11_net_243 rfl (lv_at hl 1 rfl) ?_
    refine lv_aload_n C.1 C.2.1 dX11_net_244 rfl (lv_at hl 0 rfl) ?_
    refine m_ga C hw (inC inW11) 25 (by decide) (wc w_1487) mg_25 dX11_net_245 ?_
    refine lv_bipush (v := (24 : Int32)) C.1 C.2.1 dX11_net_248 (by decide) ?_
    refine lv_iload_n C.1 C.2.1 dX11_net_250 rfl (lv_at hl 1 rfl) ?_
    refine lv_iadd C.1 C.2.1 dX11_net_251 ?_
    obtain ⟨hi252, hh⟩ := hh
    refine m_ial C hw mp_25 (x := g 25 (ix ((24 : Int32) + x2))) hi252 rfl dX11_net_252 ?_
    obtain ⟨hi253, hh⟩ := hh
    refine m_ias C hw mp_25 mq_25 hi253 dX11_net_253 (fun H locs hw => ?_)
    refine lv_aload_n C.1 C.2.1 dX11_net_254 rfl (lv_at hl 0 rfl) ?_
    refine m_ga C hw (inC inW11) 26 (by decide) (wc w_1488) mg_26 dX11_net_255 ?_
    refine lv_iload_n C.1 C.2.1 dX11_net_258 rfl (lv_at hl 1 rfl) ?_
    refine lv_aload_n C.1 C.2.1 dX11_net_259 rfl (lv_at hl 0 rfl) ?_
    refine m_ga C hw (inC inW11) 26 (by decide) (wc w_1488) mg_26 dX11_net_260 ?_
    refine lv_bipush (v := (24 : Int32)) C.1 C.2.1 dX11_net_263 (by decide) ?_
    refine lv_iload_n C.1 C.2.1 dX11_net_265 rfl (lv_at hl 1 rfl) ?_
    refine lv_iadd C.1 C.2.1 dX11_net_266 ?_
    obtain ⟨hi267, hh⟩ := hh
    refine m_ial C hw mp_26 (x := g 26 (ix ((24 : Int32) + x2))) hi267 rfl dX11_net_267 ?_
    obtain ⟨hi268, hh⟩ := hh
    refine m_ias C hw mp_26 mq_26 hi268 dX11_net_268 (fun H locs hw => ?_)
    refine lv_iinc (v := x2 + (1 : Int32)) (lv' := [(2, .int (x2 + (1 : Int32))), (0, .ref o)]) C.1 C.2.1 dX11_net_269 hl (k := 1) rfl rfl (by decide) rfl (fun ls hl => ?_)
    refine lv_goto (tgt := 233) C.1 C.2.1 dX11_net_272 (by decide) ?_
    exact hB233 _ _ _ _ _ _ hh hw (lv_sub hl [1, 0] rfl)
theorem tX11_net_b233 {K : Int32 → ((Nat → Int32) × (Nat → Nat → Int32)) → Prop} (C : CallFix p m c cX11_net 5 s args wsX11_net RX11) (hR : Rti .int p l e rmX11_net s m args below meth c cX11_net D A (mT cI cZ) (mWu o h cI cZ) K Q) (n : Nat) : ∀ (f : Nat → Int32) (g : Nat → Nat → Int32) (x2 : Int32) (H : Heap) (locs : List Loc) (ls : Array Slot), wpX11_net_b233 n f g x2 K → Wd D A s (mT cI cZ) (mW o h cI cZ f g) H locs → lv_has ls 5 [(0, .ref o), (2, .int x2)] → W p l e rmX11_net s m args below meth c H locs 0 0 Q (F0 m 233 ls []) := by
  induction n with
  | zero => intro f g x2 H locs ls hh; exact hh.elim
  | succ n ih => intro f g x2 H locs ls hh hw hl; exact tX11_net_b233_body C hR ih hh hw hl
set_option maxHeartbeats 4000000 in
set_option maxRecDepth 100000 in
theorem tX11_net_b174_body {B174 : (Nat → Int32) → (Nat → Nat → Int32) → Int32 → Prop} {K : Int32 → ((Nat → Int32) × (Nat → Nat → Int32)) → Prop} (C : CallFix p m c cX11_net 5 s args wsX11_net RX11) (hR : Rti .int p l e rmX11_net s m args below meth c cX11_net D A (mT cI cZ) (mWu o h cI cZ) K Q) (hB174 : ∀ (f : Nat → Int32) (g : Nat → Nat → Int32) (x2 : Int32) (H : Heap) (locs : List Loc) (ls : Array Slot), B174 f g x2 → Wd D A s (mT cI cZ) (mW o h cI cZ f g) H locs → lv_has ls 5 [(0, .ref o), (2, .int x2)] → W p l e rmX11_net s m args below meth c H locs 0 0 Q (F0 m 174 ls [])) {f : Nat → Int32} {g : Nat → Nat → Int32} {x2 : Int32} (hh : wpX11_net_b174_body B174 f g x2 K) {H : Heap} {locs : List Loc} {ls : Array Slot} (hw : Wd D A s (mT cI cZ) (mW o h cI cZ f g) H locs) (hl : lv_has ls 5 [(0, .ref o), (2, .int x2)]) : W p l e rmX11_net s m args below meth c H locs 0 0 Q (F0 m 174 ls []) := by
  unfold wpX11_net_b174_body at hh
  refine lv_iload_n C.1 C.2.1 dX11_net_174 rfl (lv_at hl 1 rfl) ?_
  refine lv_bipush (v := (64 : Int32)) C.1 C.2.1 dX11_net_175 (by decide) ?_
  refine lv_icmp_ge (tgt := 231) C.1 C.2.1 dX11_net_177 (by decide) (fun c177 => ?_) (fun c177 => ?_)
  · replace hh := hh.1 c177
    refine lv_iconst (v := (0 : Int32)) C.1 C.2.1 dX11_net_231 (by decide) ?_
    refine lv_istore_n (lv' := [(2, .int (0 : Int32)), (0, .ref o)]) C.1 C.2.1 dX11_net_232 rfl hl (by decide) rfl (fun ls hl => ?_)
    obtain ⟨n, hh⟩ := hh
    exact tX11_net_b233 C hR n _ _ _ _ _ _ hh hw (lv_sub hl [1, 0] rfl)
  · replace hh := hh.2 c177
    refine lv_aload_n C.1 C.2.1 dX11_net_180 rfl (lv_at hl 0 rfl) ?_
    refine m_ga C hw (inC inW11) 27 (by decide) (wc w_1489) mg_27 dX11_net_181 ?_
    refine lv_iload_n C.1 C.2.1 dX11_net_184 rfl (lv_at hl 1 rfl) ?_
    refine lv_aload_n C.1 C.2.1 dX11_net_185 rfl (lv_at hl 0 rfl) ?_
    refine m_ga C hw (inC inW11) 27 (by decide) (wc w_1489) mg_27 dX11_net_186 ?_
    refine lv_bipush (v := (64 : Int32)) C.1 C.2.1 dX11_net_189 (by decide) ?_
    refine lv_iload_n C.1 C.2.1 dX11_net_191 rfl (lv_at hl 1 rfl) ?_
    refine lv_iadd C.1 C.2.1 dX11_net_192 ?_
    obtain ⟨hi193, hh⟩ := hh
    refine m_ial C hw mp_27 (x := g 27 (ix ((64 : Int32) + x2))) hi193 rfl dX11_net_193 ?_
    obtain ⟨hi194, hh⟩ := hh
    refine m_ias C hw mp_27 mq_27 hi194 dX11_net_194 (fun H locs hw => ?_)
    refine lv_aload_n C.1 C.2.1 dX11_net_195 rfl (lv_at hl 0 rfl) ?_
    refine m_ga C hw (inC inW11) 28 (by decide) (wc w_1490) mg_28 dX11_net_196 ?_
    refine lv_iload_n C.1 C.2.1 dX11_net_199 rfl (lv_at hl 1 rfl) ?_
    refine lv_aload_n C.1 C.2.1 dX11_net_200 rfl (lv_at hl 0 rfl) ?_
    refine m_ga C hw (inC inW11) 28 (by decide) (wc w_1490) mg_28 dX11_net_201 ?_
    refine lv_bipush (v := (64 : Int32)) C.1 C.2.1 dX11_net_204 (by decide) ?_
    refine lv_iload_n C.1 C.2.1 dX11_net_206 rfl (lv_at hl 1 rfl) ?_
    refine lv_iadd C.1 C.2.1 dX11_net_207 ?_
    obtain ⟨hi208, hh⟩ := hh
    refine m_ial C hw mp_28 (x := g 28 (ix ((64 : Int32) + x2))) hi208 rfl dX11_net_208 ?_
    obtain ⟨hi209, hh⟩ := hh
    refine m_ias C hw mp_28 mq_28 hi209 dX11_net_209 (fun H locs hw => ?_)
    refine lv_aload_n C.1 C.2.1 dX11_net_210 rfl (lv_at hl 0 rfl) ?_
    refine m_ga C hw (inC inW11) 29 (by decide) (wc w_1491) mg_29 dX11_net_211 ?_
    refine lv_iload_n C.1 C.2.1 dX11_net_214 rfl (lv_at hl 1 rfl) ?_
    refine lv_aload_n C.1 C.2.1 dX11_net_215 rfl (lv_at hl 0 rfl) ?_
    refine m_ga C hw (inC inW11) 29 (by decide) (wc w_1491) mg_29 dX11_net_216 ?_
    refine lv_bipush (v := (64 : Int32)) C.1 C.2.1 dX11_net_219 (by decide) ?_
    refine lv_iload_n C.1 C.2.1 dX11_net_221 rfl (lv_at hl 1 rfl) ?_
    refine lv_iadd C.1 C.2.1 dX11_net_222 ?_
    obtain ⟨hi223, hh⟩ := hh
    refine m_ial C hw mp_29 (x := g 29 (ix ((64 : Int32) + x2))) hi223 rfl dX11_net_223 ?_
    obtain ⟨hi224, hh⟩ := hh
    refine m_ias C hw mp_29 mq_29 hi224 dX11_net_224 (fun H locs hw => ?_)
    refine lv_iinc (v := x2 + (1 : Int32)) (lv' := [(2, .int (x2 + (1 : Int32))), (0, .ref o)]) C.1 C.2.1 dX11_net_225 hl (k := 1) rfl rfl (by decide) rfl (fun ls hl => ?_)
    refine lv_goto (tgt := 174) C.1 C.2.1 dX11_net_228 (by decide) ?_
    exact hB174 _ _ _ _ _ _ hh hw (lv_sub hl [1, 0] rfl)
theorem tX11_net_b174 {K : Int32 → ((Nat → Int32) × (Nat → Nat → Int32)) → Prop} (C : CallFix p m c cX11_net 5 s args wsX11_net RX11) (hR : Rti .int p l e rmX11_net s m args below meth c cX11_net D A (mT cI cZ) (mWu o h cI cZ) K Q) (n : Nat) : ∀ (f : Nat → Int32) (g : Nat → Nat → Int32) (x2 : Int32) (H : Heap) (locs : List Loc) (ls : Array Slot), wpX11_net_b174 n f g x2 K → Wd D A s (mT cI cZ) (mW o h cI cZ f g) H locs → lv_has ls 5 [(0, .ref o), (2, .int x2)] → W p l e rmX11_net s m args below meth c H locs 0 0 Q (F0 m 174 ls []) := by
  induction n with
  | zero => intro f g x2 H locs ls hh; exact hh.elim
  | succ n ih => intro f g x2 H locs ls hh hw hl; exact tX11_net_b174_body C hR ih hh hw hl
set_option maxHeartbeats 4000000 in
set_option maxRecDepth 100000 in
theorem tX11_net_b150 {B85 : (Nat → Int32) → (Nat → Nat → Int32) → Int32 → Prop} {K : Int32 → ((Nat → Int32) × (Nat → Nat → Int32)) → Prop} (C : CallFix p m c cX11_net 5 s args wsX11_net RX11) (hR : Rti .int p l e rmX11_net s m args below meth c cX11_net D A (mT cI cZ) (mWu o h cI cZ) K Q) (hB85 : ∀ (f : Nat → Int32) (g : Nat → Nat → Int32) (x2 : Int32) (H : Heap) (locs : List Loc) (ls : Array Slot), B85 f g x2 → Wd D A s (mT cI cZ) (mW o h cI cZ f g) H locs → lv_has ls 5 [(0, .ref o), (2, .int x2)] → W p l e rmX11_net s m args below meth c H locs 0 0 Q (F0 m 85 ls [])) {f : Nat → Int32} {g : Nat → Nat → Int32} {x2 : Int32} (hh : wpX11_net_b150 B85 f g x2 K) {H : Heap} {locs : List Loc} {ls : Array Slot} (hw : Wd D A s (mT cI cZ) (mW o h cI cZ f g) H locs) (hl : lv_has ls 5 [(0, .ref o), (2, .int x2)]) : W p l e rmX11_net s m args below meth c H locs 0 0 Q (F0 m 150 ls []) := by
  unfold wpX11_net_b150 at hh
  refine lv_iinc (v := x2 + (1 : Int32)) (lv' := [(2, .int (x2 + (1 : Int32))), (0, .ref o)]) C.1 C.2.1 dX11_net_150 hl (k := 1) rfl rfl (by decide) rfl (fun ls hl => ?_)
  refine lv_goto (tgt := 85) C.1 C.2.1 dX11_net_153 (by decide) ?_
  exact hB85 _ _ _ _ _ _ hh hw (lv_sub hl [1, 0] rfl)
set_option maxHeartbeats 4000000 in
set_option maxRecDepth 100000 in
theorem tX11_net_b85_body {B85 : (Nat → Int32) → (Nat → Nat → Int32) → Int32 → Prop} {K : Int32 → ((Nat → Int32) × (Nat → Nat → Int32)) → Prop} (C : CallFix p m c cX11_net 5 s args wsX11_net RX11) (hR : Rti .int p l e rmX11_net s m args below meth c cX11_net D A (mT cI cZ) (mWu o h cI cZ) K Q) (hB85 : ∀ (f : Nat → Int32) (g : Nat → Nat → Int32) (x2 : Int32) (H : Heap) (locs : List Loc) (ls : Array Slot), B85 f g x2 → Wd D A s (mT cI cZ) (mW o h cI cZ f g) H locs → lv_has ls 5 [(0, .ref o), (2, .int x2)] → W p l e rmX11_net s m args below meth c H locs 0 0 Q (F0 m 85 ls [])) {f : Nat → Int32} {g : Nat → Nat → Int32} {x2 : Int32} (hh : wpX11_net_b85_body B85 f g x2 K) {H : Heap} {locs : List Loc} {ls : Array Slot} (hw : Wd D A s (mT cI cZ) (mW o h cI cZ f g) H locs) (hl : lv_has ls 5 [(0, .ref o), (2, .int x2)]) : W p l e rmX11_net s m args below meth c H locs 0 0 Q (F0 m 85 ls []) := by
  unfold wpX11_net_b85_body at hh
  refine lv_iload_n C.1 C.2.1 dX11_net_85 rfl (lv_at hl 1 rfl) ?_
  refine lv_bipush (v := (64 : Int32)) C.1 C.2.1 dX11_net_86 (by decide) ?_
  refine lv_aload_n C.1 C.2.1 dX11_net_88 rfl (lv_at hl 0 rfl) ?_
  refine m_gi C hw (inC inW11) 23 (by decide) (wc w_1485) mg_23 (x := f 23) rfl dX11_net_89 ?_
  refine lv_iadd C.1 C.2.1 dX11_net_92 ?_
  refine lv_icmp_ge (tgt := 156) C.1 C.2.1 dX11_net_93 (by decide) (fun c93 => ?_) (fun c93 => ?_)
  · replace hh := hh.1 c93
    refine lv_aload_n C.1 C.2.1 dX11_net_156 rfl (lv_at hl 0 rfl) ?_
    refine lv_aload_n C.1 C.2.1 dX11_net_157 rfl (lv_at hl 0 rfl) ?_
    refine m_gi C hw (inC inW11) 21 (by decide) (wc w_1483) mg_21 (x := f 21) rfl dX11_net_158 ?_
    refine m_pi C hw (inC inW11) 20 (by decide) (wc w_1482) rfl (ty := .int) (by decide +kernel) rfl rfl (Nat.le_of_ble_eq_true rfl) ms_20 dX11_net_161 (fun H locs hw => ?_)
    refine lv_aload_n C.1 C.2.1 dX11_net_164 rfl (lv_at hl 0 rfl) ?_
    refine lv_aload_n C.1 C.2.1 dX11_net_165 rfl (lv_at hl 0 rfl) ?_
    refine m_gi C hw (inC inW11) 23 (by decide) (wc w_1485) mg_23 (x := f 23) rfl dX11_net_166 ?_
    refine m_pi C hw (inC inW11) 22 (by decide) (wc w_1484) rfl (ty := .int) (by decide +kernel) rfl rfl (Nat.le_of_ble_eq_true rfl) ms_22 dX11_net_169 (fun H locs hw => ?_)
    refine lv_iconst (v := (0 : Int32)) C.1 C.2.1 dX11_net_172 (by decide) ?_
    refine lv_istore_n (lv' := [(2, .int (0 : Int32)), (0, .ref o)]) C.1 C.2.1 dX11_net_173 rfl hl (by decide) rfl (fun ls hl => ?_)
    obtain ⟨n, hh⟩ := hh
    exact tX11_net_b174 C hR n _ _ _ _ _ _ hh hw (lv_sub hl [1, 0] rfl)
  · replace hh := hh.2 c93
    refine lv_aload_n C.1 C.2.1 dX11_net_96 rfl (lv_at hl 0 rfl) ?_
    refine m_ga C hw (inC inW11) 27 (by decide) (wc w_1489) mg_27 dX11_net_97 ?_
    refine lv_iload_n C.1 C.2.1 dX11_net_100 rfl (lv_at hl 1 rfl) ?_
    obtain ⟨hi101, hh⟩ := hh
    refine m_ial C hw mp_27 (x := g 27 (ix x2)) hi101 rfl dX11_net_101 ?_
    refine lv_iconst (v := (4 : Int32)) C.1 C.2.1 dX11_net_102 (by decide) ?_
    refine lv_icmp_eq (tgt := 109) C.1 C.2.1 dX11_net_103 (by decide) (fun c103 => ?_) (fun c103 => ?_)
    · replace hh := hh.1 c103
      refine lv_aload_n C.1 C.2.1 dX11_net_109 rfl (lv_at hl 0 rfl) ?_
      refine lv_aload_n C.1 C.2.1 dX11_net_110 rfl (lv_at hl 0 rfl) ?_
      refine m_ga C hw (inC inW11) 28 (by decide) (wc w_1490) mg_28 dX11_net_111 ?_
      refine lv_iload_n C.1 C.2.1 dX11_net_114 rfl (lv_at hl 1 rfl) ?_
      obtain ⟨hi115, hh⟩ := hh
      refine m_ial C hw mp_28 (x := g 28 (ix x2)) hi115 rfl dX11_net_115 ?_
      refine m_Vi C hw (ctX11_relayRead l D o h cI cZ f g (g 28 (ix x2)) hh) (cwV 1 C.2.2.2.2 (gd_V w_1761 w_1763 w_70 w_125 w_1764) rfl rfl rfl cdX11_relayRead ⟨Nat.le_of_ble_eq_true rfl, Nat.le_of_ble_eq_true rfl⟩) rfl hl.1 (Nat.le_of_ble_eq_true rfl) dX11_net_116 ⟨Nat.zero_le _, Nat.zero_le _⟩ (fun r116 u116 H locs hh hw => ?_) rfl
      refine lv_istore_n (lv' := [(3, .int r116), (0, .ref o), (2, .int x2)]) C.1 C.2.1 dX11_net_119 rfl hl (by decide) rfl (fun ls hl => ?_)
      refine lv_iload_n C.1 C.2.1 dX11_net_120 rfl (lv_at hl 0 rfl) ?_
      refine lv_if_ge (tgt := 143) C.1 C.2.1 dX11_net_121 (by decide) (fun c121 => ?_) (fun c121 => ?_)
      · replace hh := hh.1 c121
        refine lv_aload_n C.1 C.2.1 dX11_net_143 rfl (lv_at hl 1 rfl) ?_
        refine m_ga C hw (inC inW11) 28 (by decide) (wc w_1490) mg_28 dX11_net_144 ?_
        refine lv_iload_n C.1 C.2.1 dX11_net_147 rfl (lv_at hl 2 rfl) ?_
        refine lv_iload_n C.1 C.2.1 dX11_net_148 rfl (lv_at hl 0 rfl) ?_
        obtain ⟨hi149, hh⟩ := hh
        refine m_ias C hw mp_28 mq_28 hi149 dX11_net_149 (fun H locs hw => ?_)
        exact tX11_net_b150 C hR hB85 hh hw (lv_sub hl [1, 2] rfl)
      · replace hh := hh.2 c121
        refine lv_aload_n C.1 C.2.1 dX11_net_124 rfl (lv_at hl 1 rfl) ?_
        refine lv_aload_n C.1 C.2.1 dX11_net_125 rfl (lv_at hl 1 rfl) ?_
        refine m_ga C hw (inC inW11) 30 (by decide) (wc w_1492) mg_30 dX11_net_126 ?_
        refine lv_iload_n C.1 C.2.1 dX11_net_129 rfl (lv_at hl 2 rfl) ?_
        obtain ⟨hi130, hh⟩ := hh
        refine m_ial C hw mp_30 (x := u116.2 30 (ix x2)) hi130 rfl dX11_net_130 ?_
        refine m_pi C hw (inC inW11) 10 (by decide) (wc w_1472) rfl (ty := .int) (by decide +kernel) rfl rfl (Nat.le_of_ble_eq_true rfl) ms_10 dX11_net_131 (fun H locs hw => ?_)
        refine lv_aload_n C.1 C.2.1 dX11_net_134 rfl (lv_at hl 1 rfl) ?_
        refine lv_iconst (v := (4 : Int32)) C.1 C.2.1 dX11_net_135 (by decide) ?_
        refine m_Vi C hw (ctX11_wrong l D o h cI cZ (upd u116.1 10 (u116.2 30 (ix x2))) u116.2 (4 : Int32) hh) (cwV 1 C.2.2.2.2 (gd_V w_1729 w_1731 w_64 w_125 w_1732) rfl rfl rfl cdX11_wrong ⟨Nat.le_of_ble_eq_true rfl, Nat.le_of_ble_eq_true rfl⟩) rfl hl.1 (Nat.le_of_ble_eq_true rfl) dX11_net_136 ⟨Nat.zero_le _, Nat.zero_le _⟩ (fun r136 u136 H locs hh hw => ?_) rfl
        refine lv_istore (lv' := [(4, .int r136), (3, .int r116), (0, .ref o), (2, .int x2)]) C.1 C.2.1 dX11_net_139 hl (by decide) rfl (fun ls hl => ?_)
        refine lv_iconst (v := (-1 : Int32)) C.1 C.2.1 dX11_net_141 (by decide) ?_
        exact hR _ _ _ (u136.1, u136.2) _ _ dX11_net_142 rfl hh hw
    · replace hh := hh.2 c103
      refine lv_goto (tgt := 150) C.1 C.2.1 dX11_net_106 (by decide) ?_
      exact tX11_net_b150 C hR hB85 hh hw hl
theorem tX11_net_b85 {K : Int32 → ((Nat → Int32) × (Nat → Nat → Int32)) → Prop} (C : CallFix p m c cX11_net 5 s args wsX11_net RX11) (hR : Rti .int p l e rmX11_net s m args below meth c cX11_net D A (mT cI cZ) (mWu o h cI cZ) K Q) (n : Nat) : ∀ (f : Nat → Int32) (g : Nat → Nat → Int32) (x2 : Int32) (H : Heap) (locs : List Loc) (ls : Array Slot), wpX11_net_b85 n f g x2 K → Wd D A s (mT cI cZ) (mW o h cI cZ f g) H locs → lv_has ls 5 [(0, .ref o), (2, .int x2)] → W p l e rmX11_net s m args below meth c H locs 0 0 Q (F0 m 85 ls []) := by
  induction n with
  | zero => intro f g x2 H locs ls hh; exact hh.elim
  | succ n ih => intro f g x2 H locs ls hh hw hl; exact tX11_net_b85_body C hR ih hh hw hl
set_option maxHeartbeats 4000000 in
set_option maxRecDepth 100000 in
theorem tX11_net_b66_body {B66 : (Nat → Int32) → (Nat → Nat → Int32) → Prop} {K : Int32 → ((Nat → Int32) × (Nat → Nat → Int32)) → Prop} (C : CallFix p m c cX11_net 5 s args wsX11_net RX11) (hR : Rti .int p l e rmX11_net s m args below meth c cX11_net D A (mT cI cZ) (mWu o h cI cZ) K Q) (hB66 : ∀ (f : Nat → Int32) (g : Nat → Nat → Int32) (H : Heap) (locs : List Loc) (ls : Array Slot), B66 f g → Wd D A s (mT cI cZ) (mW o h cI cZ f g) H locs → lv_has ls 5 [(0, .ref o)] → W p l e rmX11_net s m args below meth c H locs 0 0 Q (F0 m 66 ls [])) {f : Nat → Int32} {g : Nat → Nat → Int32} (hh : wpX11_net_b66_body B66 f g K) {H : Heap} {locs : List Loc} {ls : Array Slot} (hw : Wd D A s (mT cI cZ) (mW o h cI cZ f g) H locs) (hl : lv_has ls 5 [(0, .ref o)]) : W p l e rmX11_net s m args below meth c H locs 0 0 Q (F0 m 66 ls []) := by
  unfold wpX11_net_b66_body at hh
  refine lv_aload_n C.1 C.2.1 dX11_net_66 rfl (lv_at hl 0 rfl) ?_
  refine m_gi C hw (inC inW11) 8 (by decide) (wc w_1470) mg_8 (x := f 8) rfl dX11_net_67 ?_
  refine lv_if_eq (tgt := 82) C.1 C.2.1 dX11_net_70 (by decide) (fun c70 => ?_) (fun c70 => ?_)
  · replace hh := hh.1 c70
    refine lv_bipush (v := (64 : Int32)) C.1 C.2.1 dX11_net_82 (by decide) ?_
    refine lv_istore_n (lv' := [(2, .int (64 : Int32)), (0, .ref o)]) C.1 C.2.1 dX11_net_84 rfl hl (by decide) rfl (fun ls hl => ?_)
    obtain ⟨n, hh⟩ := hh
    exact tX11_net_b85 C hR n _ _ _ _ _ _ hh hw (lv_sub hl [1, 0] rfl)
  · replace hh := hh.2 c70
    refine lv_aload_n C.1 C.2.1 dX11_net_73 rfl (lv_at hl 0 rfl) ?_
    refine m_Vi C hw (ctX11_netLine l D o h cI cZ f g  hh) (cwV 0 C.2.2.2.2 (gd_V w_1757 w_1759 w_69 w_125 w_1760) rfl rfl rfl cdX11_netLine ⟨Nat.le_of_ble_eq_true rfl, Nat.le_of_ble_eq_true rfl⟩) rfl hl.1 (Nat.le_of_ble_eq_true rfl) dX11_net_74 ⟨Nat.zero_le _, Nat.zero_le _⟩ (fun r74 u74 H locs hh hw => ?_) rfl
    refine lv_if_ne (tgt := 66) C.1 C.2.1 dX11_net_77 (by decide) (fun c77 => ?_) (fun c77 => ?_)
    · replace hh := hh.1 c77
      exact hB66 _ _ _ _ _ hh hw hl
    · replace hh := hh.2 c77
      refine lv_iconst (v := (-1 : Int32)) C.1 C.2.1 dX11_net_80 (by decide) ?_
      exact hR _ _ _ (u74.1, u74.2) _ _ dX11_net_81 rfl hh hw
theorem tX11_net_b66 {K : Int32 → ((Nat → Int32) × (Nat → Nat → Int32)) → Prop} (C : CallFix p m c cX11_net 5 s args wsX11_net RX11) (hR : Rti .int p l e rmX11_net s m args below meth c cX11_net D A (mT cI cZ) (mWu o h cI cZ) K Q) (n : Nat) : ∀ (f : Nat → Int32) (g : Nat → Nat → Int32) (H : Heap) (locs : List Loc) (ls : Array Slot), wpX11_net_b66 n f g K → Wd D A s (mT cI cZ) (mW o h cI cZ f g) H locs → lv_has ls 5 [(0, .ref o)] → W p l e rmX11_net s m args below meth c H locs 0 0 Q (F0 m 66 ls []) := by
  induction n with
  | zero => intro f g H locs ls hh; exact hh.elim
  | succ n ih => intro f g H locs ls hh hw hl; exact tX11_net_b66_body C hR ih hh hw hl
set_option maxHeartbeats 4000000 in
set_option maxRecDepth 100000 in
theorem tX11_net_b34_body {B34 : (Nat → Int32) → (Nat → Nat → Int32) → Int32 → Prop} {K : Int32 → ((Nat → Int32) × (Nat → Nat → Int32)) → Prop} (C : CallFix p m c cX11_net 5 s args wsX11_net RX11) (hR : Rti .int p l e rmX11_net s m args below meth c cX11_net D A (mT cI cZ) (mWu o h cI cZ) K Q) (hB34 : ∀ (f : Nat → Int32) (g : Nat → Nat → Int32) (x2 : Int32) (H : Heap) (locs : List Loc) (ls : Array Slot), B34 f g x2 → Wd D A s (mT cI cZ) (mW o h cI cZ f g) H locs → lv_has ls 5 [(0, .ref o), (2, .int x2)] → W p l e rmX11_net s m args below meth c H locs 0 0 Q (F0 m 34 ls [])) {f : Nat → Int32} {g : Nat → Nat → Int32} {x2 : Int32} (hh : wpX11_net_b34_body B34 f g x2 K) {H : Heap} {locs : List Loc} {ls : Array Slot} (hw : Wd D A s (mT cI cZ) (mW o h cI cZ f g) H locs) (hl : lv_has ls 5 [(0, .ref o), (2, .int x2)]) : W p l e rmX11_net s m args below meth c H locs 0 0 Q (F0 m 34 ls []) := by
  unfold wpX11_net_b34_body at hh
  refine lv_iload_n C.1 C.2.1 dX11_net_34 rfl (lv_at hl 1 rfl) ?_
  refine lv_bipush (v := (24 : Int32)) C.1 C.2.1 dX11_net_35 (by decide) ?_
  refine lv_icmp_ge (tgt := 66) C.1 C.2.1 dX11_net_37 (by decide) (fun c37 => ?_) (fun c37 => ?_)
  · replace hh := hh.1 c37
    obtain ⟨n, hh⟩ := hh
    exact tX11_net_b66 C hR n _ _ _ _ _ hh hw (lv_sub hl [0] rfl)
  · replace hh := hh.2 c37
    refine lv_aload_n C.1 C.2.1 dX11_net_40 rfl (lv_at hl 0 rfl) ?_
    refine m_ga C hw (inC inW11) 25 (by decide) (wc w_1487) mg_25 dX11_net_41 ?_
    refine lv_bipush (v := (24 : Int32)) C.1 C.2.1 dX11_net_44 (by decide) ?_
    refine lv_iload_n C.1 C.2.1 dX11_net_46 rfl (lv_at hl 1 rfl) ?_
    refine lv_iadd C.1 C.2.1 dX11_net_47 ?_
    refine lv_iconst (v := (0 : Int32)) C.1 C.2.1 dX11_net_48 (by decide) ?_
    obtain ⟨hi49, hh⟩ := hh
    refine m_ias C hw mp_25 mq_25 hi49 dX11_net_49 (fun H locs hw => ?_)
    refine lv_aload_n C.1 C.2.1 dX11_net_50 rfl (lv_at hl 0 rfl) ?_
    refine m_ga C hw (inC inW11) 26 (by decide) (wc w_1488) mg_26 dX11_net_51 ?_
    refine lv_bipush (v := (24 : Int32)) C.1 C.2.1 dX11_net_54 (by decide) ?_
    refine lv_iload_n C.1 C.2.1 dX11_net_56 rfl (lv_at hl 1 rfl) ?_
    refine lv_iadd C.1 C.2.1 dX11_net_57 ?_
    refine lv_iconst (v := (0 : Int32)) C.1 C.2.1 dX11_net_58 (by decide) ?_
    obtain ⟨hi59, hh⟩ := hh
    refine m_ias C hw mp_26 mq_26 hi59 dX11_net_59 (fun H locs hw => ?_)
    refine lv_iinc (v := x2 + (1 : Int32)) (lv' := [(2, .int (x2 + (1 : Int32))), (0, .ref o)]) C.1 C.2.1 dX11_net_60 hl (k := 1) rfl rfl (by decide) rfl (fun ls hl => ?_)
    refine lv_goto (tgt := 34) C.1 C.2.1 dX11_net_63 (by decide) ?_
    exact hB34 _ _ _ _ _ _ hh hw (lv_sub hl [1, 0] rfl)
theorem tX11_net_b34 {K : Int32 → ((Nat → Int32) × (Nat → Nat → Int32)) → Prop} (C : CallFix p m c cX11_net 5 s args wsX11_net RX11) (hR : Rti .int p l e rmX11_net s m args below meth c cX11_net D A (mT cI cZ) (mWu o h cI cZ) K Q) (n : Nat) : ∀ (f : Nat → Int32) (g : Nat → Nat → Int32) (x2 : Int32) (H : Heap) (locs : List Loc) (ls : Array Slot), wpX11_net_b34 n f g x2 K → Wd D A s (mT cI cZ) (mW o h cI cZ f g) H locs → lv_has ls 5 [(0, .ref o), (2, .int x2)] → W p l e rmX11_net s m args below meth c H locs 0 0 Q (F0 m 34 ls []) := by
  induction n with
  | zero => intro f g x2 H locs ls hh; exact hh.elim
  | succ n ih => intro f g x2 H locs ls hh hw hl; exact tX11_net_b34_body C hR ih hh hw hl
set_option maxHeartbeats 4000000 in
set_option maxRecDepth 100000 in
theorem tX11_net_b0 {K : Int32 → ((Nat → Int32) × (Nat → Nat → Int32)) → Prop} (C : CallFix p m c cX11_net 5 s args wsX11_net RX11) (hR : Rti .int p l e rmX11_net s m args below meth c cX11_net D A (mT cI cZ) (mWu o h cI cZ) K Q) {f : Nat → Int32} {g : Nat → Nat → Int32} {x1 : Int32} (hh : wpX11_net_b0 f g x1 K) {H : Heap} {locs : List Loc} {ls : Array Slot} (hw : Wd D A s (mT cI cZ) (mW o h cI cZ f g) H locs) (hl : lv_has ls 5 [(0, .ref o), (1, .int x1)]) : W p l e rmX11_net s m args below meth c H locs 0 0 Q (F0 m 0 ls []) := by
  unfold wpX11_net_b0 at hh
  refine lv_aload_n C.1 C.2.1 dX11_net_0 rfl (lv_at hl 0 rfl) ?_
  refine lv_iconst (v := (0 : Int32)) C.1 C.2.1 dX11_net_1 (by decide) ?_
  refine m_pi C hw (inC inW11) 2 (by decide) (wc w_1464) rfl (ty := .int) (by decide +kernel) rfl rfl (Nat.le_of_ble_eq_true rfl) ms_2 dX11_net_2 (fun H locs hw => ?_)
  refine lv_aload_n C.1 C.2.1 dX11_net_5 rfl (lv_at hl 0 rfl) ?_
  refine lv_iload_n C.1 C.2.1 dX11_net_6 rfl (lv_at hl 1 rfl) ?_
  refine lv_iconst (v := (1 : Int32)) C.1 C.2.1 dX11_net_7 (by decide) ?_
  refine m_Vi C hw (ctX11_starts l D o h cI cZ (upd f 2 (0 : Int32)) g x1 (1 : Int32) hh) (cwV 2 C.2.2.2.2 (gd_V w_1694 w_1696 w_56 w_125 w_1697) rfl rfl rfl cdX11_starts ⟨Nat.le_of_ble_eq_true rfl, Nat.le_of_ble_eq_true rfl⟩) rfl hl.1 (Nat.le_of_ble_eq_true rfl) dX11_net_8 ⟨Nat.zero_le _, Nat.zero_le _⟩ (fun r8 u8 H locs hh hw => ?_) rfl
  refine lv_if_ne (tgt := 17) C.1 C.2.1 dX11_net_11 (by decide) (fun c11 => ?_) (fun c11 => ?_)
  · replace hh := hh.1 c11
    refine lv_aload_n C.1 C.2.1 dX11_net_17 rfl (lv_at hl 0 rfl) ?_
    refine lv_iconst (v := (0 : Int32)) C.1 C.2.1 dX11_net_18 (by decide) ?_
    refine m_pi C hw (inC inW11) 21 (by decide) (wc w_1483) rfl (ty := .int) (by decide +kernel) rfl rfl (Nat.le_of_ble_eq_true rfl) ms_21 dX11_net_19 (fun H locs hw => ?_)
    refine lv_aload_n C.1 C.2.1 dX11_net_22 rfl (lv_at hl 0 rfl) ?_
    refine lv_iconst (v := (0 : Int32)) C.1 C.2.1 dX11_net_23 (by decide) ?_
    refine m_pi C hw (inC inW11) 23 (by decide) (wc w_1485) rfl (ty := .int) (by decide +kernel) rfl rfl (Nat.le_of_ble_eq_true rfl) ms_23 dX11_net_24 (fun H locs hw => ?_)
    refine lv_aload_n C.1 C.2.1 dX11_net_27 rfl (lv_at hl 0 rfl) ?_
    refine lv_iconst (v := (0 : Int32)) C.1 C.2.1 dX11_net_28 (by decide) ?_
    refine m_pi C hw (inC inW11) 36 (by decide) (wc w_1498) rfl (ty := .int) (by decide +kernel) rfl rfl (Nat.le_of_ble_eq_true rfl) ms_36 dX11_net_29 (fun H locs hw => ?_)
    refine lv_iconst (v := (0 : Int32)) C.1 C.2.1 dX11_net_32 (by decide) ?_
    refine lv_istore_n (lv' := [(2, .int (0 : Int32)), (0, .ref o), (1, .int x1)]) C.1 C.2.1 dX11_net_33 rfl hl (by decide) rfl (fun ls hl => ?_)
    obtain ⟨n, hh⟩ := hh
    exact tX11_net_b34 C hR n _ _ _ _ _ _ hh hw (lv_sub hl [1, 0] rfl)
  · replace hh := hh.2 c11
    refine lv_bipush (v := (-2 : Int32)) C.1 C.2.1 dX11_net_14 (by decide) ?_
    exact hR _ _ _ (u8.1, u8.2) _ _ dX11_net_16 rfl hh hw
theorem ctX11_net (l : Launch) (D : va_G) (o : Nat) (h : Nat → Nat) (cI cZ : ClassId) (f : Nat → Int32) (g : Nat → Nat → Int32) (x1 : Int32) {K : Int32 → ((Nat → Int32) × (Nat → Nat → Int32)) → Prop} (hh : wpX11_net f g x1 K) : Ci l yX11_net wsX11_net rmX11_net [.ref o, .int x1] D (mT cI cZ) (mWu o h cI cZ) (f, g) K := by
  refine Ci_of (cc := cX11_net) (maxL := 5) (by decide) rfl (Nat.le_of_ble_eq_true rfl) ?_
  intro p e s m below meth c A Q C hw hR ls hl
  exact tX11_net_b0 C hR hh hw hl
theorem cdX11_net : yX11_net.cls = RX11 ∧ yX11_net.cls ≠ "java/lang/invoke/MethodHandle" ∧ yX11_net.cls ≠ "java/lang/invoke/VarHandle" ∧ (parseMethodDescriptor yX11_net.desc).map (fun d => d.parameters.length) = some 1 := by decide +kernel
abbrev rmX11_squares : Room := { frames := 0, cells := 0, slots := 0, locals := 0 }
set_option maxHeartbeats 4000000 in
set_option maxRecDepth 100000 in
theorem tX11_squares_b0 {K : Int32 → ((Nat → Int32) × (Nat → Nat → Int32)) → Prop} (C : CallFix p m c cX11_squares 1 s args wsX11_squares RX11) (hR : Rti .int p l e rmX11_squares s m args below meth c cX11_squares D A (mT cI cZ) (mWu o h cI cZ) K Q) {f : Nat → Int32} {g : Nat → Nat → Int32} (hh : wpX11_squares_b0 f g K) {H : Heap} {locs : List Loc} {ls : Array Slot} (hw : Wd D A s (mT cI cZ) (mW o h cI cZ f g) H locs) (hl : lv_has ls 1 [(0, .ref o)]) : W p l e rmX11_squares s m args below meth c H locs 0 0 Q (F0 m 0 ls []) := by
  unfold wpX11_squares_b0 at hh
  refine lv_aload_n C.1 C.2.1 dX11_squares_0 rfl (lv_at hl 0 rfl) ?_
  refine m_gi C hw (inC inW11) 38 (by decide) (wc w_1500) mg_38 (x := f 38) rfl dX11_squares_1 ?_
  refine lv_aload_n C.1 C.2.1 dX11_squares_4 rfl (lv_at hl 0 rfl) ?_
  refine m_gi C hw (inC inW11) 39 (by decide) (wc w_1501) mg_39 (x := f 39) rfl dX11_squares_5 ?_
  refine lv_imul C.1 C.2.1 dX11_squares_8 ?_
  exact hR _ _ _ (f, g) _ _ dX11_squares_9 rfl hh hw
theorem ctX11_squares (l : Launch) (D : va_G) (o : Nat) (h : Nat → Nat) (cI cZ : ClassId) (f : Nat → Int32) (g : Nat → Nat → Int32) {K : Int32 → ((Nat → Int32) × (Nat → Nat → Int32)) → Prop} (hh : wpX11_squares f g K) : Ci l yX11_squares wsX11_squares rmX11_squares [.ref o] D (mT cI cZ) (mWu o h cI cZ) (f, g) K := by
  refine Ci_of (cc := cX11_squares) (maxL := 1) (by decide) rfl (Nat.le_of_ble_eq_true rfl) ?_
  intro p e s m below meth c A Q C hw hR ls hl
  exact tX11_squares_b0 C hR hh hw hl
theorem cdX11_squares : yX11_squares.cls = RX11 ∧ yX11_squares.cls ≠ "java/lang/invoke/MethodHandle" ∧ yX11_squares.cls ≠ "java/lang/invoke/VarHandle" ∧ (parseMethodDescriptor yX11_squares.desc).map (fun d => d.parameters.length) = some 0 := by decide +kernel
abbrev rmX11_isSquare : Room := { frames := 1, cells := 0, slots := 0, locals := 20 }
set_option maxHeartbeats 4000000 in
set_option maxRecDepth 100000 in
theorem tX11_isSquare_b17 {K : Int32 → ((Nat → Int32) × (Nat → Nat → Int32)) → Prop} (C : CallFix p m c cX11_isSquare 2 s args wsX11_isSquare RX11) (hR : Rti .boolean p l e rmX11_isSquare s m args below meth c cX11_isSquare D A (mT cI cZ) (mWu o h cI cZ) K Q) {f : Nat → Int32} {g : Nat → Nat → Int32} {k0 : Int32} (hh : wpX11_isSquare_b17 f g k0 K) {H : Heap} {locs : List Loc} {ls : Array Slot} (hw : Wd D A s (mT cI cZ) (mW o h cI cZ f g) H locs) (hl : lv_has ls 2 [(0, .ref o)]) : W p l e rmX11_isSquare s m args below meth c H locs 0 0 Q (F0 m 17 ls [.int k0]) := by
  unfold wpX11_isSquare_b17 at hh
  obtain ⟨hb17, hh⟩ := hh
  exact hR _ _ _ (f, g) _ _ dX11_isSquare_17 (isB_nar hb17) hh hw
set_option maxHeartbeats 4000000 in
set_option maxRecDepth 100000 in
theorem tX11_isSquare_b16 {K : Int32 → ((Nat → Int32) × (Nat → Nat → Int32)) → Prop} (C : CallFix p m c cX11_isSquare 2 s args wsX11_isSquare RX11) (hR : Rti .boolean p l e rmX11_isSquare s m args below meth c cX11_isSquare D A (mT cI cZ) (mWu o h cI cZ) K Q) {f : Nat → Int32} {g : Nat → Nat → Int32} (hh : wpX11_isSquare_b16 f g K) {H : Heap} {locs : List Loc} {ls : Array Slot} (hw : Wd D A s (mT cI cZ) (mW o h cI cZ f g) H locs) (hl : lv_has ls 2 [(0, .ref o)]) : W p l e rmX11_isSquare s m args below meth c H locs 0 0 Q (F0 m 16 ls []) := by
  unfold wpX11_isSquare_b16 at hh
  refine lv_iconst (v := (0 : Int32)) C.1 C.2.1 dX11_isSquare_16 (by decide) ?_
  exact tX11_isSquare_b17 C hR hh hw hl
set_option maxHeartbeats 4000000 in
set_option maxRecDepth 100000 in
theorem tX11_isSquare_b0 {K : Int32 → ((Nat → Int32) × (Nat → Nat → Int32)) → Prop} (C : CallFix p m c cX11_isSquare 2 s args wsX11_isSquare RX11) (hR : Rti .boolean p l e rmX11_isSquare s m args below meth c cX11_isSquare D A (mT cI cZ) (mWu o h cI cZ) K Q) {f : Nat → Int32} {g : Nat → Nat → Int32} {x1 : Int32} (hh : wpX11_isSquare_b0 f g x1 K) {H : Heap} {locs : List Loc} {ls : Array Slot} (hw : Wd D A s (mT cI cZ) (mW o h cI cZ f g) H locs) (hl : lv_has ls 2 [(0, .ref o), (1, .int x1)]) : W p l e rmX11_isSquare s m args below meth c H locs 0 0 Q (F0 m 0 ls []) := by
  unfold wpX11_isSquare_b0 at hh
  refine lv_iload_n C.1 C.2.1 dX11_isSquare_0 rfl (lv_at hl 1 rfl) ?_
  refine lv_if_lt (tgt := 16) C.1 C.2.1 dX11_isSquare_1 (by decide) (fun c1 => ?_) (fun c1 => ?_)
  · replace hh := hh.1 c1
    exact tX11_isSquare_b16 C hR hh hw (lv_sub hl [0] rfl)
  · replace hh := hh.2 c1
    refine lv_iload_n C.1 C.2.1 dX11_isSquare_4 rfl (lv_at hl 1 rfl) ?_
    refine lv_aload_n C.1 C.2.1 dX11_isSquare_5 rfl (lv_at hl 0 rfl) ?_
    refine m_Vi C hw (ctX11_squares l D o h cI cZ f g  hh) (cwV 0 C.2.2.2.2 (gd_V w_1454 w_1456 w_54 w_125 w_1457) rfl rfl rfl cdX11_squares ⟨Nat.le_of_ble_eq_true rfl, Nat.le_of_ble_eq_true rfl⟩) rfl hl.1 (Nat.le_of_ble_eq_true rfl) dX11_isSquare_6 ⟨Nat.zero_le _, Nat.zero_le _⟩ (fun r6 u6 H locs hh hw => ?_) rfl
    refine lv_icmp_ge (tgt := 16) C.1 C.2.1 dX11_isSquare_9 (by decide) (fun c9 => ?_) (fun c9 => ?_)
    · replace hh := hh.1 c9
      exact tX11_isSquare_b16 C hR hh hw (lv_sub hl [0] rfl)
    · replace hh := hh.2 c9
      refine lv_iconst (v := (1 : Int32)) C.1 C.2.1 dX11_isSquare_12 (by decide) ?_
      refine lv_goto (tgt := 17) C.1 C.2.1 dX11_isSquare_13 (by decide) ?_
      exact tX11_isSquare_b17 C hR hh hw (lv_sub hl [0] rfl)
theorem ctX11_isSquare (l : Launch) (D : va_G) (o : Nat) (h : Nat → Nat) (cI cZ : ClassId) (f : Nat → Int32) (g : Nat → Nat → Int32) (x1 : Int32) {K : Int32 → ((Nat → Int32) × (Nat → Nat → Int32)) → Prop} (hh : wpX11_isSquare f g x1 K) : Ci l yX11_isSquare wsX11_isSquare rmX11_isSquare [.ref o, .int x1] D (mT cI cZ) (mWu o h cI cZ) (f, g) K := by
  refine Ci_of (cc := cX11_isSquare) (maxL := 2) (by decide) rfl (Nat.le_of_ble_eq_true rfl) ?_
  intro p e s m below meth c A Q C hw hR ls hl
  exact tX11_isSquare_b0 C hR hh hw hl
theorem cdX11_isSquare : yX11_isSquare.cls = RX11 ∧ yX11_isSquare.cls ≠ "java/lang/invoke/MethodHandle" ∧ yX11_isSquare.cls ≠ "java/lang/invoke/VarHandle" ∧ (parseMethodDescriptor yX11_isSquare.desc).map (fun d => d.parameters.length) = some 1 := by decide +kernel
abbrev rmX11_plainWalls : Room := { frames := 1, cells := 0, slots := 0, locals := 20 }
set_option maxHeartbeats 4000000 in
set_option maxRecDepth 100000 in
theorem tX11_plainWalls_b83 {B2 : (Nat → Int32) → (Nat → Nat → Int32) → Int32 → Prop} {K : ((Nat → Int32) × (Nat → Nat → Int32)) → Prop} (C : CallFix p m c cX11_plainWalls 2 s args wsX11_plainWalls RX11) (hR : Rtv p l e rmX11_plainWalls s m args below meth c cX11_plainWalls D A (mT cI cZ) (mWu o h cI cZ) K Q) (hB2 : ∀ (f : Nat → Int32) (g : Nat → Nat → Int32) (x1 : Int32) (H : Heap) (locs : List Loc) (ls : Array Slot), B2 f g x1 → Wd D A s (mT cI cZ) (mW o h cI cZ f g) H locs → lv_has ls 2 [(0, .ref o), (1, .int x1)] → W p l e rmX11_plainWalls s m args below meth c H locs 0 0 Q (F0 m 2 ls [])) {f : Nat → Int32} {g : Nat → Nat → Int32} {k1 : Int32} {k2 : Int32} {k3 : Int32} {x1 : Int32} (hh : wpX11_plainWalls_b83 B2 f g k1 k2 k3 x1 K) {H : Heap} {locs : List Loc} {ls : Array Slot} (hw : Wd D A s (mT cI cZ) (mW o h cI cZ f g) H locs) (hl : lv_has ls 2 [(0, .ref o), (1, .int x1)]) : W p l e rmX11_plainWalls s m args below meth c H locs 0 0 Q (F0 m 83 ls [.int k3, .int k2, .int k1, .ref (h 46)]) := by
  unfold wpX11_plainWalls_b83 at hh
  refine lv_ior C.1 C.2.1 dX11_plainWalls_83 ?_
  obtain ⟨hi84, hh⟩ := hh
  refine m_ias C hw mp_46 mq_46 hi84 dX11_plainWalls_84 (fun H locs hw => ?_)
  refine lv_iinc (v := x1 + (1 : Int32)) (lv' := [(1, .int (x1 + (1 : Int32))), (0, .ref o)]) C.1 C.2.1 dX11_plainWalls_85 hl (k := 1) rfl rfl (by decide) rfl (fun ls hl => ?_)
  refine lv_goto (tgt := 2) C.1 C.2.1 dX11_plainWalls_88 (by decide) ?_
  exact hB2 _ _ _ _ _ _ hh hw (lv_sub hl [1, 0] rfl)
set_option maxHeartbeats 4000000 in
set_option maxRecDepth 100000 in
theorem tX11_plainWalls_b67 {B2 : (Nat → Int32) → (Nat → Nat → Int32) → Int32 → Prop} {K : ((Nat → Int32) × (Nat → Nat → Int32)) → Prop} (C : CallFix p m c cX11_plainWalls 2 s args wsX11_plainWalls RX11) (hR : Rtv p l e rmX11_plainWalls s m args below meth c cX11_plainWalls D A (mT cI cZ) (mWu o h cI cZ) K Q) (hB2 : ∀ (f : Nat → Int32) (g : Nat → Nat → Int32) (x1 : Int32) (H : Heap) (locs : List Loc) (ls : Array Slot), B2 f g x1 → Wd D A s (mT cI cZ) (mW o h cI cZ f g) H locs → lv_has ls 2 [(0, .ref o), (1, .int x1)] → W p l e rmX11_plainWalls s m args below meth c H locs 0 0 Q (F0 m 2 ls [])) {f : Nat → Int32} {g : Nat → Nat → Int32} {k1 : Int32} {k2 : Int32} {k3 : Int32} {x1 : Int32} (hh : wpX11_plainWalls_b67 B2 f g k1 k2 k3 x1 K) {H : Heap} {locs : List Loc} {ls : Array Slot} (hw : Wd D A s (mT cI cZ) (mW o h cI cZ f g) H locs) (hl : lv_has ls 2 [(0, .ref o), (1, .int x1)]) : W p l e rmX11_plainWalls s m args below meth c H locs 0 0 Q (F0 m 67 ls [.int k3, .int k2, .int k1, .ref (h 46)]) := by
  unfold wpX11_plainWalls_b67 at hh
  refine lv_ior C.1 C.2.1 dX11_plainWalls_67 ?_
  refine lv_iload_n C.1 C.2.1 dX11_plainWalls_68 rfl (lv_at hl 1 rfl) ?_
  refine lv_aload_n C.1 C.2.1 dX11_plainWalls_69 rfl (lv_at hl 0 rfl) ?_
  refine m_gi C hw (inC inW11) 38 (by decide) (wc w_1500) mg_38 (x := f 38) rfl dX11_plainWalls_70 ?_
  obtain ⟨hz73, hh⟩ := hh
  refine g_irem C dX11_plainWalls_73 hz73 ?_
  refine lv_if_ne (tgt := 82) C.1 C.2.1 dX11_plainWalls_74 (by decide) (fun c74 => ?_) (fun c74 => ?_)
  · replace hh := hh.1 c74
    refine lv_iconst (v := (0 : Int32)) C.1 C.2.1 dX11_plainWalls_82 (by decide) ?_
    exact tX11_plainWalls_b83 C hR hB2 hh hw hl
  · replace hh := hh.2 c74
    refine lv_bipush (v := (8 : Int32)) C.1 C.2.1 dX11_plainWalls_77 (by decide) ?_
    refine lv_goto (tgt := 83) C.1 C.2.1 dX11_plainWalls_79 (by decide) ?_
    exact tX11_plainWalls_b83 C hR hB2 hh hw hl
set_option maxHeartbeats 4000000 in
set_option maxRecDepth 100000 in
theorem tX11_plainWalls_b48 {B2 : (Nat → Int32) → (Nat → Nat → Int32) → Int32 → Prop} {K : ((Nat → Int32) × (Nat → Nat → Int32)) → Prop} (C : CallFix p m c cX11_plainWalls 2 s args wsX11_plainWalls RX11) (hR : Rtv p l e rmX11_plainWalls s m args below meth c cX11_plainWalls D A (mT cI cZ) (mWu o h cI cZ) K Q) (hB2 : ∀ (f : Nat → Int32) (g : Nat → Nat → Int32) (x1 : Int32) (H : Heap) (locs : List Loc) (ls : Array Slot), B2 f g x1 → Wd D A s (mT cI cZ) (mW o h cI cZ f g) H locs → lv_has ls 2 [(0, .ref o), (1, .int x1)] → W p l e rmX11_plainWalls s m args below meth c H locs 0 0 Q (F0 m 2 ls [])) {f : Nat → Int32} {g : Nat → Nat → Int32} {k1 : Int32} {k2 : Int32} {k3 : Int32} {x1 : Int32} (hh : wpX11_plainWalls_b48 B2 f g k1 k2 k3 x1 K) {H : Heap} {locs : List Loc} {ls : Array Slot} (hw : Wd D A s (mT cI cZ) (mW o h cI cZ f g) H locs) (hl : lv_has ls 2 [(0, .ref o), (1, .int x1)]) : W p l e rmX11_plainWalls s m args below meth c H locs 0 0 Q (F0 m 48 ls [.int k3, .int k2, .int k1, .ref (h 46)]) := by
  unfold wpX11_plainWalls_b48 at hh
  refine lv_ior C.1 C.2.1 dX11_plainWalls_48 ?_
  refine lv_iload_n C.1 C.2.1 dX11_plainWalls_49 rfl (lv_at hl 1 rfl) ?_
  refine lv_aload_n C.1 C.2.1 dX11_plainWalls_50 rfl (lv_at hl 0 rfl) ?_
  refine m_Vi C hw (ctX11_squares l D o h cI cZ f g  hh) (cwV 0 C.2.2.2.2 (gd_V w_1454 w_1456 w_54 w_125 w_1457) rfl rfl rfl cdX11_squares ⟨Nat.le_of_ble_eq_true rfl, Nat.le_of_ble_eq_true rfl⟩) rfl hl.1 (Nat.le_of_ble_eq_true rfl) dX11_plainWalls_51 ⟨Nat.zero_le _, Nat.zero_le _⟩ (fun r51 u51 H locs hh hw => ?_) rfl
  refine lv_aload_n C.1 C.2.1 dX11_plainWalls_54 rfl (lv_at hl 0 rfl) ?_
  refine m_gi C hw (inC inW11) 38 (by decide) (wc w_1500) mg_38 (x := u51.1 38) rfl dX11_plainWalls_55 ?_
  refine lv_isub C.1 C.2.1 dX11_plainWalls_58 ?_
  refine lv_icmp_lt (tgt := 66) C.1 C.2.1 dX11_plainWalls_59 (by decide) (fun c59 => ?_) (fun c59 => ?_)
  · replace hh := hh.1 c59
    refine lv_iconst (v := (0 : Int32)) C.1 C.2.1 dX11_plainWalls_66 (by decide) ?_
    exact tX11_plainWalls_b67 C hR hB2 hh hw hl
  · replace hh := hh.2 c59
    refine lv_iconst (v := (4 : Int32)) C.1 C.2.1 dX11_plainWalls_62 (by decide) ?_
    refine lv_goto (tgt := 67) C.1 C.2.1 dX11_plainWalls_63 (by decide) ?_
    exact tX11_plainWalls_b67 C hR hB2 hh hw hl
set_option maxHeartbeats 4000000 in
set_option maxRecDepth 100000 in
theorem tX11_plainWalls_b28 {B2 : (Nat → Int32) → (Nat → Nat → Int32) → Int32 → Prop} {K : ((Nat → Int32) × (Nat → Nat → Int32)) → Prop} (C : CallFix p m c cX11_plainWalls 2 s args wsX11_plainWalls RX11) (hR : Rtv p l e rmX11_plainWalls s m args below meth c cX11_plainWalls D A (mT cI cZ) (mWu o h cI cZ) K Q) (hB2 : ∀ (f : Nat → Int32) (g : Nat → Nat → Int32) (x1 : Int32) (H : Heap) (locs : List Loc) (ls : Array Slot), B2 f g x1 → Wd D A s (mT cI cZ) (mW o h cI cZ f g) H locs → lv_has ls 2 [(0, .ref o), (1, .int x1)] → W p l e rmX11_plainWalls s m args below meth c H locs 0 0 Q (F0 m 2 ls [])) {f : Nat → Int32} {g : Nat → Nat → Int32} {k1 : Int32} {k2 : Int32} {x1 : Int32} (hh : wpX11_plainWalls_b28 B2 f g k1 k2 x1 K) {H : Heap} {locs : List Loc} {ls : Array Slot} (hw : Wd D A s (mT cI cZ) (mW o h cI cZ f g) H locs) (hl : lv_has ls 2 [(0, .ref o), (1, .int x1)]) : W p l e rmX11_plainWalls s m args below meth c H locs 0 0 Q (F0 m 28 ls [.int k2, .int k1, .ref (h 46)]) := by
  unfold wpX11_plainWalls_b28 at hh
  refine lv_iload_n C.1 C.2.1 dX11_plainWalls_28 rfl (lv_at hl 1 rfl) ?_
  refine lv_aload_n C.1 C.2.1 dX11_plainWalls_29 rfl (lv_at hl 0 rfl) ?_
  refine m_gi C hw (inC inW11) 38 (by decide) (wc w_1500) mg_38 (x := f 38) rfl dX11_plainWalls_30 ?_
  obtain ⟨hz33, hh⟩ := hh
  refine g_irem C dX11_plainWalls_33 hz33 ?_
  refine lv_aload_n C.1 C.2.1 dX11_plainWalls_34 rfl (lv_at hl 0 rfl) ?_
  refine m_gi C hw (inC inW11) 38 (by decide) (wc w_1500) mg_38 (x := f 38) rfl dX11_plainWalls_35 ?_
  refine lv_iconst (v := (1 : Int32)) C.1 C.2.1 dX11_plainWalls_38 (by decide) ?_
  refine lv_isub C.1 C.2.1 dX11_plainWalls_39 ?_
  refine lv_icmp_ne (tgt := 47) C.1 C.2.1 dX11_plainWalls_40 (by decide) (fun c40 => ?_) (fun c40 => ?_)
  · replace hh := hh.1 c40
    refine lv_iconst (v := (0 : Int32)) C.1 C.2.1 dX11_plainWalls_47 (by decide) ?_
    exact tX11_plainWalls_b48 C hR hB2 hh hw hl
  · replace hh := hh.2 c40
    refine lv_iconst (v := (2 : Int32)) C.1 C.2.1 dX11_plainWalls_43 (by decide) ?_
    refine lv_goto (tgt := 48) C.1 C.2.1 dX11_plainWalls_44 (by decide) ?_
    exact tX11_plainWalls_b48 C hR hB2 hh hw hl
set_option maxHeartbeats 4000000 in
set_option maxRecDepth 100000 in
theorem tX11_plainWalls_b2_body {B2 : (Nat → Int32) → (Nat → Nat → Int32) → Int32 → Prop} {K : ((Nat → Int32) × (Nat → Nat → Int32)) → Prop} (C : CallFix p m c cX11_plainWalls 2 s args wsX11_plainWalls RX11) (hR : Rtv p l e rmX11_plainWalls s m args below meth c cX11_plainWalls D A (mT cI cZ) (mWu o h cI cZ) K Q) (hB2 : ∀ (f : Nat → Int32) (g : Nat → Nat → Int32) (x1 : Int32) (H : Heap) (locs : List Loc) (ls : Array Slot), B2 f g x1 → Wd D A s (mT cI cZ) (mW o h cI cZ f g) H locs → lv_has ls 2 [(0, .ref o), (1, .int x1)] → W p l e rmX11_plainWalls s m args below meth c H locs 0 0 Q (F0 m 2 ls [])) {f : Nat → Int32} {g : Nat → Nat → Int32} {x1 : Int32} (hh : wpX11_plainWalls_b2_body B2 f g x1 K) {H : Heap} {locs : List Loc} {ls : Array Slot} (hw : Wd D A s (mT cI cZ) (mW o h cI cZ f g) H locs) (hl : lv_has ls 2 [(0, .ref o), (1, .int x1)]) : W p l e rmX11_plainWalls s m args below meth c H locs 0 0 Q (F0 m 2 ls []) := by
  unfold wpX11_plainWalls_b2_body at hh
  refine lv_iload_n C.1 C.2.1 dX11_plainWalls_2 rfl (lv_at hl 1 rfl) ?_
  refine lv_aload_n C.1 C.2.1 dX11_plainWalls_3 rfl (lv_at hl 0 rfl) ?_
  refine m_Vi C hw (ctX11_squares l D o h cI cZ f g  hh) (cwV 0 C.2.2.2.2 (gd_V w_1454 w_1456 w_54 w_125 w_1457) rfl rfl rfl cdX11_squares ⟨Nat.le_of_ble_eq_true rfl, Nat.le_of_ble_eq_true rfl⟩) rfl hl.1 (Nat.le_of_ble_eq_true rfl) dX11_plainWalls_4 ⟨Nat.zero_le _, Nat.zero_le _⟩ (fun r4 u4 H locs hh hw => ?_) rfl
  refine lv_icmp_ge (tgt := 91) C.1 C.2.1 dX11_plainWalls_7 (by decide) (fun c7 => ?_) (fun c7 => ?_)
  · replace hh := hh.1 c7
    exact hR _ _ (u4.1, u4.2) _ _ dX11_plainWalls_91 hh hw
  · replace hh := hh.2 c7
    refine lv_aload_n C.1 C.2.1 dX11_plainWalls_10 rfl (lv_at hl 0 rfl) ?_
    refine m_ga C hw (inC inW11) 46 (by decide) (wc w_1508) mg_46 dX11_plainWalls_11 ?_
    refine lv_iload_n C.1 C.2.1 dX11_plainWalls_14 rfl (lv_at hl 1 rfl) ?_
    refine lv_iload_n C.1 C.2.1 dX11_plainWalls_15 rfl (lv_at hl 1 rfl) ?_
    refine lv_aload_n C.1 C.2.1 dX11_plainWalls_16 rfl (lv_at hl 0 rfl) ?_
    refine m_gi C hw (inC inW11) 38 (by decide) (wc w_1500) mg_38 (x := u4.1 38) rfl dX11_plainWalls_17 ?_
    refine lv_icmp_ge (tgt := 27) C.1 C.2.1 dX11_plainWalls_20 (by decide) (fun c20 => ?_) (fun c20 => ?_)
    · replace hh := hh.1 c20
      refine lv_iconst (v := (0 : Int32)) C.1 C.2.1 dX11_plainWalls_27 (by decide) ?_
      exact tX11_plainWalls_b28 C hR hB2 hh hw hl
    · replace hh := hh.2 c20
      refine lv_iconst (v := (1 : Int32)) C.1 C.2.1 dX11_plainWalls_23 (by decide) ?_
      refine lv_goto (tgt := 28) C.1 C.2.1 dX11_plainWalls_24 (by decide) ?_
      exact tX11_plainWalls_b28 C hR hB2 hh hw hl
theorem tX11_plainWalls_b2 {K : ((Nat → Int32) × (Nat → Nat → Int32)) → Prop} (C : CallFix p m c cX11_plainWalls 2 s args wsX11_plainWalls RX11) (hR : Rtv p l e rmX11_plainWalls s m args below meth c cX11_plainWalls D A (mT cI cZ) (mWu o h cI cZ) K Q) (n : Nat) : ∀ (f : Nat → Int32) (g : Nat → Nat → Int32) (x1 : Int32) (H : Heap) (locs : List Loc) (ls : Array Slot), wpX11_plainWalls_b2 n f g x1 K → Wd D A s (mT cI cZ) (mW o h cI cZ f g) H locs → lv_has ls 2 [(0, .ref o), (1, .int x1)] → W p l e rmX11_plainWalls s m args below meth c H locs 0 0 Q (F0 m 2 ls []) := by
  induction n with
  | zero => intro f g x1 H locs ls hh; exact hh.elim
  | succ n ih => intro f g x1 H locs ls hh hw hl; exact tX11_plainWalls_b2_body C hR ih hh hw hl
set_option maxHeartbeats 4000000 in
set_option maxRecDepth 100000 in
theorem tX11_plainWalls_b0 {K : ((Nat → Int32) × (Nat → Nat → Int32)) → Prop} (C : CallFix p m c cX11_plainWalls 2 s args wsX11_plainWalls RX11) (hR : Rtv p l e rmX11_plainWalls s m args below meth c cX11_plainWalls D A (mT cI cZ) (mWu o h cI cZ) K Q) {f : Nat → Int32} {g : Nat → Nat → Int32} (hh : wpX11_plainWalls_b0 f g K) {H : Heap} {locs : List Loc} {ls : Array Slot} (hw : Wd D A s (mT cI cZ) (mW o h cI cZ f g) H locs) (hl : lv_has ls 2 [(0, .ref o)]) : W p l e rmX11_plainWalls s m args below meth c H locs 0 0 Q (F0 m 0 ls []) := by
  unfold wpX11_plainWalls_b0 at hh
  refine lv_iconst (v := (0 : Int32)) C.1 C.2.1 dX11_plainWalls_0 (by decide) ?_
  refine lv_istore_n (lv' := [(1, .int (0 : Int32)), (0, .ref o)]) C.1 C.2.1 dX11_plainWalls_1 rfl hl (by decide) rfl (fun ls hl => ?_)
  obtain ⟨n, hh⟩ := hh
  exact tX11_plainWalls_b2 C hR n _ _ _ _ _ _ hh hw (lv_sub hl [1, 0] rfl)
theorem ctX11_plainWalls (l : Launch) (D : va_G) (o : Nat) (h : Nat → Nat) (cI cZ : ClassId) (f : Nat → Int32) (g : Nat → Nat → Int32) {K : ((Nat → Int32) × (Nat → Nat → Int32)) → Prop} (hh : wpX11_plainWalls f g K) : Cv l yX11_plainWalls wsX11_plainWalls rmX11_plainWalls [.ref o] D (mT cI cZ) (mWu o h cI cZ) (f, g) K := by
  refine Cv_of (cc := cX11_plainWalls) (maxL := 2) (by decide) rfl (Nat.le_of_ble_eq_true rfl) ?_
  intro p e s m below meth c A Q C hw hR ls hl
  exact tX11_plainWalls_b0 C hR hh hw hl
theorem cdX11_plainWalls : yX11_plainWalls.cls = RX11 ∧ yX11_plainWalls.cls ≠ "java/lang/invoke/MethodHandle" ∧ yX11_plainWalls.cls ≠ "java/lang/invoke/VarHandle" ∧ (parseMethodDescriptor yX11_plainWalls.desc).map (fun d => d.parameters.length) = some 0 := by decide +kernel
abbrev rmX11_begins : Room := { frames := 2, cells := 0, slots := 0, locals := 41 }
set_option maxHeartbeats 4000000 in
set_option maxRecDepth 100000 in
theorem tX11_begins_b95_body {B95 : (Nat → Int32) → (Nat → Nat → Int32) → Int32 → Prop} {K : ((Nat → Int32) × (Nat → Nat → Int32)) → Prop} (C : CallFix p m c cX11_begins 4 s args wsX11_begins RX11) (hR : Rtv p l e rmX11_begins s m args below meth c cX11_begins D A (mT cI cZ) (mWu o h cI cZ) K Q) (hB95 : ∀ (f : Nat → Int32) (g : Nat → Nat → Int32) (x3 : Int32) (H : Heap) (locs : List Loc) (ls : Array Slot), B95 f g x3 → Wd D A s (mT cI cZ) (mW o h cI cZ f g) H locs → lv_has ls 4 [(0, .ref o), (3, .int x3)] → W p l e rmX11_begins s m args below meth c H locs 0 0 Q (F0 m 95 ls [])) {f : Nat → Int32} {g : Nat → Nat → Int32} {x3 : Int32} (hh : wpX11_begins_b95_body B95 f g x3 K) {H : Heap} {locs : List Loc} {ls : Array Slot} (hw : Wd D A s (mT cI cZ) (mW o h cI cZ f g) H locs) (hl : lv_has ls 4 [(0, .ref o), (3, .int x3)]) : W p l e rmX11_begins s m args below meth c H locs 0 0 Q (F0 m 95 ls []) := by
  unfold wpX11_begins_b95_body at hh
  refine lv_iload_n C.1 C.2.1 dX11_begins_95 rfl (lv_at hl 1 rfl) ?_
  refine lv_iconst (v := (4 : Int32)) C.1 C.2.1 dX11_begins_96 (by decide) ?_
  refine lv_icmp_ge (tgt := 113) C.1 C.2.1 dX11_begins_97 (by decide) (fun c97 => ?_) (fun c97 => ?_)
  · replace hh := hh.1 c97
    exact hR _ _ (f, g) _ _ dX11_begins_113 hh hw
  · replace hh := hh.2 c97
    refine lv_aload_n C.1 C.2.1 dX11_begins_100 rfl (lv_at hl 0 rfl) ?_
    refine m_ga C hw (inC inW11) 56 (by decide) (wc w_1518) mg_56 dX11_begins_101 ?_
    refine lv_iload_n C.1 C.2.1 dX11_begins_104 rfl (lv_at hl 1 rfl) ?_
    refine lv_iconst (v := (0 : Int32)) C.1 C.2.1 dX11_begins_105 (by decide) ?_
    obtain ⟨hi106, hh⟩ := hh
    refine m_zas C hw mp_56 mq_56 hi106 dX11_begins_106 (fun H locs hw => ?_)
    refine lv_iinc (v := x3 + (1 : Int32)) (lv' := [(3, .int (x3 + (1 : Int32))), (0, .ref o)]) C.1 C.2.1 dX11_begins_107 hl (k := 1) rfl rfl (by decide) rfl (fun ls hl => ?_)
    refine lv_goto (tgt := 95) C.1 C.2.1 dX11_begins_110 (by decide) ?_
    exact hB95 _ _ _ _ _ _ hh hw (lv_sub hl [1, 0] rfl)
theorem tX11_begins_b95 {K : ((Nat → Int32) × (Nat → Nat → Int32)) → Prop} (C : CallFix p m c cX11_begins 4 s args wsX11_begins RX11) (hR : Rtv p l e rmX11_begins s m args below meth c cX11_begins D A (mT cI cZ) (mWu o h cI cZ) K Q) (n : Nat) : ∀ (f : Nat → Int32) (g : Nat → Nat → Int32) (x3 : Int32) (H : Heap) (locs : List Loc) (ls : Array Slot), wpX11_begins_b95 n f g x3 K → Wd D A s (mT cI cZ) (mW o h cI cZ f g) H locs → lv_has ls 4 [(0, .ref o), (3, .int x3)] → W p l e rmX11_begins s m args below meth c H locs 0 0 Q (F0 m 95 ls []) := by
  induction n with
  | zero => intro f g x3 H locs ls hh; exact hh.elim
  | succ n ih => intro f g x3 H locs ls hh hw hl; exact tX11_begins_b95_body C hR ih hh hw hl
set_option maxHeartbeats 4000000 in
set_option maxRecDepth 100000 in
theorem tX11_begins_b58_body {B58 : (Nat → Int32) → (Nat → Nat → Int32) → Int32 → Prop} {K : ((Nat → Int32) × (Nat → Nat → Int32)) → Prop} (C : CallFix p m c cX11_begins 4 s args wsX11_begins RX11) (hR : Rtv p l e rmX11_begins s m args below meth c cX11_begins D A (mT cI cZ) (mWu o h cI cZ) K Q) (hB58 : ∀ (f : Nat → Int32) (g : Nat → Nat → Int32) (x3 : Int32) (H : Heap) (locs : List Loc) (ls : Array Slot), B58 f g x3 → Wd D A s (mT cI cZ) (mW o h cI cZ f g) H locs → lv_has ls 4 [(0, .ref o), (3, .int x3)] → W p l e rmX11_begins s m args below meth c H locs 0 0 Q (F0 m 58 ls [])) {f : Nat → Int32} {g : Nat → Nat → Int32} {x3 : Int32} (hh : wpX11_begins_b58_body B58 f g x3 K) {H : Heap} {locs : List Loc} {ls : Array Slot} (hw : Wd D A s (mT cI cZ) (mW o h cI cZ f g) H locs) (hl : lv_has ls 4 [(0, .ref o), (3, .int x3)]) : W p l e rmX11_begins s m args below meth c H locs 0 0 Q (F0 m 58 ls []) := by
  unfold wpX11_begins_b58_body at hh
  refine lv_iload_n C.1 C.2.1 dX11_begins_58 rfl (lv_at hl 1 rfl) ?_
  refine lv_bipush (v := (36 : Int32)) C.1 C.2.1 dX11_begins_59 (by decide) ?_
  refine lv_icmp_ge (tgt := 84) C.1 C.2.1 dX11_begins_61 (by decide) (fun c61 => ?_) (fun c61 => ?_)
  · replace hh := hh.1 c61
    refine lv_aload_n C.1 C.2.1 dX11_begins_84 rfl (lv_at hl 0 rfl) ?_
    refine lv_iconst (v := (-1 : Int32)) C.1 C.2.1 dX11_begins_85 (by decide) ?_
    refine m_pi C hw (inC inW11) 51 (by decide) (wc w_1513) rfl (ty := .int) (by decide +kernel) rfl rfl (Nat.le_of_ble_eq_true rfl) ms_51 dX11_begins_86 (fun H locs hw => ?_)
    refine lv_aload_n C.1 C.2.1 dX11_begins_89 rfl (lv_at hl 0 rfl) ?_
    refine m_Vv C hw (ctX11_forgets l D o h cI cZ (upd f 51 (-1 : Int32)) g  hh) (cwV 0 C.2.2.2.2 (gd_V w_1458 w_1460 w_55 w_125 w_1461) rfl rfl rfl cdX11_forgets ⟨Nat.le_of_ble_eq_true rfl, Nat.le_of_ble_eq_true rfl⟩) rfl hl.1 (Nat.le_of_ble_eq_true rfl) dX11_begins_90 ⟨Nat.zero_le _, Nat.zero_le _⟩ (fun u90 H locs hh hw => ?_) rfl
    refine lv_iconst (v := (0 : Int32)) C.1 C.2.1 dX11_begins_93 (by decide) ?_
    refine lv_istore_n (lv' := [(3, .int (0 : Int32)), (0, .ref o)]) C.1 C.2.1 dX11_begins_94 rfl hl (by decide) rfl (fun ls hl => ?_)
    obtain ⟨n, hh⟩ := hh
    exact tX11_begins_b95 C hR n _ _ _ _ _ _ hh hw (lv_sub hl [1, 0] rfl)
  · replace hh := hh.2 c61
    refine lv_aload_n C.1 C.2.1 dX11_begins_64 rfl (lv_at hl 0 rfl) ?_
    refine m_ga C hw (inC inW11) 47 (by decide) (wc w_1509) mg_47 dX11_begins_65 ?_
    refine lv_iload_n C.1 C.2.1 dX11_begins_68 rfl (lv_at hl 1 rfl) ?_
    refine lv_iconst (v := (0 : Int32)) C.1 C.2.1 dX11_begins_69 (by decide) ?_
    obtain ⟨hi70, hh⟩ := hh
    refine m_ias C hw mp_47 mq_47 hi70 dX11_begins_70 (fun H locs hw => ?_)
    refine lv_aload_n C.1 C.2.1 dX11_begins_71 rfl (lv_at hl 0 rfl) ?_
    refine m_ga C hw (inC inW11) 48 (by decide) (wc w_1510) mg_48 dX11_begins_72 ?_
    refine lv_iload_n C.1 C.2.1 dX11_begins_75 rfl (lv_at hl 1 rfl) ?_
    refine lv_iconst (v := (0 : Int32)) C.1 C.2.1 dX11_begins_76 (by decide) ?_
    obtain ⟨hi77, hh⟩ := hh
    refine m_ias C hw mp_48 mq_48 hi77 dX11_begins_77 (fun H locs hw => ?_)
    refine lv_iinc (v := x3 + (1 : Int32)) (lv' := [(3, .int (x3 + (1 : Int32))), (0, .ref o)]) C.1 C.2.1 dX11_begins_78 hl (k := 1) rfl rfl (by decide) rfl (fun ls hl => ?_)
    refine lv_goto (tgt := 58) C.1 C.2.1 dX11_begins_81 (by decide) ?_
    exact hB58 _ _ _ _ _ _ hh hw (lv_sub hl [1, 0] rfl)
theorem tX11_begins_b58 {K : ((Nat → Int32) × (Nat → Nat → Int32)) → Prop} (C : CallFix p m c cX11_begins 4 s args wsX11_begins RX11) (hR : Rtv p l e rmX11_begins s m args below meth c cX11_begins D A (mT cI cZ) (mWu o h cI cZ) K Q) (n : Nat) : ∀ (f : Nat → Int32) (g : Nat → Nat → Int32) (x3 : Int32) (H : Heap) (locs : List Loc) (ls : Array Slot), wpX11_begins_b58 n f g x3 K → Wd D A s (mT cI cZ) (mW o h cI cZ f g) H locs → lv_has ls 4 [(0, .ref o), (3, .int x3)] → W p l e rmX11_begins s m args below meth c H locs 0 0 Q (F0 m 58 ls []) := by
  induction n with
  | zero => intro f g x3 H locs ls hh; exact hh.elim
  | succ n ih => intro f g x3 H locs ls hh hw hl; exact tX11_begins_b58_body C hR ih hh hw hl
set_option maxHeartbeats 4000000 in
set_option maxRecDepth 100000 in
theorem tX11_begins_b0 {K : ((Nat → Int32) × (Nat → Nat → Int32)) → Prop} (C : CallFix p m c cX11_begins 4 s args wsX11_begins RX11) (hR : Rtv p l e rmX11_begins s m args below meth c cX11_begins D A (mT cI cZ) (mWu o h cI cZ) K Q) {f : Nat → Int32} {g : Nat → Nat → Int32} {x1 : Int32} {x2 : Int32} (hh : wpX11_begins_b0 f g x1 x2 K) {H : Heap} {locs : List Loc} {ls : Array Slot} (hw : Wd D A s (mT cI cZ) (mW o h cI cZ f g) H locs) (hl : lv_has ls 4 [(0, .ref o), (1, .int x1), (2, .int x2)]) : W p l e rmX11_begins s m args below meth c H locs 0 0 Q (F0 m 0 ls []) := by
  unfold wpX11_begins_b0 at hh
  refine lv_aload_n C.1 C.2.1 dX11_begins_0 rfl (lv_at hl 0 rfl) ?_
  refine lv_iload_n C.1 C.2.1 dX11_begins_1 rfl (lv_at hl 1 rfl) ?_
  refine m_pi C hw (inC inW11) 38 (by decide) (wc w_1500) rfl (ty := .int) (by decide +kernel) rfl rfl (Nat.le_of_ble_eq_true rfl) ms_38 dX11_begins_2 (fun H locs hw => ?_)
  refine lv_aload_n C.1 C.2.1 dX11_begins_5 rfl (lv_at hl 0 rfl) ?_
  refine lv_iload_n C.1 C.2.1 dX11_begins_6 rfl (lv_at hl 2 rfl) ?_
  refine m_pi C hw (inC inW11) 39 (by decide) (wc w_1501) rfl (ty := .int) (by decide +kernel) rfl rfl (Nat.le_of_ble_eq_true rfl) ms_39 dX11_begins_7 (fun H locs hw => ?_)
  refine lv_aload_n C.1 C.2.1 dX11_begins_10 rfl (lv_at hl 0 rfl) ?_
  refine lv_iload_n C.1 C.2.1 dX11_begins_11 rfl (lv_at hl 1 rfl) ?_
  refine lv_iload_n C.1 C.2.1 dX11_begins_12 rfl (lv_at hl 2 rfl) ?_
  refine lv_imul C.1 C.2.1 dX11_begins_13 ?_
  refine lv_iconst (v := (1 : Int32)) C.1 C.2.1 dX11_begins_14 (by decide) ?_
  refine lv_isub C.1 C.2.1 dX11_begins_15 ?_
  refine m_pi C hw (inC inW11) 40 (by decide) (wc w_1502) rfl (ty := .int) (by decide +kernel) rfl rfl (Nat.le_of_ble_eq_true rfl) ms_40 dX11_begins_16 (fun H locs hw => ?_)
  refine lv_aload_n C.1 C.2.1 dX11_begins_19 rfl (lv_at hl 0 rfl) ?_
  refine lv_iconst (v := (0 : Int32)) C.1 C.2.1 dX11_begins_20 (by decide) ?_
  refine m_pi C hw (inC inW11) 41 (by decide) (wc w_1503) rfl (ty := .int) (by decide +kernel) rfl rfl (Nat.le_of_ble_eq_true rfl) ms_41 dX11_begins_21 (fun H locs hw => ?_)
  refine lv_aload_n C.1 C.2.1 dX11_begins_24 rfl (lv_at hl 0 rfl) ?_
  refine lv_iconst (v := (0 : Int32)) C.1 C.2.1 dX11_begins_25 (by decide) ?_
  refine m_pi C hw (inC inW11) 42 (by decide) (wc w_1504) rfl (ty := .int) (by decide +kernel) rfl rfl (Nat.le_of_ble_eq_true rfl) ms_42 dX11_begins_26 (fun H locs hw => ?_)
  refine lv_aload_n C.1 C.2.1 dX11_begins_29 rfl (lv_at hl 0 rfl) ?_
  refine lv_iconst (v := (0 : Int32)) C.1 C.2.1 dX11_begins_30 (by decide) ?_
  refine m_pi C hw (inC inW11) 43 (by decide) (wc w_1505) rfl (ty := .int) (by decide +kernel) rfl rfl (Nat.le_of_ble_eq_true rfl) ms_43 dX11_begins_31 (fun H locs hw => ?_)
  refine lv_aload_n C.1 C.2.1 dX11_begins_34 rfl (lv_at hl 0 rfl) ?_
  refine lv_iconst (v := (0 : Int32)) C.1 C.2.1 dX11_begins_35 (by decide) ?_
  refine m_pi C hw (inC inW11) 44 (by decide) (wc w_1506) rfl (ty := .int) (by decide +kernel) rfl rfl (Nat.le_of_ble_eq_true rfl) ms_44 dX11_begins_36 (fun H locs hw => ?_)
  refine lv_aload_n C.1 C.2.1 dX11_begins_39 rfl (lv_at hl 0 rfl) ?_
  refine lv_aload_n C.1 C.2.1 dX11_begins_40 rfl (lv_at hl 0 rfl) ?_
  refine m_gi C hw (inC inW11) 49 (by decide) (wc w_1511) mg_49 (x := f 49) rfl dX11_begins_41 ?_
  refine lv_aload_n C.1 C.2.1 dX11_begins_44 rfl (lv_at hl 0 rfl) ?_
  refine m_gi C hw (inC inW11) 50 (by decide) (wc w_1512) mg_50 (x := f 50) rfl dX11_begins_45 ?_
  refine lv_iand C.1 C.2.1 dX11_begins_48 ?_
  refine m_pi C hw (inC inW11) 45 (by decide) (wc w_1507) rfl (ty := .int) (by decide +kernel) rfl rfl (Nat.le_of_ble_eq_true rfl) ms_45 dX11_begins_49 (fun H locs hw => ?_)
  refine lv_aload_n C.1 C.2.1 dX11_begins_52 rfl (lv_at hl 0 rfl) ?_
  refine m_Vv C hw (ctX11_plainWalls l D o h cI cZ (upd (upd (upd (upd (upd (upd (upd (upd f 38 x1) 39 x2) 40 ((x1 * x2) - (1 : Int32))) 41 (0 : Int32)) 42 (0 : Int32)) 43 (0 : Int32)) 44 (0 : Int32)) 45 ((f 49) &&& (f 50))) g  hh) (cwV 0 C.2.2.2.2 (gd_V w_1450 w_1452 w_53 w_125 w_1453) rfl rfl rfl cdX11_plainWalls ⟨Nat.le_of_ble_eq_true rfl, Nat.le_of_ble_eq_true rfl⟩) rfl hl.1 (Nat.le_of_ble_eq_true rfl) dX11_begins_53 ⟨Nat.zero_le _, Nat.zero_le _⟩ (fun u53 H locs hh hw => ?_) rfl
  refine lv_iconst (v := (0 : Int32)) C.1 C.2.1 dX11_begins_56 (by decide) ?_
  refine lv_istore_n (lv' := [(3, .int (0 : Int32)), (0, .ref o), (1, .int x1), (2, .int x2)]) C.1 C.2.1 dX11_begins_57 rfl hl (by decide) rfl (fun ls hl => ?_)
  obtain ⟨n, hh⟩ := hh
  exact tX11_begins_b58 C hR n _ _ _ _ _ _ hh hw (lv_sub hl [1, 0] rfl)
theorem ctX11_begins (l : Launch) (D : va_G) (o : Nat) (h : Nat → Nat) (cI cZ : ClassId) (f : Nat → Int32) (g : Nat → Nat → Int32) (x1 : Int32) (x2 : Int32) {K : ((Nat → Int32) × (Nat → Nat → Int32)) → Prop} (hh : wpX11_begins f g x1 x2 K) : Cv l yX11_begins wsX11_begins rmX11_begins [.ref o, .int x1, .int x2] D (mT cI cZ) (mWu o h cI cZ) (f, g) K := by
  refine Cv_of (cc := cX11_begins) (maxL := 4) (by decide) rfl (Nat.le_of_ble_eq_true rfl) ?_
  intro p e s m below meth c A Q C hw hR ls hl
  exact tX11_begins_b0 C hR hh hw hl
theorem cdX11_begins : yX11_begins.cls = RX11 ∧ yX11_begins.cls ≠ "java/lang/invoke/MethodHandle" ∧ yX11_begins.cls ≠ "java/lang/invoke/VarHandle" ∧ (parseMethodDescriptor yX11_begins.desc).map (fun d => d.parameters.length) = some 2 := by decide +kernel
abbrev rmX11_ahead : Room := { frames := 0, cells := 0, slots := 0, locals := 0 }
set_option maxHeartbeats 4000000 in
set_option maxRecDepth 100000 in
theorem tX11_ahead_b41 {K : Int32 → ((Nat → Int32) × (Nat → Nat → Int32)) → Prop} (C : CallFix p m c cX11_ahead 3 s args wsX11_ahead RX11) (hR : Rti .int p l e rmX11_ahead s m args below meth c cX11_ahead D A (mT cI cZ) (mWu o h cI cZ) K Q) {f : Nat → Int32} {g : Nat → Nat → Int32} {k0 : Int32} (hh : wpX11_ahead_b41 f g k0 K) {H : Heap} {locs : List Loc} {ls : Array Slot} (hw : Wd D A s (mT cI cZ) (mW o h cI cZ f g) H locs) (hl : lv_has ls 3 [(0, .ref o)]) : W p l e rmX11_ahead s m args below meth c H locs 0 0 Q (F0 m 41 ls [.int k0]) := by
  unfold wpX11_ahead_b41 at hh
  exact hR _ _ _ (f, g) _ _ dX11_ahead_41 rfl hh hw
set_option maxHeartbeats 4000000 in
set_option maxRecDepth 100000 in
theorem tX11_ahead_b0 {K : Int32 → ((Nat → Int32) × (Nat → Nat → Int32)) → Prop} (C : CallFix p m c cX11_ahead 3 s args wsX11_ahead RX11) (hR : Rti .int p l e rmX11_ahead s m args below meth c cX11_ahead D A (mT cI cZ) (mWu o h cI cZ) K Q) {f : Nat → Int32} {g : Nat → Nat → Int32} {x1 : Int32} {x2 : Int32} (hh : wpX11_ahead_b0 f g x1 x2 K) {H : Heap} {locs : List Loc} {ls : Array Slot} (hw : Wd D A s (mT cI cZ) (mW o h cI cZ f g) H locs) (hl : lv_has ls 3 [(0, .ref o), (1, .int x1), (2, .int x2)]) : W p l e rmX11_ahead s m args below meth c H locs 0 0 Q (F0 m 0 ls []) := by
  unfold wpX11_ahead_b0 at hh
  refine lv_iload_n C.1 C.2.1 dX11_ahead_0 rfl (lv_at hl 2 rfl) ?_
  refine lv_if_ne (tgt := 13) C.1 C.2.1 dX11_ahead_1 (by decide) (fun c1 => ?_) (fun c1 => ?_)
  · replace hh := hh.1 c1
    refine lv_iload_n C.1 C.2.1 dX11_ahead_13 rfl (lv_at hl 2 rfl) ?_
    refine lv_iconst (v := (1 : Int32)) C.1 C.2.1 dX11_ahead_14 (by decide) ?_
    refine lv_icmp_ne (tgt := 24) C.1 C.2.1 dX11_ahead_15 (by decide) (fun c15 => ?_) (fun c15 => ?_)
    · replace hh := hh.1 c15
      refine lv_iload_n C.1 C.2.1 dX11_ahead_24 rfl (lv_at hl 2 rfl) ?_
      refine lv_iconst (v := (2 : Int32)) C.1 C.2.1 dX11_ahead_25 (by decide) ?_
      refine lv_icmp_ne (tgt := 38) C.1 C.2.1 dX11_ahead_26 (by decide) (fun c26 => ?_) (fun c26 => ?_)
      · replace hh := hh.1 c26
        refine lv_iload_n C.1 C.2.1 dX11_ahead_38 rfl (lv_at hl 1 rfl) ?_
        refine lv_iconst (v := (1 : Int32)) C.1 C.2.1 dX11_ahead_39 (by decide) ?_
        refine lv_isub C.1 C.2.1 dX11_ahead_40 ?_
        exact tX11_ahead_b41 C hR hh hw (lv_sub hl [0] rfl)
      · replace hh := hh.2 c26
        refine lv_iload_n C.1 C.2.1 dX11_ahead_29 rfl (lv_at hl 1 rfl) ?_
        refine lv_aload_n C.1 C.2.1 dX11_ahead_30 rfl (lv_at hl 0 rfl) ?_
        refine m_gi C hw (inC inW11) 38 (by decide) (wc w_1500) mg_38 (x := f 38) rfl dX11_ahead_31 ?_
        refine lv_iadd C.1 C.2.1 dX11_ahead_34 ?_
        refine lv_goto (tgt := 41) C.1 C.2.1 dX11_ahead_35 (by decide) ?_
        exact tX11_ahead_b41 C hR hh hw (lv_sub hl [0] rfl)
    · replace hh := hh.2 c15
      refine lv_iload_n C.1 C.2.1 dX11_ahead_18 rfl (lv_at hl 1 rfl) ?_
      refine lv_iconst (v := (1 : Int32)) C.1 C.2.1 dX11_ahead_19 (by decide) ?_
      refine lv_iadd C.1 C.2.1 dX11_ahead_20 ?_
      refine lv_goto (tgt := 41) C.1 C.2.1 dX11_ahead_21 (by decide) ?_
      exact tX11_ahead_b41 C hR hh hw (lv_sub hl [0] rfl)
  · replace hh := hh.2 c1
    refine lv_iload_n C.1 C.2.1 dX11_ahead_4 rfl (lv_at hl 1 rfl) ?_
    refine lv_aload_n C.1 C.2.1 dX11_ahead_5 rfl (lv_at hl 0 rfl) ?_
    refine m_gi C hw (inC inW11) 38 (by decide) (wc w_1500) mg_38 (x := f 38) rfl dX11_ahead_6 ?_
    refine lv_isub C.1 C.2.1 dX11_ahead_9 ?_
    refine lv_goto (tgt := 41) C.1 C.2.1 dX11_ahead_10 (by decide) ?_
    exact tX11_ahead_b41 C hR hh hw (lv_sub hl [0] rfl)
theorem ctX11_ahead (l : Launch) (D : va_G) (o : Nat) (h : Nat → Nat) (cI cZ : ClassId) (f : Nat → Int32) (g : Nat → Nat → Int32) (x1 : Int32) (x2 : Int32) {K : Int32 → ((Nat → Int32) × (Nat → Nat → Int32)) → Prop} (hh : wpX11_ahead f g x1 x2 K) : Ci l yX11_ahead wsX11_ahead rmX11_ahead [.ref o, .int x1, .int x2] D (mT cI cZ) (mWu o h cI cZ) (f, g) K := by
  refine Ci_of (cc := cX11_ahead) (maxL := 3) (by decide) rfl (Nat.le_of_ble_eq_true rfl) ?_
  intro p e s m below meth c A Q C hw hR ls hl
  exact tX11_ahead_b0 C hR hh hw hl
theorem cdX11_ahead : yX11_ahead.cls = RX11 ∧ yX11_ahead.cls ≠ "java/lang/invoke/MethodHandle" ∧ yX11_ahead.cls ≠ "java/lang/invoke/VarHandle" ∧ (parseMethodDescriptor yX11_ahead.desc).map (fun d => d.parameters.length) = some 2 := by decide +kernel
abbrev rmX11_isWall : Room := { frames := 1, cells := 0, slots := 0, locals := 21 }
set_option maxHeartbeats 4000000 in
set_option maxRecDepth 100000 in
theorem tX11_isWall_b0 {K : Int32 → ((Nat → Int32) × (Nat → Nat → Int32)) → Prop} (C : CallFix p m c cX11_isWall 3 s args wsX11_isWall RX11) (hR : Rti .boolean p l e rmX11_isWall s m args below meth c cX11_isWall D A (mT cI cZ) (mWu o h cI cZ) K Q) {f : Nat → Int32} {g : Nat → Nat → Int32} {x1 : Int32} {x2 : Int32} (hh : wpX11_isWall_b0 f g x1 x2 K) {H : Heap} {locs : List Loc} {ls : Array Slot} (hw : Wd D A s (mT cI cZ) (mW o h cI cZ f g) H locs) (hl : lv_has ls 3 [(0, .ref o), (1, .int x1), (2, .int x2)]) : W p l e rmX11_isWall s m args below meth c H locs 0 0 Q (F0 m 0 ls []) := by
  unfold wpX11_isWall_b0 at hh
  refine lv_aload_n C.1 C.2.1 dX11_isWall_0 rfl (lv_at hl 0 rfl) ?_
  refine m_ga C hw (inC inW11) 46 (by decide) (wc w_1508) mg_46 dX11_isWall_1 ?_
  refine lv_iload_n C.1 C.2.1 dX11_isWall_4 rfl (lv_at hl 1 rfl) ?_
  obtain ⟨hi5, hh⟩ := hh
  refine m_ial C hw mp_46 (x := g 46 (ix x1)) hi5 rfl dX11_isWall_5 ?_
  refine lv_iload_n C.1 C.2.1 dX11_isWall_6 rfl (lv_at hl 2 rfl) ?_
  refine wd_Si C hw (ctX11_isOf l D (g 46 (ix x1)) x2 hh) (va_cwS 2 C.2.2.2.2 (gd_S w_1823 w_1824 (ini_cls rfl w_125) w_1825) rfl rfl rfl cdX11_isOf ⟨Nat.le_of_ble_eq_true rfl, Nat.le_of_ble_eq_true rfl⟩) rfl hl.1 (Nat.le_of_ble_eq_true rfl) dX11_isWall_7 ⟨Nat.zero_le _, Nat.zero_le _⟩ (fun r7 H locs hh hw => ?_) rfl
  obtain ⟨hb10, hh⟩ := hh
  exact hR _ _ _ (f, g) _ _ dX11_isWall_10 (isB_nar hb10) hh hw
theorem ctX11_isWall (l : Launch) (D : va_G) (o : Nat) (h : Nat → Nat) (cI cZ : ClassId) (f : Nat → Int32) (g : Nat → Nat → Int32) (x1 : Int32) (x2 : Int32) {K : Int32 → ((Nat → Int32) × (Nat → Nat → Int32)) → Prop} (hh : wpX11_isWall f g x1 x2 K) : Ci l yX11_isWall wsX11_isWall rmX11_isWall [.ref o, .int x1, .int x2] D (mT cI cZ) (mWu o h cI cZ) (f, g) K := by
  refine Ci_of (cc := cX11_isWall) (maxL := 3) (by decide) rfl (Nat.le_of_ble_eq_true rfl) ?_
  intro p e s m below meth c A Q C hw hR ls hl
  exact tX11_isWall_b0 C hR hh hw hl
theorem cdX11_isWall : yX11_isWall.cls = RX11 ∧ yX11_isWall.cls ≠ "java/lang/invoke/MethodHandle" ∧ yX11_isWall.cls ≠ "java/lang/invoke/VarHandle" ∧ (parseMethodDescriptor yX11_isWall.desc).map (fun d => d.parameters.length) = some 2 := by decide +kernel
abbrev rmX11_putWall : Room := { frames := 1, cells := 0, slots := 0, locals := 22 }
set_option maxHeartbeats 4000000 in
set_option maxRecDepth 100000 in
theorem tX11_putWall_b89 {K : ((Nat → Int32) × (Nat → Nat → Int32)) → Prop} (C : CallFix p m c cX11_putWall 6 s args wsX11_putWall RX11) (hR : Rtv p l e rmX11_putWall s m args below meth c cX11_putWall D A (mT cI cZ) (mWu o h cI cZ) K Q) {f : Nat → Int32} {g : Nat → Nat → Int32} {k1 : Int32} {k2 : Int32} (hh : wpX11_putWall_b89 f g k1 k2 K) {H : Heap} {locs : List Loc} {ls : Array Slot} (hw : Wd D A s (mT cI cZ) (mW o h cI cZ f g) H locs) (hl : lv_has ls 6 [(0, .ref o)]) : W p l e rmX11_putWall s m args below meth c H locs 0 0 Q (F0 m 89 ls [.int k2, .int k1, .ref (h 46)]) := by
  unfold wpX11_putWall_b89 at hh
  obtain ⟨hi89, hh⟩ := hh
  refine m_ias C hw mp_46 mq_46 hi89 dX11_putWall_89 (fun H locs hw => ?_)
  exact hR _ _ (f, pt g 46 (ix k1) k2) _ _ dX11_putWall_90 hh hw
set_option maxHeartbeats 4000000 in
set_option maxRecDepth 100000 in
theorem tX11_putWall_b49 {K : ((Nat → Int32) × (Nat → Nat → Int32)) → Prop} (C : CallFix p m c cX11_putWall 6 s args wsX11_putWall RX11) (hR : Rtv p l e rmX11_putWall s m args below meth c cX11_putWall D A (mT cI cZ) (mWu o h cI cZ) K Q) {f : Nat → Int32} {g : Nat → Nat → Int32} {k1 : Int32} {k2 : Int32} {x3 : Int32} {x4 : Int32} {x5 : Int32} (hh : wpX11_putWall_b49 f g k1 k2 x3 x4 x5 K) {H : Heap} {locs : List Loc} {ls : Array Slot} (hw : Wd D A s (mT cI cZ) (mW o h cI cZ f g) H locs) (hl : lv_has ls 6 [(0, .ref o), (3, .int x3), (4, .int x4), (5, .int x5)]) : W p l e rmX11_putWall s m args below meth c H locs 0 0 Q (F0 m 49 ls [.int k2, .int k1, .ref (h 46)]) := by
  unfold wpX11_putWall_b49 at hh
  obtain ⟨hi49, hh⟩ := hh
  refine m_ias C hw mp_46 mq_46 hi49 dX11_putWall_49 (fun H locs hw => ?_)
  refine lv_aload_n C.1 C.2.1 dX11_putWall_50 rfl (lv_at hl 0 rfl) ?_
  refine m_ga C hw (inC inW11) 46 (by decide) (wc w_1508) mg_46 dX11_putWall_51 ?_
  refine lv_iload C.1 C.2.1 dX11_putWall_54 (lv_at hl 2 rfl) ?_
  refine lv_iload_n C.1 C.2.1 dX11_putWall_56 rfl (lv_at hl 1 rfl) ?_
  refine lv_if_eq (tgt := 75) C.1 C.2.1 dX11_putWall_57 (by decide) (fun c57 => ?_) (fun c57 => ?_)
  · replace hh := hh.1 c57
    refine lv_aload_n C.1 C.2.1 dX11_putWall_75 rfl (lv_at hl 0 rfl) ?_
    refine m_ga C hw (inC inW11) 46 (by decide) (wc w_1508) mg_46 dX11_putWall_76 ?_
    refine lv_iload C.1 C.2.1 dX11_putWall_79 (lv_at hl 2 rfl) ?_
    obtain ⟨hi81, hh⟩ := hh
    refine m_ial C hw mp_46 (x := (pt g 46 (ix k1) k2) 46 (ix x4)) hi81 rfl dX11_putWall_81 ?_
    refine lv_iconst (v := (1 : Int32)) C.1 C.2.1 dX11_putWall_82 (by decide) ?_
    refine lv_iload C.1 C.2.1 dX11_putWall_83 (lv_at hl 3 rfl) ?_
    refine g_ishl C dX11_putWall_85 ?_
    refine lv_iconst (v := (-1 : Int32)) C.1 C.2.1 dX11_putWall_86 (by decide) ?_
    refine lv_ixor C.1 C.2.1 dX11_putWall_87 ?_
    refine lv_iand C.1 C.2.1 dX11_putWall_88 ?_
    exact tX11_putWall_b89 C hR hh hw (lv_sub hl [0] rfl)
  · replace hh := hh.2 c57
    refine lv_aload_n C.1 C.2.1 dX11_putWall_60 rfl (lv_at hl 0 rfl) ?_
    refine m_ga C hw (inC inW11) 46 (by decide) (wc w_1508) mg_46 dX11_putWall_61 ?_
    refine lv_iload C.1 C.2.1 dX11_putWall_64 (lv_at hl 2 rfl) ?_
    obtain ⟨hi66, hh⟩ := hh
    refine m_ial C hw mp_46 (x := (pt g 46 (ix k1) k2) 46 (ix x4)) hi66 rfl dX11_putWall_66 ?_
    refine lv_iconst (v := (1 : Int32)) C.1 C.2.1 dX11_putWall_67 (by decide) ?_
    refine lv_iload C.1 C.2.1 dX11_putWall_68 (lv_at hl 3 rfl) ?_
    refine g_ishl C dX11_putWall_70 ?_
    refine lv_ior C.1 C.2.1 dX11_putWall_71 ?_
    refine lv_goto (tgt := 89) C.1 C.2.1 dX11_putWall_72 (by decide) ?_
    exact tX11_putWall_b89 C hR hh hw (lv_sub hl [0] rfl)
set_option maxHeartbeats 4000000 in
set_option maxRecDepth 100000 in
theorem tX11_putWall_b0 {K : ((Nat → Int32) × (Nat → Nat → Int32)) → Prop} (C : CallFix p m c cX11_putWall 6 s args wsX11_putWall RX11) (hR : Rtv p l e rmX11_putWall s m args below meth c cX11_putWall D A (mT cI cZ) (mWu o h cI cZ) K Q) {f : Nat → Int32} {g : Nat → Nat → Int32} {x1 : Int32} {x2 : Int32} {x3 : Int32} (hh : wpX11_putWall_b0 f g x1 x2 x3 K) {H : Heap} {locs : List Loc} {ls : Array Slot} (hw : Wd D A s (mT cI cZ) (mW o h cI cZ f g) H locs) (hl : lv_has ls 6 [(0, .ref o), (1, .int x1), (2, .int x2), (3, .int x3)]) : W p l e rmX11_putWall s m args below meth c H locs 0 0 Q (F0 m 0 ls []) := by
  unfold wpX11_putWall_b0 at hh
  refine lv_aload_n C.1 C.2.1 dX11_putWall_0 rfl (lv_at hl 0 rfl) ?_
  refine lv_iload_n C.1 C.2.1 dX11_putWall_1 rfl (lv_at hl 1 rfl) ?_
  refine lv_iload_n C.1 C.2.1 dX11_putWall_2 rfl (lv_at hl 2 rfl) ?_
  refine m_Vi C hw (ctX11_ahead l D o h cI cZ f g x1 x2 hh) (cwV 2 C.2.2.2.2 (gd_V w_1830 w_1832 w_83 w_125 w_1833) rfl rfl rfl cdX11_ahead ⟨Nat.le_of_ble_eq_true rfl, Nat.le_of_ble_eq_true rfl⟩) rfl hl.1 (Nat.le_of_ble_eq_true rfl) dX11_putWall_3 ⟨Nat.zero_le _, Nat.zero_le _⟩ (fun r3 u3 H locs hh hw => ?_) rfl
  refine lv_istore (lv' := [(4, .int r3), (0, .ref o), (1, .int x1), (2, .int x2), (3, .int x3)]) C.1 C.2.1 dX11_putWall_6 hl (by decide) rfl (fun ls hl => ?_)
  refine lv_iload_n C.1 C.2.1 dX11_putWall_8 rfl (lv_at hl 3 rfl) ?_
  refine lv_iconst (v := (2 : Int32)) C.1 C.2.1 dX11_putWall_9 (by decide) ?_
  refine lv_iadd C.1 C.2.1 dX11_putWall_10 ?_
  refine lv_iconst (v := (4 : Int32)) C.1 C.2.1 dX11_putWall_11 (by decide) ?_
  refine g_irem C dX11_putWall_12 (by decide) ?_
  refine lv_istore (lv' := [(5, .int (jrem (x2 + (2 : Int32)) (4 : Int32))), (4, .int r3), (0, .ref o), (1, .int x1), (2, .int x2), (3, .int x3)]) C.1 C.2.1 dX11_putWall_13 hl (by decide) rfl (fun ls hl => ?_)
  refine lv_aload_n C.1 C.2.1 dX11_putWall_15 rfl (lv_at hl 2 rfl) ?_
  refine m_ga C hw (inC inW11) 46 (by decide) (wc w_1508) mg_46 dX11_putWall_16 ?_
  refine lv_iload_n C.1 C.2.1 dX11_putWall_19 rfl (lv_at hl 3 rfl) ?_
  refine lv_iload_n C.1 C.2.1 dX11_putWall_20 rfl (lv_at hl 5 rfl) ?_
  refine lv_if_eq (tgt := 37) C.1 C.2.1 dX11_putWall_21 (by decide) (fun c21 => ?_) (fun c21 => ?_)
  · replace hh := hh.1 c21
    refine lv_aload_n C.1 C.2.1 dX11_putWall_37 rfl (lv_at hl 2 rfl) ?_
    refine m_ga C hw (inC inW11) 46 (by decide) (wc w_1508) mg_46 dX11_putWall_38 ?_
    refine lv_iload_n C.1 C.2.1 dX11_putWall_41 rfl (lv_at hl 3 rfl) ?_
    obtain ⟨hi42, hh⟩ := hh
    refine m_ial C hw mp_46 (x := u3.2 46 (ix x1)) hi42 rfl dX11_putWall_42 ?_
    refine lv_iconst (v := (1 : Int32)) C.1 C.2.1 dX11_putWall_43 (by decide) ?_
    refine lv_iload_n C.1 C.2.1 dX11_putWall_44 rfl (lv_at hl 4 rfl) ?_
    refine g_ishl C dX11_putWall_45 ?_
    refine lv_iconst (v := (-1 : Int32)) C.1 C.2.1 dX11_putWall_46 (by decide) ?_
    refine lv_ixor C.1 C.2.1 dX11_putWall_47 ?_
    refine lv_iand C.1 C.2.1 dX11_putWall_48 ?_
    exact tX11_putWall_b49 C hR hh hw (lv_sub hl [2, 5, 1, 0] rfl)
  · replace hh := hh.2 c21
    refine lv_aload_n C.1 C.2.1 dX11_putWall_24 rfl (lv_at hl 2 rfl) ?_
    refine m_ga C hw (inC inW11) 46 (by decide) (wc w_1508) mg_46 dX11_putWall_25 ?_
    refine lv_iload_n C.1 C.2.1 dX11_putWall_28 rfl (lv_at hl 3 rfl) ?_
    obtain ⟨hi29, hh⟩ := hh
    refine m_ial C hw mp_46 (x := u3.2 46 (ix x1)) hi29 rfl dX11_putWall_29 ?_
    refine lv_iconst (v := (1 : Int32)) C.1 C.2.1 dX11_putWall_30 (by decide) ?_
    refine lv_iload_n C.1 C.2.1 dX11_putWall_31 rfl (lv_at hl 4 rfl) ?_
    refine g_ishl C dX11_putWall_32 ?_
    refine lv_ior C.1 C.2.1 dX11_putWall_33 ?_
    refine lv_goto (tgt := 49) C.1 C.2.1 dX11_putWall_34 (by decide) ?_
    exact tX11_putWall_b49 C hR hh hw (lv_sub hl [2, 5, 1, 0] rfl)
theorem ctX11_putWall (l : Launch) (D : va_G) (o : Nat) (h : Nat → Nat) (cI cZ : ClassId) (f : Nat → Int32) (g : Nat → Nat → Int32) (x1 : Int32) (x2 : Int32) (x3 : Int32) {K : ((Nat → Int32) × (Nat → Nat → Int32)) → Prop} (hh : wpX11_putWall f g x1 x2 x3 K) : Cv l yX11_putWall wsX11_putWall rmX11_putWall [.ref o, .int x1, .int x2, .int x3] D (mT cI cZ) (mWu o h cI cZ) (f, g) K := by
  refine Cv_of (cc := cX11_putWall) (maxL := 6) (by decide) rfl (Nat.le_of_ble_eq_true rfl) ?_
  intro p e s m below meth c A Q C hw hR ls hl
  exact tX11_putWall_b0 C hR hh hw hl
theorem cdX11_putWall : yX11_putWall.cls = RX11 ∧ yX11_putWall.cls ≠ "java/lang/invoke/MethodHandle" ∧ yX11_putWall.cls ≠ "java/lang/invoke/VarHandle" ∧ (parseMethodDescriptor yX11_putWall.desc).map (fun d => d.parameters.length) = some 3 := by decide +kernel
abbrev rmX11_floor : Room := { frames := 3, cells := 0, slots := 0, locals := 64 }
set_option maxHeartbeats 4000000 in
set_option maxRecDepth 100000 in
theorem tX11_floor_b25 {K : Int32 → ((Nat → Int32) × (Nat → Nat → Int32)) → Prop} (C : CallFix p m c cX11_floor 3 s args wsX11_floor RX11) (hR : Rti .boolean p l e rmX11_floor s m args below meth c cX11_floor D A (mT cI cZ) (mWu o h cI cZ) K Q) {f : Nat → Int32} {g : Nat → Nat → Int32} (hh : wpX11_floor_b25 f g K) {H : Heap} {locs : List Loc} {ls : Array Slot} (hw : Wd D A s (mT cI cZ) (mW o h cI cZ f g) H locs) (hl : lv_has ls 3 [(0, .ref o)]) : W p l e rmX11_floor s m args below meth c H locs 0 0 Q (F0 m 25 ls []) := by
  unfold wpX11_floor_b25 at hh
  refine lv_iconst (v := (0 : Int32)) C.1 C.2.1 dX11_floor_25 (by decide) ?_
  exact hR _ _ _ (f, g) _ _ dX11_floor_26 rfl hh hw
set_option maxHeartbeats 4000000 in
set_option maxRecDepth 100000 in
theorem tX11_floor_b0 {K : Int32 → ((Nat → Int32) × (Nat → Nat → Int32)) → Prop} (C : CallFix p m c cX11_floor 3 s args wsX11_floor RX11) (hR : Rti .boolean p l e rmX11_floor s m args below meth c cX11_floor D A (mT cI cZ) (mWu o h cI cZ) K Q) {f : Nat → Int32} {g : Nat → Nat → Int32} {x1 : Int32} {x2 : Int32} (hh : wpX11_floor_b0 f g x1 x2 K) {H : Heap} {locs : List Loc} {ls : Array Slot} (hw : Wd D A s (mT cI cZ) (mW o h cI cZ f g) H locs) (hl : lv_has ls 3 [(0, .ref o), (1, .int x1), (2, .int x2)]) : W p l e rmX11_floor s m args below meth c H locs 0 0 Q (F0 m 0 ls []) := by
  unfold wpX11_floor_b0 at hh
  refine lv_aload_n C.1 C.2.1 dX11_floor_0 rfl (lv_at hl 0 rfl) ?_
  refine lv_iconst (v := (0 : Int32)) C.1 C.2.1 dX11_floor_1 (by decide) ?_
  refine m_pi C hw (inC inW11) 2 (by decide) (wc w_1464) rfl (ty := .int) (by decide +kernel) rfl rfl (Nat.le_of_ble_eq_true rfl) ms_2 dX11_floor_2 (fun H locs hw => ?_)
  refine lv_iload_n C.1 C.2.1 dX11_floor_5 rfl (lv_at hl 1 rfl) ?_
  refine lv_iconst (v := (2 : Int32)) C.1 C.2.1 dX11_floor_6 (by decide) ?_
  refine lv_bipush (v := (6 : Int32)) C.1 C.2.1 dX11_floor_7 (by decide) ?_
  refine wd_Si C hw (ctX11_isIn l D x1 (2 : Int32) (6 : Int32) hh) (va_cwS 3 C.2.2.2.2 (gd_S w_1804 w_1805 (ini_cls rfl w_125) w_1806) rfl rfl rfl cdX11_isIn ⟨Nat.le_of_ble_eq_true rfl, Nat.le_of_ble_eq_true rfl⟩) rfl hl.1 (Nat.le_of_ble_eq_true rfl) dX11_floor_9 ⟨Nat.zero_le _, Nat.zero_le _⟩ (fun r9 H locs hh hw => ?_) rfl
  refine lv_if_eq (tgt := 25) C.1 C.2.1 dX11_floor_12 (by decide) (fun c12 => ?_) (fun c12 => ?_)
  · replace hh := hh.1 c12
    exact tX11_floor_b25 C hR hh hw (lv_sub hl [0] rfl)
  · replace hh := hh.2 c12
    refine lv_iload_n C.1 C.2.1 dX11_floor_15 rfl (lv_at hl 2 rfl) ?_
    refine lv_iconst (v := (2 : Int32)) C.1 C.2.1 dX11_floor_16 (by decide) ?_
    refine lv_bipush (v := (6 : Int32)) C.1 C.2.1 dX11_floor_17 (by decide) ?_
    refine wd_Si C hw (ctX11_isIn l D x2 (2 : Int32) (6 : Int32) hh) (va_cwS 3 C.2.2.2.2 (gd_S w_1804 w_1805 (ini_cls rfl w_125) w_1806) rfl rfl rfl cdX11_isIn ⟨Nat.le_of_ble_eq_true rfl, Nat.le_of_ble_eq_true rfl⟩) rfl hl.1 (Nat.le_of_ble_eq_true rfl) dX11_floor_19 ⟨Nat.zero_le _, Nat.zero_le _⟩ (fun r19 H locs hh hw => ?_) rfl
    refine lv_if_ne (tgt := 27) C.1 C.2.1 dX11_floor_22 (by decide) (fun c22 => ?_) (fun c22 => ?_)
    · replace hh := hh.1 c22
      refine lv_aload_n C.1 C.2.1 dX11_floor_27 rfl (lv_at hl 0 rfl) ?_
      refine lv_iload_n C.1 C.2.1 dX11_floor_28 rfl (lv_at hl 1 rfl) ?_
      refine lv_iload_n C.1 C.2.1 dX11_floor_29 rfl (lv_at hl 2 rfl) ?_
      refine m_Vv C hw (ctX11_begins l D o h cI cZ (upd f 2 (0 : Int32)) g x1 x2 hh) (cwV 2 C.2.2.2.2 (gd_V w_1446 w_1448 w_52 w_125 w_1449) rfl rfl rfl cdX11_begins ⟨Nat.le_of_ble_eq_true rfl, Nat.le_of_ble_eq_true rfl⟩) rfl hl.1 (Nat.le_of_ble_eq_true rfl) dX11_floor_30 ⟨Nat.zero_le _, Nat.zero_le _⟩ (fun u30 H locs hh hw => ?_) rfl
      refine lv_iconst (v := (1 : Int32)) C.1 C.2.1 dX11_floor_33 (by decide) ?_
      exact hR _ _ _ (u30.1, u30.2) _ _ dX11_floor_34 rfl hh hw
    · replace hh := hh.2 c22
      exact tX11_floor_b25 C hR hh hw (lv_sub hl [0] rfl)
theorem ctX11_floor (l : Launch) (D : va_G) (o : Nat) (h : Nat → Nat) (cI cZ : ClassId) (f : Nat → Int32) (g : Nat → Nat → Int32) (x1 : Int32) (x2 : Int32) {K : Int32 → ((Nat → Int32) × (Nat → Nat → Int32)) → Prop} (hh : wpX11_floor f g x1 x2 K) : Ci l yX11_floor wsX11_floor rmX11_floor [.ref o, .int x1, .int x2] D (mT cI cZ) (mWu o h cI cZ) (f, g) K := by
  refine Ci_of (cc := cX11_floor) (maxL := 3) (by decide) rfl (Nat.le_of_ble_eq_true rfl) ?_
  intro p e s m below meth c A Q C hw hR ls hl
  exact tX11_floor_b0 C hR hh hw hl
theorem cdX11_floor : yX11_floor.cls = RX11 ∧ yX11_floor.cls ≠ "java/lang/invoke/MethodHandle" ∧ yX11_floor.cls ≠ "java/lang/invoke/VarHandle" ∧ (parseMethodDescriptor yX11_floor.desc).map (fun d => d.parameters.length) = some 2 := by decide +kernel
abbrev rmX11_isAround : Room := { frames := 1, cells := 0, slots := 0, locals := 20 }
set_option maxHeartbeats 4000000 in
set_option maxRecDepth 100000 in
theorem tX11_isAround_b88 {K : Int32 → ((Nat → Int32) × (Nat → Nat → Int32)) → Prop} (C : CallFix p m c cX11_isAround 3 s args wsX11_isAround RX11) (hR : Rti .boolean p l e rmX11_isAround s m args below meth c cX11_isAround D A (mT cI cZ) (mWu o h cI cZ) K Q) {f : Nat → Int32} {g : Nat → Nat → Int32} {k0 : Int32} (hh : wpX11_isAround_b88 f g k0 K) {H : Heap} {locs : List Loc} {ls : Array Slot} (hw : Wd D A s (mT cI cZ) (mW o h cI cZ f g) H locs) (hl : lv_has ls 3 [(0, .ref o)]) : W p l e rmX11_isAround s m args below meth c H locs 0 0 Q (F0 m 88 ls [.int k0]) := by
  unfold wpX11_isAround_b88 at hh
  obtain ⟨hb88, hh⟩ := hh
  exact hR _ _ _ (f, g) _ _ dX11_isAround_88 (isB_nar hb88) hh hw
set_option maxHeartbeats 4000000 in
set_option maxRecDepth 100000 in
theorem tX11_isAround_b0 {K : Int32 → ((Nat → Int32) × (Nat → Nat → Int32)) → Prop} (C : CallFix p m c cX11_isAround 3 s args wsX11_isAround RX11) (hR : Rti .boolean p l e rmX11_isAround s m args below meth c cX11_isAround D A (mT cI cZ) (mWu o h cI cZ) K Q) {f : Nat → Int32} {g : Nat → Nat → Int32} {x1 : Int32} {x2 : Int32} (hh : wpX11_isAround_b0 f g x1 x2 K) {H : Heap} {locs : List Loc} {ls : Array Slot} (hw : Wd D A s (mT cI cZ) (mW o h cI cZ f g) H locs) (hl : lv_has ls 3 [(0, .ref o), (1, .int x1), (2, .int x2)]) : W p l e rmX11_isAround s m args below meth c H locs 0 0 Q (F0 m 0 ls []) := by
  unfold wpX11_isAround_b0 at hh
  refine lv_iload_n C.1 C.2.1 dX11_isAround_0 rfl (lv_at hl 2 rfl) ?_
  refine lv_if_ne (tgt := 20) C.1 C.2.1 dX11_isAround_1 (by decide) (fun c1 => ?_) (fun c1 => ?_)
  · replace hh := hh.1 c1
    refine lv_iload_n C.1 C.2.1 dX11_isAround_20 rfl (lv_at hl 2 rfl) ?_
    refine lv_iconst (v := (1 : Int32)) C.1 C.2.1 dX11_isAround_21 (by decide) ?_
    refine lv_icmp_ne (tgt := 48) C.1 C.2.1 dX11_isAround_22 (by decide) (fun c22 => ?_) (fun c22 => ?_)
    · replace hh := hh.1 c22
      refine lv_iload_n C.1 C.2.1 dX11_isAround_48 rfl (lv_at hl 2 rfl) ?_
      refine lv_iconst (v := (2 : Int32)) C.1 C.2.1 dX11_isAround_49 (by decide) ?_
      refine lv_icmp_ne (tgt := 74) C.1 C.2.1 dX11_isAround_50 (by decide) (fun c50 => ?_) (fun c50 => ?_)
      · replace hh := hh.1 c50
        refine lv_iload_n C.1 C.2.1 dX11_isAround_74 rfl (lv_at hl 1 rfl) ?_
        refine lv_aload_n C.1 C.2.1 dX11_isAround_75 rfl (lv_at hl 0 rfl) ?_
        refine m_gi C hw (inC inW11) 38 (by decide) (wc w_1500) mg_38 (x := f 38) rfl dX11_isAround_76 ?_
        obtain ⟨hz79, hh⟩ := hh
        refine g_irem C dX11_isAround_79 hz79 ?_
        refine lv_if_ne (tgt := 87) C.1 C.2.1 dX11_isAround_80 (by decide) (fun c80 => ?_) (fun c80 => ?_)
        · replace hh := hh.1 c80
          refine lv_iconst (v := (0 : Int32)) C.1 C.2.1 dX11_isAround_87 (by decide) ?_
          exact tX11_isAround_b88 C hR hh hw (lv_sub hl [0] rfl)
        · replace hh := hh.2 c80
          refine lv_iconst (v := (1 : Int32)) C.1 C.2.1 dX11_isAround_83 (by decide) ?_
          refine lv_goto (tgt := 88) C.1 C.2.1 dX11_isAround_84 (by decide) ?_
          exact tX11_isAround_b88 C hR hh hw (lv_sub hl [0] rfl)
      · replace hh := hh.2 c50
        refine lv_iload_n C.1 C.2.1 dX11_isAround_53 rfl (lv_at hl 1 rfl) ?_
        refine lv_aload_n C.1 C.2.1 dX11_isAround_54 rfl (lv_at hl 0 rfl) ?_
        refine m_Vi C hw (ctX11_squares l D o h cI cZ f g  hh) (cwV 0 C.2.2.2.2 (gd_V w_1454 w_1456 w_54 w_125 w_1457) rfl rfl rfl cdX11_squares ⟨Nat.le_of_ble_eq_true rfl, Nat.le_of_ble_eq_true rfl⟩) rfl hl.1 (Nat.le_of_ble_eq_true rfl) dX11_isAround_55 ⟨Nat.zero_le _, Nat.zero_le _⟩ (fun r55 u55 H locs hh hw => ?_) rfl
        refine lv_aload_n C.1 C.2.1 dX11_isAround_58 rfl (lv_at hl 0 rfl) ?_
        refine m_gi C hw (inC inW11) 38 (by decide) (wc w_1500) mg_38 (x := u55.1 38) rfl dX11_isAround_59 ?_
        refine lv_isub C.1 C.2.1 dX11_isAround_62 ?_
        refine lv_icmp_lt (tgt := 70) C.1 C.2.1 dX11_isAround_63 (by decide) (fun c63 => ?_) (fun c63 => ?_)
        · replace hh := hh.1 c63
          refine lv_iconst (v := (0 : Int32)) C.1 C.2.1 dX11_isAround_70 (by decide) ?_
          refine lv_goto (tgt := 88) C.1 C.2.1 dX11_isAround_71 (by decide) ?_
          exact tX11_isAround_b88 C hR hh hw (lv_sub hl [0] rfl)
        · replace hh := hh.2 c63
          refine lv_iconst (v := (1 : Int32)) C.1 C.2.1 dX11_isAround_66 (by decide) ?_
          refine lv_goto (tgt := 88) C.1 C.2.1 dX11_isAround_67 (by decide) ?_
          exact tX11_isAround_b88 C hR hh hw (lv_sub hl [0] rfl)
    · replace hh := hh.2 c22
      refine lv_iload_n C.1 C.2.1 dX11_isAround_25 rfl (lv_at hl 1 rfl) ?_
      refine lv_aload_n C.1 C.2.1 dX11_isAround_26 rfl (lv_at hl 0 rfl) ?_
      refine m_gi C hw (inC inW11) 38 (by decide) (wc w_1500) mg_38 (x := f 38) rfl dX11_isAround_27 ?_
      obtain ⟨hz30, hh⟩ := hh
      refine g_irem C dX11_isAround_30 hz30 ?_
      refine lv_aload_n C.1 C.2.1 dX11_isAround_31 rfl (lv_at hl 0 rfl) ?_
      refine m_gi C hw (inC inW11) 38 (by decide) (wc w_1500) mg_38 (x := f 38) rfl dX11_isAround_32 ?_
      refine lv_iconst (v := (1 : Int32)) C.1 C.2.1 dX11_isAround_35 (by decide) ?_
      refine lv_isub C.1 C.2.1 dX11_isAround_36 ?_
      refine lv_icmp_ne (tgt := 44) C.1 C.2.1 dX11_isAround_37 (by decide) (fun c37 => ?_) (fun c37 => ?_)
      · replace hh := hh.1 c37
        refine lv_iconst (v := (0 : Int32)) C.1 C.2.1 dX11_isAround_44 (by decide) ?_
        refine lv_goto (tgt := 88) C.1 C.2.1 dX11_isAround_45 (by decide) ?_
        exact tX11_isAround_b88 C hR hh hw (lv_sub hl [0] rfl)
      · replace hh := hh.2 c37
        refine lv_iconst (v := (1 : Int32)) C.1 C.2.1 dX11_isAround_40 (by decide) ?_
        refine lv_goto (tgt := 88) C.1 C.2.1 dX11_isAround_41 (by decide) ?_
        exact tX11_isAround_b88 C hR hh hw (lv_sub hl [0] rfl)
  · replace hh := hh.2 c1
    refine lv_iload_n C.1 C.2.1 dX11_isAround_4 rfl (lv_at hl 1 rfl) ?_
    refine lv_aload_n C.1 C.2.1 dX11_isAround_5 rfl (lv_at hl 0 rfl) ?_
    refine m_gi C hw (inC inW11) 38 (by decide) (wc w_1500) mg_38 (x := f 38) rfl dX11_isAround_6 ?_
    refine lv_icmp_ge (tgt := 16) C.1 C.2.1 dX11_isAround_9 (by decide) (fun c9 => ?_) (fun c9 => ?_)
    · replace hh := hh.1 c9
      refine lv_iconst (v := (0 : Int32)) C.1 C.2.1 dX11_isAround_16 (by decide) ?_
      refine lv_goto (tgt := 88) C.1 C.2.1 dX11_isAround_17 (by decide) ?_
      exact tX11_isAround_b88 C hR hh hw (lv_sub hl [0] rfl)
    · replace hh := hh.2 c9
      refine lv_iconst (v := (1 : Int32)) C.1 C.2.1 dX11_isAround_12 (by decide) ?_
      refine lv_goto (tgt := 88) C.1 C.2.1 dX11_isAround_13 (by decide) ?_
      exact tX11_isAround_b88 C hR hh hw (lv_sub hl [0] rfl)
theorem ctX11_isAround (l : Launch) (D : va_G) (o : Nat) (h : Nat → Nat) (cI cZ : ClassId) (f : Nat → Int32) (g : Nat → Nat → Int32) (x1 : Int32) (x2 : Int32) {K : Int32 → ((Nat → Int32) × (Nat → Nat → Int32)) → Prop} (hh : wpX11_isAround f g x1 x2 K) : Ci l yX11_isAround wsX11_isAround rmX11_isAround [.ref o, .int x1, .int x2] D (mT cI cZ) (mWu o h cI cZ) (f, g) K := by
  refine Ci_of (cc := cX11_isAround) (maxL := 3) (by decide) rfl (Nat.le_of_ble_eq_true rfl) ?_
  intro p e s m below meth c A Q C hw hR ls hl
  exact tX11_isAround_b0 C hR hh hw hl
theorem cdX11_isAround : yX11_isAround.cls = RX11 ∧ yX11_isAround.cls ≠ "java/lang/invoke/MethodHandle" ∧ yX11_isAround.cls ≠ "java/lang/invoke/VarHandle" ∧ (parseMethodDescriptor yX11_isAround.desc).map (fun d => d.parameters.length) = some 2 := by decide +kernel
abbrev rmX11_wall : Room := { frames := 2, cells := 0, slots := 0, locals := 47 }
set_option maxHeartbeats 4000000 in
set_option maxRecDepth 100000 in
theorem tX11_wall_b41 {K : Int32 → ((Nat → Int32) × (Nat → Nat → Int32)) → Prop} (C : CallFix p m c cX11_wall 4 s args wsX11_wall RX11) (hR : Rti .boolean p l e rmX11_wall s m args below meth c cX11_wall D A (mT cI cZ) (mWu o h cI cZ) K Q) {f : Nat → Int32} {g : Nat → Nat → Int32} (hh : wpX11_wall_b41 f g K) {H : Heap} {locs : List Loc} {ls : Array Slot} (hw : Wd D A s (mT cI cZ) (mW o h cI cZ f g) H locs) (hl : lv_has ls 4 [(0, .ref o)]) : W p l e rmX11_wall s m args below meth c H locs 0 0 Q (F0 m 41 ls []) := by
  unfold wpX11_wall_b41 at hh
  refine lv_iconst (v := (0 : Int32)) C.1 C.2.1 dX11_wall_41 (by decide) ?_
  exact hR _ _ _ (f, g) _ _ dX11_wall_42 rfl hh hw
set_option maxHeartbeats 4000000 in
set_option maxRecDepth 100000 in
theorem tX11_wall_b0 {K : Int32 → ((Nat → Int32) × (Nat → Nat → Int32)) → Prop} (C : CallFix p m c cX11_wall 4 s args wsX11_wall RX11) (hR : Rti .boolean p l e rmX11_wall s m args below meth c cX11_wall D A (mT cI cZ) (mWu o h cI cZ) K Q) {f : Nat → Int32} {g : Nat → Nat → Int32} {x1 : Int32} {x2 : Int32} {x3 : Int32} (hh : wpX11_wall_b0 f g x1 x2 x3 K) {H : Heap} {locs : List Loc} {ls : Array Slot} (hw : Wd D A s (mT cI cZ) (mW o h cI cZ f g) H locs) (hl : lv_has ls 4 [(0, .ref o), (1, .int x1), (2, .int x2), (3, .int x3)]) : W p l e rmX11_wall s m args below meth c H locs 0 0 Q (F0 m 0 ls []) := by
  unfold wpX11_wall_b0 at hh
  refine lv_aload_n C.1 C.2.1 dX11_wall_0 rfl (lv_at hl 0 rfl) ?_
  refine lv_iconst (v := (0 : Int32)) C.1 C.2.1 dX11_wall_1 (by decide) ?_
  refine m_pi C hw (inC inW11) 2 (by decide) (wc w_1464) rfl (ty := .int) (by decide +kernel) rfl rfl (Nat.le_of_ble_eq_true rfl) ms_2 dX11_wall_2 (fun H locs hw => ?_)
  refine lv_aload_n C.1 C.2.1 dX11_wall_5 rfl (lv_at hl 0 rfl) ?_
  refine lv_iload_n C.1 C.2.1 dX11_wall_6 rfl (lv_at hl 1 rfl) ?_
  refine m_Vi C hw (ctX11_isSquare l D o h cI cZ (upd f 2 (0 : Int32)) g x1 hh) (cwV 1 C.2.2.2.2 (gd_V w_1811 w_1813 w_79 w_125 w_1814) rfl rfl rfl cdX11_isSquare ⟨Nat.le_of_ble_eq_true rfl, Nat.le_of_ble_eq_true rfl⟩) rfl hl.1 (Nat.le_of_ble_eq_true rfl) dX11_wall_7 ⟨Nat.zero_le _, Nat.zero_le _⟩ (fun r7 u7 H locs hh hw => ?_) rfl
  refine lv_if_eq (tgt := 41) C.1 C.2.1 dX11_wall_10 (by decide) (fun c10 => ?_) (fun c10 => ?_)
  · replace hh := hh.1 c10
    exact tX11_wall_b41 C hR hh hw (lv_sub hl [0] rfl)
  · replace hh := hh.2 c10
    refine lv_iload_n C.1 C.2.1 dX11_wall_13 rfl (lv_at hl 2 rfl) ?_
    refine lv_iconst (v := (0 : Int32)) C.1 C.2.1 dX11_wall_14 (by decide) ?_
    refine lv_iconst (v := (3 : Int32)) C.1 C.2.1 dX11_wall_15 (by decide) ?_
    refine wd_Si C hw (ctX11_isIn l D x2 (0 : Int32) (3 : Int32) hh) (va_cwS 3 C.2.2.2.2 (gd_S w_1804 w_1805 (ini_cls rfl w_125) w_1806) rfl rfl rfl cdX11_isIn ⟨Nat.le_of_ble_eq_true rfl, Nat.le_of_ble_eq_true rfl⟩) rfl hl.1 (Nat.le_of_ble_eq_true rfl) dX11_wall_16 ⟨Nat.zero_le _, Nat.zero_le _⟩ (fun r16 H locs hh hw => ?_) rfl
    refine lv_if_eq (tgt := 41) C.1 C.2.1 dX11_wall_19 (by decide) (fun c19 => ?_) (fun c19 => ?_)
    · replace hh := hh.1 c19
      exact tX11_wall_b41 C hR hh hw (lv_sub hl [0] rfl)
    · replace hh := hh.2 c19
      refine lv_aload_n C.1 C.2.1 dX11_wall_22 rfl (lv_at hl 0 rfl) ?_
      refine lv_iload_n C.1 C.2.1 dX11_wall_23 rfl (lv_at hl 1 rfl) ?_
      refine lv_iload_n C.1 C.2.1 dX11_wall_24 rfl (lv_at hl 2 rfl) ?_
      refine m_Vi C hw (ctX11_isAround l D o h cI cZ u7.1 u7.2 x1 x2 hh) (cwV 2 C.2.2.2.2 (gd_V w_1815 w_1817 w_80 w_125 w_1818) rfl rfl rfl cdX11_isAround ⟨Nat.le_of_ble_eq_true rfl, Nat.le_of_ble_eq_true rfl⟩) rfl hl.1 (Nat.le_of_ble_eq_true rfl) dX11_wall_25 ⟨Nat.zero_le _, Nat.zero_le _⟩ (fun r25 u25 H locs hh hw => ?_) rfl
      refine lv_if_ne (tgt := 41) C.1 C.2.1 dX11_wall_28 (by decide) (fun c28 => ?_) (fun c28 => ?_)
      · replace hh := hh.1 c28
        exact tX11_wall_b41 C hR hh hw (lv_sub hl [0] rfl)
      · replace hh := hh.2 c28
        refine lv_aload_n C.1 C.2.1 dX11_wall_31 rfl (lv_at hl 0 rfl) ?_
        refine lv_iload_n C.1 C.2.1 dX11_wall_32 rfl (lv_at hl 1 rfl) ?_
        refine lv_iload_n C.1 C.2.1 dX11_wall_33 rfl (lv_at hl 2 rfl) ?_
        refine m_Vi C hw (ctX11_isWall l D o h cI cZ u25.1 u25.2 x1 x2 hh) (cwV 2 C.2.2.2.2 (gd_V w_1819 w_1821 w_81 w_125 w_1822) rfl rfl rfl cdX11_isWall ⟨Nat.le_of_ble_eq_true rfl, Nat.le_of_ble_eq_true rfl⟩) rfl hl.1 (Nat.le_of_ble_eq_true rfl) dX11_wall_34 ⟨Nat.zero_le _, Nat.zero_le _⟩ (fun r34 u34 H locs hh hw => ?_) rfl
        refine lv_iload_n C.1 C.2.1 dX11_wall_37 rfl (lv_at hl 3 rfl) ?_
        refine lv_icmp_ne (tgt := 43) C.1 C.2.1 dX11_wall_38 (by decide) (fun c38 => ?_) (fun c38 => ?_)
        · replace hh := hh.1 c38
          refine lv_aload_n C.1 C.2.1 dX11_wall_43 rfl (lv_at hl 0 rfl) ?_
          refine lv_iload_n C.1 C.2.1 dX11_wall_44 rfl (lv_at hl 1 rfl) ?_
          refine lv_iload_n C.1 C.2.1 dX11_wall_45 rfl (lv_at hl 2 rfl) ?_
          refine lv_iload_n C.1 C.2.1 dX11_wall_46 rfl (lv_at hl 3 rfl) ?_
          refine m_Vv C hw (ctX11_putWall l D o h cI cZ u34.1 u34.2 x1 x2 x3 hh) (cwV 3 C.2.2.2.2 (gd_V w_1826 w_1828 w_82 w_125 w_1829) rfl rfl rfl cdX11_putWall ⟨Nat.le_of_ble_eq_true rfl, Nat.le_of_ble_eq_true rfl⟩) rfl hl.1 (Nat.le_of_ble_eq_true rfl) dX11_wall_47 ⟨Nat.zero_le _, Nat.zero_le _⟩ (fun u47 H locs hh hw => ?_) rfl
          refine lv_iconst (v := (1 : Int32)) C.1 C.2.1 dX11_wall_50 (by decide) ?_
          exact hR _ _ _ (u47.1, u47.2) _ _ dX11_wall_51 rfl hh hw
        · replace hh := hh.2 c38
          exact tX11_wall_b41 C hR hh hw (lv_sub hl [0] rfl)
theorem ctX11_wall (l : Launch) (D : va_G) (o : Nat) (h : Nat → Nat) (cI cZ : ClassId) (f : Nat → Int32) (g : Nat → Nat → Int32) (x1 : Int32) (x2 : Int32) (x3 : Int32) {K : Int32 → ((Nat → Int32) × (Nat → Nat → Int32)) → Prop} (hh : wpX11_wall f g x1 x2 x3 K) : Ci l yX11_wall wsX11_wall rmX11_wall [.ref o, .int x1, .int x2, .int x3] D (mT cI cZ) (mWu o h cI cZ) (f, g) K := by
  refine Ci_of (cc := cX11_wall) (maxL := 4) (by decide) rfl (Nat.le_of_ble_eq_true rfl) ?_
  intro p e s m below meth c A Q C hw hR ls hl
  exact tX11_wall_b0 C hR hh hw hl
theorem cdX11_wall : yX11_wall.cls = RX11 ∧ yX11_wall.cls ≠ "java/lang/invoke/MethodHandle" ∧ yX11_wall.cls ≠ "java/lang/invoke/VarHandle" ∧ (parseMethodDescriptor yX11_wall.desc).map (fun d => d.parameters.length) = some 3 := by decide +kernel
abbrev rmX11_bell : Room := { frames := 2, cells := 0, slots := 0, locals := 41 }
set_option maxHeartbeats 4000000 in
set_option maxRecDepth 100000 in
theorem tX11_bell_b0 {K : Int32 → ((Nat → Int32) × (Nat → Nat → Int32)) → Prop} (C : CallFix p m c cX11_bell 2 s args wsX11_bell RX11) (hR : Rti .boolean p l e rmX11_bell s m args below meth c cX11_bell D A (mT cI cZ) (mWu o h cI cZ) K Q) {f : Nat → Int32} {g : Nat → Nat → Int32} {x1 : Int32} (hh : wpX11_bell_b0 f g x1 K) {H : Heap} {locs : List Loc} {ls : Array Slot} (hw : Wd D A s (mT cI cZ) (mW o h cI cZ f g) H locs) (hl : lv_has ls 2 [(0, .ref o), (1, .int x1)]) : W p l e rmX11_bell s m args below meth c H locs 0 0 Q (F0 m 0 ls []) := by
  unfold wpX11_bell_b0 at hh
  refine lv_aload_n C.1 C.2.1 dX11_bell_0 rfl (lv_at hl 0 rfl) ?_
  refine lv_iconst (v := (0 : Int32)) C.1 C.2.1 dX11_bell_1 (by decide) ?_
  refine m_pi C hw (inC inW11) 2 (by decide) (wc w_1464) rfl (ty := .int) (by decide +kernel) rfl rfl (Nat.le_of_ble_eq_true rfl) ms_2 dX11_bell_2 (fun H locs hw => ?_)
  refine lv_aload_n C.1 C.2.1 dX11_bell_5 rfl (lv_at hl 0 rfl) ?_
  refine lv_iload_n C.1 C.2.1 dX11_bell_6 rfl (lv_at hl 1 rfl) ?_
  refine m_Vi C hw (ctX11_isSquare l D o h cI cZ (upd f 2 (0 : Int32)) g x1 hh) (cwV 1 C.2.2.2.2 (gd_V w_1811 w_1813 w_79 w_125 w_1814) rfl rfl rfl cdX11_isSquare ⟨Nat.le_of_ble_eq_true rfl, Nat.le_of_ble_eq_true rfl⟩) rfl hl.1 (Nat.le_of_ble_eq_true rfl) dX11_bell_7 ⟨Nat.zero_le _, Nat.zero_le _⟩ (fun r7 u7 H locs hh hw => ?_) rfl
  refine lv_if_ne (tgt := 15) C.1 C.2.1 dX11_bell_10 (by decide) (fun c10 => ?_) (fun c10 => ?_)
  · replace hh := hh.1 c10
    refine lv_aload_n C.1 C.2.1 dX11_bell_15 rfl (lv_at hl 0 rfl) ?_
    refine lv_iload_n C.1 C.2.1 dX11_bell_16 rfl (lv_at hl 1 rfl) ?_
    refine m_pi C hw (inC inW11) 40 (by decide) (wc w_1502) rfl (ty := .int) (by decide +kernel) rfl rfl (Nat.le_of_ble_eq_true rfl) ms_40 dX11_bell_17 (fun H locs hw => ?_)
    refine lv_iconst (v := (1 : Int32)) C.1 C.2.1 dX11_bell_20 (by decide) ?_
    exact hR _ _ _ (upd u7.1 40 x1, u7.2) _ _ dX11_bell_21 rfl hh hw
  · replace hh := hh.2 c10
    refine lv_iconst (v := (0 : Int32)) C.1 C.2.1 dX11_bell_13 (by decide) ?_
    exact hR _ _ _ (u7.1, u7.2) _ _ dX11_bell_14 rfl hh hw
theorem ctX11_bell (l : Launch) (D : va_G) (o : Nat) (h : Nat → Nat) (cI cZ : ClassId) (f : Nat → Int32) (g : Nat → Nat → Int32) (x1 : Int32) {K : Int32 → ((Nat → Int32) × (Nat → Nat → Int32)) → Prop} (hh : wpX11_bell f g x1 K) : Ci l yX11_bell wsX11_bell rmX11_bell [.ref o, .int x1] D (mT cI cZ) (mWu o h cI cZ) (f, g) K := by
  refine Ci_of (cc := cX11_bell) (maxL := 2) (by decide) rfl (Nat.le_of_ble_eq_true rfl) ?_
  intro p e s m below meth c A Q C hw hR ls hl
  exact tX11_bell_b0 C hR hh hw hl
theorem cdX11_bell : yX11_bell.cls = RX11 ∧ yX11_bell.cls ≠ "java/lang/invoke/MethodHandle" ∧ yX11_bell.cls ≠ "java/lang/invoke/VarHandle" ∧ (parseMethodDescriptor yX11_bell.desc).map (fun d => d.parameters.length) = some 1 := by decide +kernel
abbrev rmX11_lift : Room := { frames := 2, cells := 0, slots := 0, locals := 41 }
set_option maxHeartbeats 4000000 in
set_option maxRecDepth 100000 in
theorem tX11_lift_b22 {K : Int32 → ((Nat → Int32) × (Nat → Nat → Int32)) → Prop} (C : CallFix p m c cX11_lift 3 s args wsX11_lift RX11) (hR : Rti .boolean p l e rmX11_lift s m args below meth c cX11_lift D A (mT cI cZ) (mWu o h cI cZ) K Q) {f : Nat → Int32} {g : Nat → Nat → Int32} (hh : wpX11_lift_b22 f g K) {H : Heap} {locs : List Loc} {ls : Array Slot} (hw : Wd D A s (mT cI cZ) (mW o h cI cZ f g) H locs) (hl : lv_has ls 3 [(0, .ref o)]) : W p l e rmX11_lift s m args below meth c H locs 0 0 Q (F0 m 22 ls []) := by
  unfold wpX11_lift_b22 at hh
  refine lv_iconst (v := (0 : Int32)) C.1 C.2.1 dX11_lift_22 (by decide) ?_
  exact hR _ _ _ (f, g) _ _ dX11_lift_23 rfl hh hw
set_option maxHeartbeats 4000000 in
set_option maxRecDepth 100000 in
theorem tX11_lift_b0 {K : Int32 → ((Nat → Int32) × (Nat → Nat → Int32)) → Prop} (C : CallFix p m c cX11_lift 3 s args wsX11_lift RX11) (hR : Rti .boolean p l e rmX11_lift s m args below meth c cX11_lift D A (mT cI cZ) (mWu o h cI cZ) K Q) {f : Nat → Int32} {g : Nat → Nat → Int32} {x1 : Int32} {x2 : Int32} (hh : wpX11_lift_b0 f g x1 x2 K) {H : Heap} {locs : List Loc} {ls : Array Slot} (hw : Wd D A s (mT cI cZ) (mW o h cI cZ f g) H locs) (hl : lv_has ls 3 [(0, .ref o), (1, .int x1), (2, .int x2)]) : W p l e rmX11_lift s m args below meth c H locs 0 0 Q (F0 m 0 ls []) := by
  unfold wpX11_lift_b0 at hh
  refine lv_aload_n C.1 C.2.1 dX11_lift_0 rfl (lv_at hl 0 rfl) ?_
  refine lv_iconst (v := (0 : Int32)) C.1 C.2.1 dX11_lift_1 (by decide) ?_
  refine m_pi C hw (inC inW11) 2 (by decide) (wc w_1464) rfl (ty := .int) (by decide +kernel) rfl rfl (Nat.le_of_ble_eq_true rfl) ms_2 dX11_lift_2 (fun H locs hw => ?_)
  refine lv_aload_n C.1 C.2.1 dX11_lift_5 rfl (lv_at hl 0 rfl) ?_
  refine lv_iload_n C.1 C.2.1 dX11_lift_6 rfl (lv_at hl 1 rfl) ?_
  refine m_Vi C hw (ctX11_isSquare l D o h cI cZ (upd f 2 (0 : Int32)) g x1 hh) (cwV 1 C.2.2.2.2 (gd_V w_1811 w_1813 w_79 w_125 w_1814) rfl rfl rfl cdX11_isSquare ⟨Nat.le_of_ble_eq_true rfl, Nat.le_of_ble_eq_true rfl⟩) rfl hl.1 (Nat.le_of_ble_eq_true rfl) dX11_lift_7 ⟨Nat.zero_le _, Nat.zero_le _⟩ (fun r7 u7 H locs hh hw => ?_) rfl
  refine lv_if_eq (tgt := 22) C.1 C.2.1 dX11_lift_10 (by decide) (fun c10 => ?_) (fun c10 => ?_)
  · replace hh := hh.1 c10
    exact tX11_lift_b22 C hR hh hw (lv_sub hl [0] rfl)
  · replace hh := hh.2 c10
    refine lv_iload_n C.1 C.2.1 dX11_lift_13 rfl (lv_at hl 2 rfl) ?_
    refine lv_iconst (v := (0 : Int32)) C.1 C.2.1 dX11_lift_14 (by decide) ?_
    refine lv_iconst (v := (3 : Int32)) C.1 C.2.1 dX11_lift_15 (by decide) ?_
    refine wd_Si C hw (ctX11_isIn l D x2 (0 : Int32) (3 : Int32) hh) (va_cwS 3 C.2.2.2.2 (gd_S w_1804 w_1805 (ini_cls rfl w_125) w_1806) rfl rfl rfl cdX11_isIn ⟨Nat.le_of_ble_eq_true rfl, Nat.le_of_ble_eq_true rfl⟩) rfl hl.1 (Nat.le_of_ble_eq_true rfl) dX11_lift_16 ⟨Nat.zero_le _, Nat.zero_le _⟩ (fun r16 H locs hh hw => ?_) rfl
    refine lv_if_ne (tgt := 24) C.1 C.2.1 dX11_lift_19 (by decide) (fun c19 => ?_) (fun c19 => ?_)
    · replace hh := hh.1 c19
      refine lv_aload_n C.1 C.2.1 dX11_lift_24 rfl (lv_at hl 0 rfl) ?_
      refine lv_iload_n C.1 C.2.1 dX11_lift_25 rfl (lv_at hl 1 rfl) ?_
      refine m_pi C hw (inC inW11) 41 (by decide) (wc w_1503) rfl (ty := .int) (by decide +kernel) rfl rfl (Nat.le_of_ble_eq_true rfl) ms_41 dX11_lift_26 (fun H locs hw => ?_)
      refine lv_aload_n C.1 C.2.1 dX11_lift_29 rfl (lv_at hl 0 rfl) ?_
      refine lv_iload_n C.1 C.2.1 dX11_lift_30 rfl (lv_at hl 2 rfl) ?_
      refine m_pi C hw (inC inW11) 42 (by decide) (wc w_1504) rfl (ty := .int) (by decide +kernel) rfl rfl (Nat.le_of_ble_eq_true rfl) ms_42 dX11_lift_31 (fun H locs hw => ?_)
      refine lv_iconst (v := (1 : Int32)) C.1 C.2.1 dX11_lift_34 (by decide) ?_
      exact hR _ _ _ (upd (upd u7.1 41 x1) 42 x2, u7.2) _ _ dX11_lift_35 rfl hh hw
    · replace hh := hh.2 c19
      exact tX11_lift_b22 C hR hh hw (lv_sub hl [0] rfl)
theorem ctX11_lift (l : Launch) (D : va_G) (o : Nat) (h : Nat → Nat) (cI cZ : ClassId) (f : Nat → Int32) (g : Nat → Nat → Int32) (x1 : Int32) (x2 : Int32) {K : Int32 → ((Nat → Int32) × (Nat → Nat → Int32)) → Prop} (hh : wpX11_lift f g x1 x2 K) : Ci l yX11_lift wsX11_lift rmX11_lift [.ref o, .int x1, .int x2] D (mT cI cZ) (mWu o h cI cZ) (f, g) K := by
  refine Ci_of (cc := cX11_lift) (maxL := 3) (by decide) rfl (Nat.le_of_ble_eq_true rfl) ?_
  intro p e s m below meth c A Q C hw hR ls hl
  exact tX11_lift_b0 C hR hh hw hl
theorem cdX11_lift : yX11_lift.cls = RX11 ∧ yX11_lift.cls ≠ "java/lang/invoke/MethodHandle" ∧ yX11_lift.cls ≠ "java/lang/invoke/VarHandle" ∧ (parseMethodDescriptor yX11_lift.desc).map (fun d => d.parameters.length) = some 2 := by decide +kernel
abbrev rmX11_wipes : Room := { frames := 1, cells := 0, slots := 0, locals := 20 }
set_option maxHeartbeats 4000000 in
set_option maxRecDepth 100000 in
theorem tX11_wipes_b2_body {B2 : (Nat → Int32) → (Nat → Nat → Int32) → Int32 → Prop} {K : ((Nat → Int32) × (Nat → Nat → Int32)) → Prop} (C : CallFix p m c cX11_wipes 2 s args wsX11_wipes RX11) (hR : Rtv p l e rmX11_wipes s m args below meth c cX11_wipes D A (mT cI cZ) (mWu o h cI cZ) K Q) (hB2 : ∀ (f : Nat → Int32) (g : Nat → Nat → Int32) (x1 : Int32) (H : Heap) (locs : List Loc) (ls : Array Slot), B2 f g x1 → Wd D A s (mT cI cZ) (mW o h cI cZ f g) H locs → lv_has ls 2 [(0, .ref o), (1, .int x1)] → W p l e rmX11_wipes s m args below meth c H locs 0 0 Q (F0 m 2 ls [])) {f : Nat → Int32} {g : Nat → Nat → Int32} {x1 : Int32} (hh : wpX11_wipes_b2_body B2 f g x1 K) {H : Heap} {locs : List Loc} {ls : Array Slot} (hw : Wd D A s (mT cI cZ) (mW o h cI cZ f g) H locs) (hl : lv_has ls 2 [(0, .ref o), (1, .int x1)]) : W p l e rmX11_wipes s m args below meth c H locs 0 0 Q (F0 m 2 ls []) := by
  unfold wpX11_wipes_b2_body at hh
  refine lv_iload_n C.1 C.2.1 dX11_wipes_2 rfl (lv_at hl 1 rfl) ?_
  refine lv_aload_n C.1 C.2.1 dX11_wipes_3 rfl (lv_at hl 0 rfl) ?_
  refine m_Vi C hw (ctX11_squares l D o h cI cZ f g  hh) (cwV 0 C.2.2.2.2 (gd_V w_1454 w_1456 w_54 w_125 w_1457) rfl rfl rfl cdX11_squares ⟨Nat.le_of_ble_eq_true rfl, Nat.le_of_ble_eq_true rfl⟩) rfl hl.1 (Nat.le_of_ble_eq_true rfl) dX11_wipes_4 ⟨Nat.zero_le _, Nat.zero_le _⟩ (fun r4 u4 H locs hh hw => ?_) rfl
  refine lv_icmp_ge (tgt := 30) C.1 C.2.1 dX11_wipes_7 (by decide) (fun c7 => ?_) (fun c7 => ?_)
  · replace hh := hh.1 c7
    exact hR _ _ (u4.1, u4.2) _ _ dX11_wipes_30 hh hw
  · replace hh := hh.2 c7
    refine lv_aload_n C.1 C.2.1 dX11_wipes_10 rfl (lv_at hl 0 rfl) ?_
    refine m_ga C hw (inC inW11) 47 (by decide) (wc w_1509) mg_47 dX11_wipes_11 ?_
    refine lv_iload_n C.1 C.2.1 dX11_wipes_14 rfl (lv_at hl 1 rfl) ?_
    refine lv_iconst (v := (0 : Int32)) C.1 C.2.1 dX11_wipes_15 (by decide) ?_
    obtain ⟨hi16, hh⟩ := hh
    refine m_ias C hw mp_47 mq_47 hi16 dX11_wipes_16 (fun H locs hw => ?_)
    refine lv_aload_n C.1 C.2.1 dX11_wipes_17 rfl (lv_at hl 0 rfl) ?_
    refine m_ga C hw (inC inW11) 48 (by decide) (wc w_1510) mg_48 dX11_wipes_18 ?_
    refine lv_iload_n C.1 C.2.1 dX11_wipes_21 rfl (lv_at hl 1 rfl) ?_
    refine lv_iconst (v := (0 : Int32)) C.1 C.2.1 dX11_wipes_22 (by decide) ?_
    obtain ⟨hi23, hh⟩ := hh
    refine m_ias C hw mp_48 mq_48 hi23 dX11_wipes_23 (fun H locs hw => ?_)
    refine lv_iinc (v := x1 + (1 : Int32)) (lv' := [(1, .int (x1 + (1 : Int32))), (0, .ref o)]) C.1 C.2.1 dX11_wipes_24 hl (k := 1) rfl rfl (by decide) rfl (fun ls hl => ?_)
    refine lv_goto (tgt := 2) C.1 C.2.1 dX11_wipes_27 (by decide) ?_
    exact hB2 _ _ _ _ _ _ hh hw (lv_sub hl [1, 0] rfl)
theorem tX11_wipes_b2 {K : ((Nat → Int32) × (Nat → Nat → Int32)) → Prop} (C : CallFix p m c cX11_wipes 2 s args wsX11_wipes RX11) (hR : Rtv p l e rmX11_wipes s m args below meth c cX11_wipes D A (mT cI cZ) (mWu o h cI cZ) K Q) (n : Nat) : ∀ (f : Nat → Int32) (g : Nat → Nat → Int32) (x1 : Int32) (H : Heap) (locs : List Loc) (ls : Array Slot), wpX11_wipes_b2 n f g x1 K → Wd D A s (mT cI cZ) (mW o h cI cZ f g) H locs → lv_has ls 2 [(0, .ref o), (1, .int x1)] → W p l e rmX11_wipes s m args below meth c H locs 0 0 Q (F0 m 2 ls []) := by
  induction n with
  | zero => intro f g x1 H locs ls hh; exact hh.elim
  | succ n ih => intro f g x1 H locs ls hh hw hl; exact tX11_wipes_b2_body C hR ih hh hw hl
set_option maxHeartbeats 4000000 in
set_option maxRecDepth 100000 in
theorem tX11_wipes_b0 {K : ((Nat → Int32) × (Nat → Nat → Int32)) → Prop} (C : CallFix p m c cX11_wipes 2 s args wsX11_wipes RX11) (hR : Rtv p l e rmX11_wipes s m args below meth c cX11_wipes D A (mT cI cZ) (mWu o h cI cZ) K Q) {f : Nat → Int32} {g : Nat → Nat → Int32} (hh : wpX11_wipes_b0 f g K) {H : Heap} {locs : List Loc} {ls : Array Slot} (hw : Wd D A s (mT cI cZ) (mW o h cI cZ f g) H locs) (hl : lv_has ls 2 [(0, .ref o)]) : W p l e rmX11_wipes s m args below meth c H locs 0 0 Q (F0 m 0 ls []) := by
  unfold wpX11_wipes_b0 at hh
  refine lv_iconst (v := (0 : Int32)) C.1 C.2.1 dX11_wipes_0 (by decide) ?_
  refine lv_istore_n (lv' := [(1, .int (0 : Int32)), (0, .ref o)]) C.1 C.2.1 dX11_wipes_1 rfl hl (by decide) rfl (fun ls hl => ?_)
  obtain ⟨n, hh⟩ := hh
  exact tX11_wipes_b2 C hR n _ _ _ _ _ _ hh hw (lv_sub hl [1, 0] rfl)
theorem ctX11_wipes (l : Launch) (D : va_G) (o : Nat) (h : Nat → Nat) (cI cZ : ClassId) (f : Nat → Int32) (g : Nat → Nat → Int32) {K : ((Nat → Int32) × (Nat → Nat → Int32)) → Prop} (hh : wpX11_wipes f g K) : Cv l yX11_wipes wsX11_wipes rmX11_wipes [.ref o] D (mT cI cZ) (mWu o h cI cZ) (f, g) K := by
  refine Cv_of (cc := cX11_wipes) (maxL := 2) (by decide) rfl (Nat.le_of_ble_eq_true rfl) ?_
  intro p e s m below meth c A Q C hw hR ls hl
  exact tX11_wipes_b0 C hR hh hw hl
theorem cdX11_wipes : yX11_wipes.cls = RX11 ∧ yX11_wipes.cls ≠ "java/lang/invoke/MethodHandle" ∧ yX11_wipes.cls ≠ "java/lang/invoke/VarHandle" ∧ (parseMethodDescriptor yX11_wipes.desc).map (fun d => d.parameters.length) = some 0 := by decide +kernel
end
