section
variable {p : Program} {l : Launch} {e : Env} {s : State} {m : MethodId} {args : Array Value} {below : List Frame} {meth : Method} {c : Code} {D : va_G} {A : Nat → Prop} {o : Nat} {h : Nat → Nat} {cI cZ : ClassId} {Q : State → Prop}
abbrev rmX11_actRead : Room := { frames := 2, cells := 0, slots := 0, locals := 48 }
set_option maxHeartbeats 4000000 in
set_option maxRecDepth 100000 in
theorem tX11_actRead_b35 {K : Int32 → ((Nat → Int32) × (Nat → Nat → Int32)) → Prop} (C : CallFix p m c cX11_actRead 3 s args wsX11_actRead RX11) (hR : Rti .boolean p l e rmX11_actRead s m args below meth c cX11_actRead D A (mT cI cZ) (mWu o h cI cZ) K Q) {f : Nat → Int32} {g : Nat → Nat → Int32} (hh : wpX11_actRead_b35 f g K) {H : Heap} {locs : List Loc} {ls : Array Slot} (hw : Wd D A s (mT cI cZ) (mW o h cI cZ f g) H locs) (hl : lv_has ls 3 [(0, .ref o)]) : W p l e rmX11_actRead s m args below meth c H locs 0 0 Q (F0 m 35 ls []) := by
  unfold wpX11_actRead_b35 at hh
  refine lv_aload_n C.1 C.2.1 dX11_actRead_35 rfl (lv_at hl 0 rfl) ?_
  refine lv_iconst (v := (1 : Int32)) C.1 C.2.1 dX11_actRead_36 (by decide) ?_
  refine m_Vi C hw (ctX11_wrong l D o h cI cZ f g (1 : Int32) hh) (cwV 1 C.2.2.2.2 (gd_V w_1729 w_1731 w_64 w_125 w_1732) rfl rfl rfl cdX11_wrong ⟨Nat.le_of_ble_eq_true rfl, Nat.le_of_ble_eq_true rfl⟩) rfl hl.1 (Nat.le_of_ble_eq_true rfl) dX11_actRead_37 ⟨Nat.zero_le _, Nat.zero_le _⟩ (fun r37 u37 H locs hh hw => ?_) rfl
  obtain ⟨hb40, hh⟩ := hh
  exact hR _ _ _ (u37.1, u37.2) _ _ dX11_actRead_40 (isB_nar hb40) hh hw
set_option maxHeartbeats 4000000 in
set_option maxRecDepth 100000 in
theorem tX11_actRead_b164 {K : Int32 → ((Nat → Int32) × (Nat → Nat → Int32)) → Prop} (C : CallFix p m c cX11_actRead 3 s args wsX11_actRead RX11) (hR : Rti .boolean p l e rmX11_actRead s m args below meth c cX11_actRead D A (mT cI cZ) (mWu o h cI cZ) K Q) {f : Nat → Int32} {g : Nat → Nat → Int32} {x1 : Int32} (hh : wpX11_actRead_b164 f g x1 K) {H : Heap} {locs : List Loc} {ls : Array Slot} (hw : Wd D A s (mT cI cZ) (mW o h cI cZ f g) H locs) (hl : lv_has ls 3 [(0, .ref o), (1, .int x1)]) : W p l e rmX11_actRead s m args below meth c H locs 0 0 Q (F0 m 164 ls []) := by
  unfold wpX11_actRead_b164 at hh
  refine lv_aload_n C.1 C.2.1 dX11_actRead_164 rfl (lv_at hl 0 rfl) ?_
  refine m_ga C hw (inC inW11) 14 (by decide) (wc w_1476) mg_14 dX11_actRead_165 ?_
  refine lv_iload_n C.1 C.2.1 dX11_actRead_168 rfl (lv_at hl 1 rfl) ?_
  refine lv_dup2_11 C.1 C.2.1 dX11_actRead_169 rfl rfl ?_
  obtain ⟨hi170, hh⟩ := hh
  refine m_ial C hw mp_14 (x := g 14 (ix x1)) hi170 rfl dX11_actRead_170 ?_
  refine lv_iconst (v := (1 : Int32)) C.1 C.2.1 dX11_actRead_171 (by decide) ?_
  refine lv_iadd C.1 C.2.1 dX11_actRead_172 ?_
  obtain ⟨hi173, hh⟩ := hh
  refine m_ias C hw mp_14 mq_14 hi173 dX11_actRead_173 (fun H locs hw => ?_)
  refine lv_iconst (v := (1 : Int32)) C.1 C.2.1 dX11_actRead_174 (by decide) ?_
  exact hR _ _ _ (f, pt g 14 (ix x1) ((g 14 (ix x1)) + (1 : Int32))) _ _ dX11_actRead_175 rfl hh hw
set_option maxHeartbeats 4000000 in
set_option maxRecDepth 100000 in
theorem tX11_actRead_b142 {K : Int32 → ((Nat → Int32) × (Nat → Nat → Int32)) → Prop} (C : CallFix p m c cX11_actRead 3 s args wsX11_actRead RX11) (hR : Rti .boolean p l e rmX11_actRead s m args below meth c cX11_actRead D A (mT cI cZ) (mWu o h cI cZ) K Q) {f : Nat → Int32} {g : Nat → Nat → Int32} {k1 : Int32} {x1 : Int32} {x2 : Int32} (hh : wpX11_actRead_b142 f g k1 x1 x2 K) {H : Heap} {locs : List Loc} {ls : Array Slot} (hw : Wd D A s (mT cI cZ) (mW o h cI cZ f g) H locs) (hl : lv_has ls 3 [(0, .ref o), (1, .int x1), (2, .int x2)]) : W p l e rmX11_actRead s m args below meth c H locs 0 0 Q (F0 m 142 ls [.int k1, .ref o]) := by
  unfold wpX11_actRead_b142 at hh
  refine m_Vi C hw (ctX11_numberRead l D o h cI cZ f g k1 hh) (cwV 1 C.2.2.2.2 (gd_V w_1737 w_1739 w_66 w_125 w_1740) rfl rfl rfl cdX11_numberRead ⟨Nat.le_of_ble_eq_true rfl, Nat.le_of_ble_eq_true rfl⟩) rfl hl.1 (Nat.le_of_ble_eq_true rfl) dX11_actRead_142 ⟨Nat.zero_le _, Nat.zero_le _⟩ (fun r142 u142 H locs hh hw => ?_) rfl
  refine lv_if_ne (tgt := 150) C.1 C.2.1 dX11_actRead_145 (by decide) (fun c145 => ?_) (fun c145 => ?_)
  · replace hh := hh.1 c145
    refine lv_aload_n C.1 C.2.1 dX11_actRead_150 rfl (lv_at hl 0 rfl) ?_
    refine m_ga C hw (inC inW11) 19 (by decide) (wc w_1481) mg_19 dX11_actRead_151 ?_
    refine lv_iload_n C.1 C.2.1 dX11_actRead_154 rfl (lv_at hl 2 rfl) ?_
    refine lv_aload_n C.1 C.2.1 dX11_actRead_155 rfl (lv_at hl 0 rfl) ?_
    refine m_gi C hw (inC inW11) 9 (by decide) (wc w_1471) mg_9 (x := u142.1 9) rfl dX11_actRead_156 ?_
    obtain ⟨hi159, hh⟩ := hh
    refine m_ias C hw mp_19 mq_19 hi159 dX11_actRead_159 (fun H locs hw => ?_)
    refine lv_aload_n C.1 C.2.1 dX11_actRead_160 rfl (lv_at hl 0 rfl) ?_
    refine m_Vv C hw (ctX11_take l D o h cI cZ u142.1 (pt u142.2 19 (ix x2) (u142.1 9))  hh) (cwV 0 C.2.2.2.2 (gd_V w_1698 w_1700 w_57 w_125 w_1701) rfl rfl rfl cdX11_take ⟨Nat.le_of_ble_eq_true rfl, Nat.le_of_ble_eq_true rfl⟩) rfl hl.1 (Nat.le_of_ble_eq_true rfl) dX11_actRead_161 ⟨Nat.zero_le _, Nat.zero_le _⟩ (fun u161 H locs hh hw => ?_) rfl
    exact tX11_actRead_b164 C hR hh hw (lv_sub hl [0, 1] rfl)
  · replace hh := hh.2 c145
    refine lv_iconst (v := (0 : Int32)) C.1 C.2.1 dX11_actRead_148 (by decide) ?_
    exact hR _ _ _ (u142.1, u142.2) _ _ dX11_actRead_149 rfl hh hw
set_option maxHeartbeats 4000000 in
set_option maxRecDepth 100000 in
theorem tX11_actRead_b124 {K : Int32 → ((Nat → Int32) × (Nat → Nat → Int32)) → Prop} (C : CallFix p m c cX11_actRead 3 s args wsX11_actRead RX11) (hR : Rti .boolean p l e rmX11_actRead s m args below meth c cX11_actRead D A (mT cI cZ) (mWu o h cI cZ) K Q) {f : Nat → Int32} {g : Nat → Nat → Int32} {x1 : Int32} {x2 : Int32} (hh : wpX11_actRead_b124 f g x1 x2 K) {H : Heap} {locs : List Loc} {ls : Array Slot} (hw : Wd D A s (mT cI cZ) (mW o h cI cZ f g) H locs) (hl : lv_has ls 3 [(0, .ref o), (1, .int x1), (2, .int x2)]) : W p l e rmX11_actRead s m args below meth c H locs 0 0 Q (F0 m 124 ls []) := by
  unfold wpX11_actRead_b124 at hh
  refine lv_aload_n C.1 C.2.1 dX11_actRead_124 rfl (lv_at hl 0 rfl) ?_
  refine lv_aload_n C.1 C.2.1 dX11_actRead_125 rfl (lv_at hl 0 rfl) ?_
  refine m_ga C hw (inC inW11) 18 (by decide) (wc w_1480) mg_18 dX11_actRead_126 ?_
  refine lv_iload_n C.1 C.2.1 dX11_actRead_129 rfl (lv_at hl 2 rfl) ?_
  obtain ⟨hi130, hh⟩ := hh
  refine m_ial C hw mp_18 (x := g 18 (ix x2)) hi130 rfl dX11_actRead_130 ?_
  refine lv_bipush (v := (6 : Int32)) C.1 C.2.1 dX11_actRead_131 (by decide) ?_
  refine lv_icmp_ne (tgt := 141) C.1 C.2.1 dX11_actRead_133 (by decide) (fun c133 => ?_) (fun c133 => ?_)
  · replace hh := hh.1 c133
    refine lv_iconst (v := (2 : Int32)) C.1 C.2.1 dX11_actRead_141 (by decide) ?_
    exact tX11_actRead_b142 C hR hh hw hl
  · replace hh := hh.2 c133
    refine lv_bipush (v := (9 : Int32)) C.1 C.2.1 dX11_actRead_136 (by decide) ?_
    refine lv_goto (tgt := 142) C.1 C.2.1 dX11_actRead_138 (by decide) ?_
    exact tX11_actRead_b142 C hR hh hw hl
set_option maxHeartbeats 4000000 in
set_option maxRecDepth 100000 in
theorem tX11_actRead_b41 {K : Int32 → ((Nat → Int32) × (Nat → Nat → Int32)) → Prop} (C : CallFix p m c cX11_actRead 3 s args wsX11_actRead RX11) (hR : Rti .boolean p l e rmX11_actRead s m args below meth c cX11_actRead D A (mT cI cZ) (mWu o h cI cZ) K Q) {f : Nat → Int32} {g : Nat → Nat → Int32} {x1 : Int32} (hh : wpX11_actRead_b41 f g x1 K) {H : Heap} {locs : List Loc} {ls : Array Slot} (hw : Wd D A s (mT cI cZ) (mW o h cI cZ f g) H locs) (hl : lv_has ls 3 [(0, .ref o), (1, .int x1)]) : W p l e rmX11_actRead s m args below meth c H locs 0 0 Q (F0 m 41 ls []) := by
  unfold wpX11_actRead_b41 at hh
  refine lv_aload_n C.1 C.2.1 dX11_actRead_41 rfl (lv_at hl 0 rfl) ?_
  refine m_ga C hw (inC inW11) 14 (by decide) (wc w_1476) mg_14 dX11_actRead_42 ?_
  refine lv_iload_n C.1 C.2.1 dX11_actRead_45 rfl (lv_at hl 1 rfl) ?_
  obtain ⟨hi46, hh⟩ := hh
  refine m_ial C hw mp_14 (x := g 14 (ix x1)) hi46 rfl dX11_actRead_46 ?_
  refine lv_bipush (v := (12 : Int32)) C.1 C.2.1 dX11_actRead_47 (by decide) ?_
  refine lv_icmp_ne (tgt := 58) C.1 C.2.1 dX11_actRead_49 (by decide) (fun c49 => ?_) (fun c49 => ?_)
  · replace hh := hh.1 c49
    refine lv_bipush (v := (12 : Int32)) C.1 C.2.1 dX11_actRead_58 (by decide) ?_
    refine lv_iload_n C.1 C.2.1 dX11_actRead_60 rfl (lv_at hl 1 rfl) ?_
    refine lv_imul C.1 C.2.1 dX11_actRead_61 ?_
    refine lv_aload_n C.1 C.2.1 dX11_actRead_62 rfl (lv_at hl 0 rfl) ?_
    refine m_ga C hw (inC inW11) 14 (by decide) (wc w_1476) mg_14 dX11_actRead_63 ?_
    refine lv_iload_n C.1 C.2.1 dX11_actRead_66 rfl (lv_at hl 1 rfl) ?_
    obtain ⟨hi67, hh⟩ := hh
    refine m_ial C hw mp_14 (x := g 14 (ix x1)) hi67 rfl dX11_actRead_67 ?_
    refine lv_iadd C.1 C.2.1 dX11_actRead_68 ?_
    refine lv_istore_n (lv' := [(2, .int (((12 : Int32) * x1) + (g 14 (ix x1)))), (0, .ref o), (1, .int x1)]) C.1 C.2.1 dX11_actRead_69 rfl hl (by decide) rfl (fun ls hl => ?_)
    refine lv_aload_n C.1 C.2.1 dX11_actRead_70 rfl (lv_at hl 1 rfl) ?_
    refine m_ga C hw (inC inW11) 18 (by decide) (wc w_1480) mg_18 dX11_actRead_71 ?_
    refine lv_iload_n C.1 C.2.1 dX11_actRead_74 rfl (lv_at hl 0 rfl) ?_
    refine lv_aload_n C.1 C.2.1 dX11_actRead_75 rfl (lv_at hl 1 rfl) ?_
    refine m_gi C hw (inC inW11) 9 (by decide) (wc w_1471) mg_9 (x := f 9) rfl dX11_actRead_76 ?_
    obtain ⟨hi79, hh⟩ := hh
    refine m_ias C hw mp_18 mq_18 hi79 dX11_actRead_79 (fun H locs hw => ?_)
    refine lv_aload_n C.1 C.2.1 dX11_actRead_80 rfl (lv_at hl 1 rfl) ?_
    refine m_ga C hw (inC inW11) 19 (by decide) (wc w_1481) mg_19 dX11_actRead_81 ?_
    refine lv_iload_n C.1 C.2.1 dX11_actRead_84 rfl (lv_at hl 0 rfl) ?_
    refine lv_iconst (v := (0 : Int32)) C.1 C.2.1 dX11_actRead_85 (by decide) ?_
    obtain ⟨hi86, hh⟩ := hh
    refine m_ias C hw mp_19 mq_19 hi86 dX11_actRead_86 (fun H locs hw => ?_)
    refine lv_aload_n C.1 C.2.1 dX11_actRead_87 rfl (lv_at hl 1 rfl) ?_
    refine m_Vv C hw (ctX11_take l D o h cI cZ f (pt (pt g 18 (ix (((12 : Int32) * x1) + (g 14 (ix x1)))) (f 9)) 19 (ix (((12 : Int32) * x1) + (g 14 (ix x1)))) (0 : Int32))  hh) (cwV 0 C.2.2.2.2 (gd_V w_1698 w_1700 w_57 w_125 w_1701) rfl rfl rfl cdX11_take ⟨Nat.le_of_ble_eq_true rfl, Nat.le_of_ble_eq_true rfl⟩) rfl hl.1 (Nat.le_of_ble_eq_true rfl) dX11_actRead_88 ⟨Nat.zero_le _, Nat.zero_le _⟩ (fun u88 H locs hh hw => ?_) rfl
    refine lv_aload_n C.1 C.2.1 dX11_actRead_91 rfl (lv_at hl 1 rfl) ?_
    refine m_ga C hw (inC inW11) 18 (by decide) (wc w_1480) mg_18 dX11_actRead_92 ?_
    refine lv_iload_n C.1 C.2.1 dX11_actRead_95 rfl (lv_at hl 0 rfl) ?_
    obtain ⟨hi96, hh⟩ := hh
    refine m_ial C hw mp_18 (x := u88.2 18 (ix (((12 : Int32) * x1) + (g 14 (ix x1))))) hi96 rfl dX11_actRead_96 ?_
    refine lv_bipush (v := (6 : Int32)) C.1 C.2.1 dX11_actRead_97 (by decide) ?_
    refine lv_icmp_eq (tgt := 124) C.1 C.2.1 dX11_actRead_99 (by decide) (fun c99 => ?_) (fun c99 => ?_)
    · replace hh := hh.1 c99
      exact tX11_actRead_b124 C hR hh hw (lv_sub hl [1, 2, 0] rfl)
    · replace hh := hh.2 c99
      refine lv_aload_n C.1 C.2.1 dX11_actRead_102 rfl (lv_at hl 1 rfl) ?_
      refine m_ga C hw (inC inW11) 18 (by decide) (wc w_1480) mg_18 dX11_actRead_103 ?_
      refine lv_iload_n C.1 C.2.1 dX11_actRead_106 rfl (lv_at hl 0 rfl) ?_
      obtain ⟨hi107, hh⟩ := hh
      refine m_ial C hw mp_18 (x := u88.2 18 (ix (((12 : Int32) * x1) + (g 14 (ix x1))))) hi107 rfl dX11_actRead_107 ?_
      refine lv_bipush (v := (15 : Int32)) C.1 C.2.1 dX11_actRead_108 (by decide) ?_
      refine lv_icmp_eq (tgt := 124) C.1 C.2.1 dX11_actRead_110 (by decide) (fun c110 => ?_) (fun c110 => ?_)
      · replace hh := hh.1 c110
        exact tX11_actRead_b124 C hR hh hw (lv_sub hl [1, 2, 0] rfl)
      · replace hh := hh.2 c110
        refine lv_aload_n C.1 C.2.1 dX11_actRead_113 rfl (lv_at hl 1 rfl) ?_
        refine m_ga C hw (inC inW11) 18 (by decide) (wc w_1480) mg_18 dX11_actRead_114 ?_
        refine lv_iload_n C.1 C.2.1 dX11_actRead_117 rfl (lv_at hl 0 rfl) ?_
        obtain ⟨hi118, hh⟩ := hh
        refine m_ial C hw mp_18 (x := u88.2 18 (ix (((12 : Int32) * x1) + (g 14 (ix x1))))) hi118 rfl dX11_actRead_118 ?_
        refine lv_bipush (v := (16 : Int32)) C.1 C.2.1 dX11_actRead_119 (by decide) ?_
        refine lv_icmp_ne (tgt := 164) C.1 C.2.1 dX11_actRead_121 (by decide) (fun c121 => ?_) (fun c121 => ?_)
        · replace hh := hh.1 c121
          exact tX11_actRead_b164 C hR hh hw (lv_sub hl [1, 2] rfl)
        · replace hh := hh.2 c121
          exact tX11_actRead_b124 C hR hh hw (lv_sub hl [1, 2, 0] rfl)
  · replace hh := hh.2 c49
    refine lv_aload_n C.1 C.2.1 dX11_actRead_52 rfl (lv_at hl 0 rfl) ?_
    refine lv_iconst (v := (2 : Int32)) C.1 C.2.1 dX11_actRead_53 (by decide) ?_
    refine m_Vi C hw (ctX11_wrong l D o h cI cZ f g (2 : Int32) hh) (cwV 1 C.2.2.2.2 (gd_V w_1729 w_1731 w_64 w_125 w_1732) rfl rfl rfl cdX11_wrong ⟨Nat.le_of_ble_eq_true rfl, Nat.le_of_ble_eq_true rfl⟩) rfl hl.1 (Nat.le_of_ble_eq_true rfl) dX11_actRead_54 ⟨Nat.zero_le _, Nat.zero_le _⟩ (fun r54 u54 H locs hh hw => ?_) rfl
    obtain ⟨hb57, hh⟩ := hh
    exact hR _ _ _ (u54.1, u54.2) _ _ dX11_actRead_57 (isB_nar hb57) hh hw
set_option maxHeartbeats 4000000 in
set_option maxRecDepth 100000 in
theorem tX11_actRead_b0 {K : Int32 → ((Nat → Int32) × (Nat → Nat → Int32)) → Prop} (C : CallFix p m c cX11_actRead 3 s args wsX11_actRead RX11) (hR : Rti .boolean p l e rmX11_actRead s m args below meth c cX11_actRead D A (mT cI cZ) (mWu o h cI cZ) K Q) {f : Nat → Int32} {g : Nat → Nat → Int32} {x1 : Int32} (hh : wpX11_actRead_b0 f g x1 K) {H : Heap} {locs : List Loc} {ls : Array Slot} (hw : Wd D A s (mT cI cZ) (mW o h cI cZ f g) H locs) (hl : lv_has ls 3 [(0, .ref o), (1, .int x1)]) : W p l e rmX11_actRead s m args below meth c H locs 0 0 Q (F0 m 0 ls []) := by
  unfold wpX11_actRead_b0 at hh
  refine lv_aload_n C.1 C.2.1 dX11_actRead_0 rfl (lv_at hl 0 rfl) ?_
  refine m_gi C hw (inC inW11) 8 (by decide) (wc w_1470) mg_8 (x := f 8) rfl dX11_actRead_1 ?_
  refine lv_iconst (v := (1 : Int32)) C.1 C.2.1 dX11_actRead_4 (by decide) ?_
  refine lv_icmp_ne (tgt := 35) C.1 C.2.1 dX11_actRead_5 (by decide) (fun c5 => ?_) (fun c5 => ?_)
  · replace hh := hh.1 c5
    exact tX11_actRead_b35 C hR hh hw (lv_sub hl [0] rfl)
  · replace hh := hh.2 c5
    refine lv_aload_n C.1 C.2.1 dX11_actRead_8 rfl (lv_at hl 0 rfl) ?_
    refine m_gi C hw (inC inW11) 9 (by decide) (wc w_1471) mg_9 (x := f 9) rfl dX11_actRead_9 ?_
    refine lv_bipush (v := (6 : Int32)) C.1 C.2.1 dX11_actRead_12 (by decide) ?_
    refine lv_icmp_eq (tgt := 41) C.1 C.2.1 dX11_actRead_14 (by decide) (fun c14 => ?_) (fun c14 => ?_)
    · replace hh := hh.1 c14
      exact tX11_actRead_b41 C hR hh hw hl
    · replace hh := hh.2 c14
      refine lv_aload_n C.1 C.2.1 dX11_actRead_17 rfl (lv_at hl 0 rfl) ?_
      refine m_gi C hw (inC inW11) 9 (by decide) (wc w_1471) mg_9 (x := f 9) rfl dX11_actRead_18 ?_
      refine lv_bipush (v := (9 : Int32)) C.1 C.2.1 dX11_actRead_21 (by decide) ?_
      refine lv_icmp_lt (tgt := 35) C.1 C.2.1 dX11_actRead_23 (by decide) (fun c23 => ?_) (fun c23 => ?_)
      · replace hh := hh.1 c23
        exact tX11_actRead_b35 C hR hh hw (lv_sub hl [0] rfl)
      · replace hh := hh.2 c23
        refine lv_aload_n C.1 C.2.1 dX11_actRead_26 rfl (lv_at hl 0 rfl) ?_
        refine m_gi C hw (inC inW11) 9 (by decide) (wc w_1471) mg_9 (x := f 9) rfl dX11_actRead_27 ?_
        refine lv_bipush (v := (19 : Int32)) C.1 C.2.1 dX11_actRead_30 (by decide) ?_
        refine lv_icmp_le (tgt := 41) C.1 C.2.1 dX11_actRead_32 (by decide) (fun c32 => ?_) (fun c32 => ?_)
        · replace hh := hh.1 c32
          exact tX11_actRead_b41 C hR hh hw hl
        · replace hh := hh.2 c32
          exact tX11_actRead_b35 C hR hh hw (lv_sub hl [0] rfl)
theorem ctX11_actRead (l : Launch) (D : va_G) (o : Nat) (h : Nat → Nat) (cI cZ : ClassId) (f : Nat → Int32) (g : Nat → Nat → Int32) (x1 : Int32) {K : Int32 → ((Nat → Int32) × (Nat → Nat → Int32)) → Prop} (hh : wpX11_actRead f g x1 K) : Ci l yX11_actRead wsX11_actRead rmX11_actRead [.ref o, .int x1] D (mT cI cZ) (mWu o h cI cZ) (f, g) K := by
  refine Ci_of (cc := cX11_actRead) (maxL := 3) (by decide) rfl (Nat.le_of_ble_eq_true rfl) ?_
  intro p e s m below meth c A Q C hw hR ls hl
  exact tX11_actRead_b0 C hR hh hw hl
theorem cdX11_actRead : yX11_actRead.cls = RX11 ∧ yX11_actRead.cls ≠ "java/lang/invoke/MethodHandle" ∧ yX11_actRead.cls ≠ "java/lang/invoke/VarHandle" ∧ (parseMethodDescriptor yX11_actRead.desc).map (fun d => d.parameters.length) = some 1 := by decide +kernel
abbrev rmX11_lineRead : Room := { frames := 3, cells := 0, slots := 0, locals := 74 }
set_option maxHeartbeats 4000000 in
set_option maxRecDepth 100000 in
theorem tX11_lineRead_b87_body {B87 : (Nat → Int32) → (Nat → Nat → Int32) → Int32 → Prop} {K : Int32 → ((Nat → Int32) × (Nat → Nat → Int32)) → Prop} (C : CallFix p m c cX11_lineRead 3 s args wsX11_lineRead RX11) (hR : Rti .boolean p l e rmX11_lineRead s m args below meth c cX11_lineRead D A (mT cI cZ) (mWu o h cI cZ) K Q) (hB87 : ∀ (f : Nat → Int32) (g : Nat → Nat → Int32) (x2 : Int32) (H : Heap) (locs : List Loc) (ls : Array Slot), B87 f g x2 → Wd D A s (mT cI cZ) (mW o h cI cZ f g) H locs → lv_has ls 3 [(0, .ref o), (2, .int x2)] → W p l e rmX11_lineRead s m args below meth c H locs 0 0 Q (F0 m 87 ls [])) {f : Nat → Int32} {g : Nat → Nat → Int32} {x2 : Int32} (hh : wpX11_lineRead_b87_body B87 f g x2 K) {H : Heap} {locs : List Loc} {ls : Array Slot} (hw : Wd D A s (mT cI cZ) (mW o h cI cZ f g) H locs) (hl : lv_has ls 3 [(0, .ref o), (2, .int x2)]) : W p l e rmX11_lineRead s m args below meth c H locs 0 0 Q (F0 m 87 ls []) := by
  unfold wpX11_lineRead_b87_body at hh
  refine lv_aload_n C.1 C.2.1 dX11_lineRead_87 rfl (lv_at hl 0 rfl) ?_
  refine lv_iload_n C.1 C.2.1 dX11_lineRead_88 rfl (lv_at hl 1 rfl) ?_
  refine m_Vi C hw (ctX11_actRead l D o h cI cZ f g x2 hh) (cwV 1 C.2.2.2.2 (gd_V w_1741 w_1743 w_67 w_125 w_1744) rfl rfl rfl cdX11_actRead ⟨Nat.le_of_ble_eq_true rfl, Nat.le_of_ble_eq_true rfl⟩) rfl hl.1 (Nat.le_of_ble_eq_true rfl) dX11_lineRead_89 ⟨Nat.zero_le _, Nat.zero_le _⟩ (fun r89 u89 H locs hh hw => ?_) rfl
  refine lv_if_ne (tgt := 97) C.1 C.2.1 dX11_lineRead_92 (by decide) (fun c92 => ?_) (fun c92 => ?_)
  · replace hh := hh.1 c92
    refine lv_aload_n C.1 C.2.1 dX11_lineRead_97 rfl (lv_at hl 0 rfl) ?_
    refine lv_bipush (v := (59 : Int32)) C.1 C.2.1 dX11_lineRead_98 (by decide) ?_
    refine m_Vi C hw (ctX11_isSign l D o h cI cZ u89.1 u89.2 (59 : Int32) hh) (cwV 1 C.2.2.2.2 (gd_V w_1745 w_1747 w_68 w_125 w_1748) rfl rfl rfl cdX11_isSign ⟨Nat.le_of_ble_eq_true rfl, Nat.le_of_ble_eq_true rfl⟩) rfl hl.1 (Nat.le_of_ble_eq_true rfl) dX11_lineRead_100 ⟨Nat.zero_le _, Nat.zero_le _⟩ (fun r100 u100 H locs hh hw => ?_) rfl
    refine lv_if_eq (tgt := 87) C.1 C.2.1 dX11_lineRead_103 (by decide) (fun c103 => ?_) (fun c103 => ?_)
    · replace hh := hh.1 c103
      exact hB87 _ _ _ _ _ _ hh hw hl
    · replace hh := hh.2 c103
      refine lv_aload_n C.1 C.2.1 dX11_lineRead_106 rfl (lv_at hl 0 rfl) ?_
      refine m_Vv C hw (ctX11_take l D o h cI cZ u100.1 u100.2  hh) (cwV 0 C.2.2.2.2 (gd_V w_1698 w_1700 w_57 w_125 w_1701) rfl rfl rfl cdX11_take ⟨Nat.le_of_ble_eq_true rfl, Nat.le_of_ble_eq_true rfl⟩) rfl hl.1 (Nat.le_of_ble_eq_true rfl) dX11_lineRead_107 ⟨Nat.zero_le _, Nat.zero_le _⟩ (fun u107 H locs hh hw => ?_) rfl
      refine lv_iconst (v := (1 : Int32)) C.1 C.2.1 dX11_lineRead_110 (by decide) ?_
      exact hR _ _ _ (u107.1, u107.2) _ _ dX11_lineRead_111 rfl hh hw
  · replace hh := hh.2 c92
    refine lv_iconst (v := (0 : Int32)) C.1 C.2.1 dX11_lineRead_95 (by decide) ?_
    exact hR _ _ _ (u89.1, u89.2) _ _ dX11_lineRead_96 rfl hh hw
theorem tX11_lineRead_b87 {K : Int32 → ((Nat → Int32) × (Nat → Nat → Int32)) → Prop} (C : CallFix p m c cX11_lineRead 3 s args wsX11_lineRead RX11) (hR : Rti .boolean p l e rmX11_lineRead s m args below meth c cX11_lineRead D A (mT cI cZ) (mWu o h cI cZ) K Q) (n : Nat) : ∀ (f : Nat → Int32) (g : Nat → Nat → Int32) (x2 : Int32) (H : Heap) (locs : List Loc) (ls : Array Slot), wpX11_lineRead_b87 n f g x2 K → Wd D A s (mT cI cZ) (mW o h cI cZ f g) H locs → lv_has ls 3 [(0, .ref o), (2, .int x2)] → W p l e rmX11_lineRead s m args below meth c H locs 0 0 Q (F0 m 87 ls []) := by
  induction n with
  | zero => intro f g x2 H locs ls hh; exact hh.elim
  | succ n ih => intro f g x2 H locs ls hh hw hl; exact tX11_lineRead_b87_body C hR ih hh hw hl
set_option maxHeartbeats 4000000 in
set_option maxRecDepth 100000 in
theorem tX11_lineRead_b83 {K : Int32 → ((Nat → Int32) × (Nat → Nat → Int32)) → Prop} (C : CallFix p m c cX11_lineRead 3 s args wsX11_lineRead RX11) (hR : Rti .boolean p l e rmX11_lineRead s m args below meth c cX11_lineRead D A (mT cI cZ) (mWu o h cI cZ) K Q) {f : Nat → Int32} {g : Nat → Nat → Int32} {x2 : Int32} (hh : wpX11_lineRead_b83 f g x2 K) {H : Heap} {locs : List Loc} {ls : Array Slot} (hw : Wd D A s (mT cI cZ) (mW o h cI cZ f g) H locs) (hl : lv_has ls 3 [(0, .ref o), (2, .int x2)]) : W p l e rmX11_lineRead s m args below meth c H locs 0 0 Q (F0 m 83 ls []) := by
  unfold wpX11_lineRead_b83 at hh
  refine lv_aload_n C.1 C.2.1 dX11_lineRead_83 rfl (lv_at hl 0 rfl) ?_
  refine m_Vv C hw (ctX11_take l D o h cI cZ f g  hh) (cwV 0 C.2.2.2.2 (gd_V w_1698 w_1700 w_57 w_125 w_1701) rfl rfl rfl cdX11_take ⟨Nat.le_of_ble_eq_true rfl, Nat.le_of_ble_eq_true rfl⟩) rfl hl.1 (Nat.le_of_ble_eq_true rfl) dX11_lineRead_84 ⟨Nat.zero_le _, Nat.zero_le _⟩ (fun u84 H locs hh hw => ?_) rfl
  obtain ⟨n, hh⟩ := hh
  exact tX11_lineRead_b87 C hR n _ _ _ _ _ _ hh hw hl
set_option maxHeartbeats 4000000 in
set_option maxRecDepth 100000 in
theorem tX11_lineRead_b65_body {B65 : (Nat → Int32) → (Nat → Nat → Int32) → Int32 → Prop} {K : Int32 → ((Nat → Int32) × (Nat → Nat → Int32)) → Prop} (C : CallFix p m c cX11_lineRead 3 s args wsX11_lineRead RX11) (hR : Rti .boolean p l e rmX11_lineRead s m args below meth c cX11_lineRead D A (mT cI cZ) (mWu o h cI cZ) K Q) (hB65 : ∀ (f : Nat → Int32) (g : Nat → Nat → Int32) (x2 : Int32) (H : Heap) (locs : List Loc) (ls : Array Slot), B65 f g x2 → Wd D A s (mT cI cZ) (mW o h cI cZ f g) H locs → lv_has ls 3 [(0, .ref o), (2, .int x2)] → W p l e rmX11_lineRead s m args below meth c H locs 0 0 Q (F0 m 65 ls [])) {f : Nat → Int32} {g : Nat → Nat → Int32} {x2 : Int32} (hh : wpX11_lineRead_b65_body B65 f g x2 K) {H : Heap} {locs : List Loc} {ls : Array Slot} (hw : Wd D A s (mT cI cZ) (mW o h cI cZ f g) H locs) (hl : lv_has ls 3 [(0, .ref o), (2, .int x2)]) : W p l e rmX11_lineRead s m args below meth c H locs 0 0 Q (F0 m 65 ls []) := by
  unfold wpX11_lineRead_b65_body at hh
  refine lv_aload_n C.1 C.2.1 dX11_lineRead_65 rfl (lv_at hl 0 rfl) ?_
  refine lv_iload_n C.1 C.2.1 dX11_lineRead_66 rfl (lv_at hl 1 rfl) ?_
  refine m_Vi C hw (ctX11_testRead l D o h cI cZ f g x2 hh) (cwV 1 C.2.2.2.2 (gd_V w_1733 w_1735 w_65 w_125 w_1736) rfl rfl rfl cdX11_testRead ⟨Nat.le_of_ble_eq_true rfl, Nat.le_of_ble_eq_true rfl⟩) rfl hl.1 (Nat.le_of_ble_eq_true rfl) dX11_lineRead_67 ⟨Nat.zero_le _, Nat.zero_le _⟩ (fun r67 u67 H locs hh hw => ?_) rfl
  refine lv_if_ne (tgt := 75) C.1 C.2.1 dX11_lineRead_70 (by decide) (fun c70 => ?_) (fun c70 => ?_)
  · replace hh := hh.1 c70
    refine lv_aload_n C.1 C.2.1 dX11_lineRead_75 rfl (lv_at hl 0 rfl) ?_
    refine lv_iconst (v := (1 : Int32)) C.1 C.2.1 dX11_lineRead_76 (by decide) ?_
    refine m_Vi C hw (ctX11_isKey l D o h cI cZ u67.1 u67.2 (1 : Int32) hh) (cwV 1 C.2.2.2.2 (gd_V w_1725 w_1727 w_63 w_125 w_1728) rfl rfl rfl cdX11_isKey ⟨Nat.le_of_ble_eq_true rfl, Nat.le_of_ble_eq_true rfl⟩) rfl hl.1 (Nat.le_of_ble_eq_true rfl) dX11_lineRead_77 ⟨Nat.zero_le _, Nat.zero_le _⟩ (fun r77 u77 H locs hh hw => ?_) rfl
    refine lv_if_eq (tgt := 65) C.1 C.2.1 dX11_lineRead_80 (by decide) (fun c80 => ?_) (fun c80 => ?_)
    · replace hh := hh.1 c80
      exact hB65 _ _ _ _ _ _ hh hw hl
    · replace hh := hh.2 c80
      exact tX11_lineRead_b83 C hR hh hw hl
  · replace hh := hh.2 c70
    refine lv_iconst (v := (0 : Int32)) C.1 C.2.1 dX11_lineRead_73 (by decide) ?_
    exact hR _ _ _ (u67.1, u67.2) _ _ dX11_lineRead_74 rfl hh hw
theorem tX11_lineRead_b65 {K : Int32 → ((Nat → Int32) × (Nat → Nat → Int32)) → Prop} (C : CallFix p m c cX11_lineRead 3 s args wsX11_lineRead RX11) (hR : Rti .boolean p l e rmX11_lineRead s m args below meth c cX11_lineRead D A (mT cI cZ) (mWu o h cI cZ) K Q) (n : Nat) : ∀ (f : Nat → Int32) (g : Nat → Nat → Int32) (x2 : Int32) (H : Heap) (locs : List Loc) (ls : Array Slot), wpX11_lineRead_b65 n f g x2 K → Wd D A s (mT cI cZ) (mW o h cI cZ f g) H locs → lv_has ls 3 [(0, .ref o), (2, .int x2)] → W p l e rmX11_lineRead s m args below meth c H locs 0 0 Q (F0 m 65 ls []) := by
  induction n with
  | zero => intro f g x2 H locs ls hh; exact hh.elim
  | succ n ih => intro f g x2 H locs ls hh hw hl; exact tX11_lineRead_b65_body C hR ih hh hw hl
set_option maxHeartbeats 4000000 in
set_option maxRecDepth 100000 in
theorem tX11_lineRead_b22 {K : Int32 → ((Nat → Int32) × (Nat → Nat → Int32)) → Prop} (C : CallFix p m c cX11_lineRead 3 s args wsX11_lineRead RX11) (hR : Rti .boolean p l e rmX11_lineRead s m args below meth c cX11_lineRead D A (mT cI cZ) (mWu o h cI cZ) K Q) {f : Nat → Int32} {g : Nat → Nat → Int32} {x1 : Int32} (hh : wpX11_lineRead_b22 f g x1 K) {H : Heap} {locs : List Loc} {ls : Array Slot} (hw : Wd D A s (mT cI cZ) (mW o h cI cZ f g) H locs) (hl : lv_has ls 3 [(0, .ref o), (1, .int x1)]) : W p l e rmX11_lineRead s m args below meth c H locs 0 0 Q (F0 m 22 ls []) := by
  unfold wpX11_lineRead_b22 at hh
  refine lv_iload_n C.1 C.2.1 dX11_lineRead_22 rfl (lv_at hl 1 rfl) ?_
  refine lv_bipush (v := (30 : Int32)) C.1 C.2.1 dX11_lineRead_23 (by decide) ?_
  refine lv_icmp_ne (tgt := 34) C.1 C.2.1 dX11_lineRead_25 (by decide) (fun c25 => ?_) (fun c25 => ?_)
  · replace hh := hh.1 c25
    refine lv_bipush (v := (30 : Int32)) C.1 C.2.1 dX11_lineRead_34 (by decide) ?_
    refine lv_iload_n C.1 C.2.1 dX11_lineRead_36 rfl (lv_at hl 1 rfl) ?_
    refine lv_iadd C.1 C.2.1 dX11_lineRead_37 ?_
    refine lv_istore_n (lv' := [(2, .int ((30 : Int32) + x1)), (0, .ref o), (1, .int x1)]) C.1 C.2.1 dX11_lineRead_38 rfl hl (by decide) rfl (fun ls hl => ?_)
    refine lv_aload_n C.1 C.2.1 dX11_lineRead_39 rfl (lv_at hl 1 rfl) ?_
    refine m_ga C hw (inC inW11) 13 (by decide) (wc w_1475) mg_13 dX11_lineRead_40 ?_
    refine lv_iload_n C.1 C.2.1 dX11_lineRead_43 rfl (lv_at hl 0 rfl) ?_
    refine lv_iconst (v := (0 : Int32)) C.1 C.2.1 dX11_lineRead_44 (by decide) ?_
    obtain ⟨hi45, hh⟩ := hh
    refine m_ias C hw mp_13 mq_13 hi45 dX11_lineRead_45 (fun H locs hw => ?_)
    refine lv_aload_n C.1 C.2.1 dX11_lineRead_46 rfl (lv_at hl 1 rfl) ?_
    refine m_ga C hw (inC inW11) 14 (by decide) (wc w_1476) mg_14 dX11_lineRead_47 ?_
    refine lv_iload_n C.1 C.2.1 dX11_lineRead_50 rfl (lv_at hl 0 rfl) ?_
    refine lv_iconst (v := (0 : Int32)) C.1 C.2.1 dX11_lineRead_51 (by decide) ?_
    obtain ⟨hi52, hh⟩ := hh
    refine m_ias C hw mp_14 mq_14 hi52 dX11_lineRead_52 (fun H locs hw => ?_)
    refine lv_aload_n C.1 C.2.1 dX11_lineRead_53 rfl (lv_at hl 1 rfl) ?_
    refine lv_iconst (v := (0 : Int32)) C.1 C.2.1 dX11_lineRead_54 (by decide) ?_
    refine m_Vi C hw (ctX11_isKey l D o h cI cZ f (pt (pt g 13 (ix ((30 : Int32) + x1)) (0 : Int32)) 14 (ix ((30 : Int32) + x1)) (0 : Int32)) (0 : Int32) hh) (cwV 1 C.2.2.2.2 (gd_V w_1725 w_1727 w_63 w_125 w_1728) rfl rfl rfl cdX11_isKey ⟨Nat.le_of_ble_eq_true rfl, Nat.le_of_ble_eq_true rfl⟩) rfl hl.1 (Nat.le_of_ble_eq_true rfl) dX11_lineRead_55 ⟨Nat.zero_le _, Nat.zero_le _⟩ (fun r55 u55 H locs hh hw => ?_) rfl
    refine lv_if_eq (tgt := 83) C.1 C.2.1 dX11_lineRead_58 (by decide) (fun c58 => ?_) (fun c58 => ?_)
    · replace hh := hh.1 c58
      exact tX11_lineRead_b83 C hR hh hw (lv_sub hl [1, 0] rfl)
    · replace hh := hh.2 c58
      refine lv_aload_n C.1 C.2.1 dX11_lineRead_61 rfl (lv_at hl 1 rfl) ?_
      refine m_Vv C hw (ctX11_take l D o h cI cZ u55.1 u55.2  hh) (cwV 0 C.2.2.2.2 (gd_V w_1698 w_1700 w_57 w_125 w_1701) rfl rfl rfl cdX11_take ⟨Nat.le_of_ble_eq_true rfl, Nat.le_of_ble_eq_true rfl⟩) rfl hl.1 (Nat.le_of_ble_eq_true rfl) dX11_lineRead_62 ⟨Nat.zero_le _, Nat.zero_le _⟩ (fun u62 H locs hh hw => ?_) rfl
      obtain ⟨n, hh⟩ := hh
      exact tX11_lineRead_b65 C hR n _ _ _ _ _ _ hh hw (lv_sub hl [1, 0] rfl)
  · replace hh := hh.2 c25
    refine lv_aload_n C.1 C.2.1 dX11_lineRead_28 rfl (lv_at hl 0 rfl) ?_
    refine lv_iconst (v := (2 : Int32)) C.1 C.2.1 dX11_lineRead_29 (by decide) ?_
    refine m_Vi C hw (ctX11_wrong l D o h cI cZ f g (2 : Int32) hh) (cwV 1 C.2.2.2.2 (gd_V w_1729 w_1731 w_64 w_125 w_1732) rfl rfl rfl cdX11_wrong ⟨Nat.le_of_ble_eq_true rfl, Nat.le_of_ble_eq_true rfl⟩) rfl hl.1 (Nat.le_of_ble_eq_true rfl) dX11_lineRead_30 ⟨Nat.zero_le _, Nat.zero_le _⟩ (fun r30 u30 H locs hh hw => ?_) rfl
    obtain ⟨hb33, hh⟩ := hh
    exact hR _ _ _ (u30.1, u30.2) _ _ dX11_lineRead_33 (isB_nar hb33) hh hw
set_option maxHeartbeats 4000000 in
set_option maxRecDepth 100000 in
theorem tX11_lineRead_b0 {K : Int32 → ((Nat → Int32) × (Nat → Nat → Int32)) → Prop} (C : CallFix p m c cX11_lineRead 3 s args wsX11_lineRead RX11) (hR : Rti .boolean p l e rmX11_lineRead s m args below meth c cX11_lineRead D A (mT cI cZ) (mWu o h cI cZ) K Q) {f : Nat → Int32} {g : Nat → Nat → Int32} {x1 : Int32} (hh : wpX11_lineRead_b0 f g x1 K) {H : Heap} {locs : List Loc} {ls : Array Slot} (hw : Wd D A s (mT cI cZ) (mW o h cI cZ f g) H locs) (hl : lv_has ls 3 [(0, .ref o), (1, .int x1)]) : W p l e rmX11_lineRead s m args below meth c H locs 0 0 Q (F0 m 0 ls []) := by
  unfold wpX11_lineRead_b0 at hh
  refine lv_aload_n C.1 C.2.1 dX11_lineRead_0 rfl (lv_at hl 0 rfl) ?_
  refine lv_iconst (v := (0 : Int32)) C.1 C.2.1 dX11_lineRead_1 (by decide) ?_
  refine m_Vi C hw (ctX11_isKey l D o h cI cZ f g (0 : Int32) hh) (cwV 1 C.2.2.2.2 (gd_V w_1725 w_1727 w_63 w_125 w_1728) rfl rfl rfl cdX11_isKey ⟨Nat.le_of_ble_eq_true rfl, Nat.le_of_ble_eq_true rfl⟩) rfl hl.1 (Nat.le_of_ble_eq_true rfl) dX11_lineRead_2 ⟨Nat.zero_le _, Nat.zero_le _⟩ (fun r2 u2 H locs hh hw => ?_) rfl
  refine lv_if_ne (tgt := 22) C.1 C.2.1 dX11_lineRead_5 (by decide) (fun c5 => ?_) (fun c5 => ?_)
  · replace hh := hh.1 c5
    exact tX11_lineRead_b22 C hR hh hw hl
  · replace hh := hh.2 c5
    refine lv_aload_n C.1 C.2.1 dX11_lineRead_8 rfl (lv_at hl 0 rfl) ?_
    refine lv_iconst (v := (1 : Int32)) C.1 C.2.1 dX11_lineRead_9 (by decide) ?_
    refine m_Vi C hw (ctX11_isKey l D o h cI cZ u2.1 u2.2 (1 : Int32) hh) (cwV 1 C.2.2.2.2 (gd_V w_1725 w_1727 w_63 w_125 w_1728) rfl rfl rfl cdX11_isKey ⟨Nat.le_of_ble_eq_true rfl, Nat.le_of_ble_eq_true rfl⟩) rfl hl.1 (Nat.le_of_ble_eq_true rfl) dX11_lineRead_10 ⟨Nat.zero_le _, Nat.zero_le _⟩ (fun r10 u10 H locs hh hw => ?_) rfl
    refine lv_if_ne (tgt := 22) C.1 C.2.1 dX11_lineRead_13 (by decide) (fun c13 => ?_) (fun c13 => ?_)
    · replace hh := hh.1 c13
      exact tX11_lineRead_b22 C hR hh hw hl
    · replace hh := hh.2 c13
      refine lv_aload_n C.1 C.2.1 dX11_lineRead_16 rfl (lv_at hl 0 rfl) ?_
      refine lv_iconst (v := (1 : Int32)) C.1 C.2.1 dX11_lineRead_17 (by decide) ?_
      refine m_Vi C hw (ctX11_wrong l D o h cI cZ u10.1 u10.2 (1 : Int32) hh) (cwV 1 C.2.2.2.2 (gd_V w_1729 w_1731 w_64 w_125 w_1732) rfl rfl rfl cdX11_wrong ⟨Nat.le_of_ble_eq_true rfl, Nat.le_of_ble_eq_true rfl⟩) rfl hl.1 (Nat.le_of_ble_eq_true rfl) dX11_lineRead_18 ⟨Nat.zero_le _, Nat.zero_le _⟩ (fun r18 u18 H locs hh hw => ?_) rfl
      obtain ⟨hb21, hh⟩ := hh
      exact hR _ _ _ (u18.1, u18.2) _ _ dX11_lineRead_21 (isB_nar hb21) hh hw
theorem ctX11_lineRead (l : Launch) (D : va_G) (o : Nat) (h : Nat → Nat) (cI cZ : ClassId) (f : Nat → Int32) (g : Nat → Nat → Int32) (x1 : Int32) {K : Int32 → ((Nat → Int32) × (Nat → Nat → Int32)) → Prop} (hh : wpX11_lineRead f g x1 K) : Ci l yX11_lineRead wsX11_lineRead rmX11_lineRead [.ref o, .int x1] D (mT cI cZ) (mWu o h cI cZ) (f, g) K := by
  refine Ci_of (cc := cX11_lineRead) (maxL := 3) (by decide) rfl (Nat.le_of_ble_eq_true rfl) ?_
  intro p e s m below meth c A Q C hw hR ls hl
  exact tX11_lineRead_b0 C hR hh hw hl
theorem cdX11_lineRead : yX11_lineRead.cls = RX11 ∧ yX11_lineRead.cls ≠ "java/lang/invoke/MethodHandle" ∧ yX11_lineRead.cls ≠ "java/lang/invoke/VarHandle" ∧ (parseMethodDescriptor yX11_lineRead.desc).map (fun d => d.parameters.length) = some 1 := by decide +kernel
abbrev rmX11_rules : Room := { frames := 4, cells := 0, slots := 0, locals := 96 }
set_option maxHeartbeats 4000000 in
set_option maxRecDepth 100000 in
theorem tX11_rules_b199_body {B199 : (Nat → Int32) → (Nat → Nat → Int32) → Int32 → Prop} {K : Int32 → ((Nat → Int32) × (Nat → Nat → Int32)) → Prop} (C : CallFix p m c cX11_rules 4 s args wsX11_rules RX11) (hR : Rti .int p l e rmX11_rules s m args below meth c cX11_rules D A (mT cI cZ) (mWu o h cI cZ) K Q) (hB199 : ∀ (f : Nat → Int32) (g : Nat → Nat → Int32) (x3 : Int32) (H : Heap) (locs : List Loc) (ls : Array Slot), B199 f g x3 → Wd D A s (mT cI cZ) (mW o h cI cZ f g) H locs → lv_has ls 4 [(0, .ref o), (3, .int x3)] → W p l e rmX11_rules s m args below meth c H locs 0 0 Q (F0 m 199 ls [])) {f : Nat → Int32} {g : Nat → Nat → Int32} {x3 : Int32} (hh : wpX11_rules_b199_body B199 f g x3 K) {H : Heap} {locs : List Loc} {ls : Array Slot} (hw : Wd D A s (mT cI cZ) (mW o h cI cZ f g) H locs) (hl : lv_has ls 4 [(0, .ref o), (3, .int x3)]) : W p l e rmX11_rules s m args below meth c H locs 0 0 Q (F0 m 199 ls []) := by
  unfold wpX11_rules_b199_body at hh
  refine lv_iload_n C.1 C.2.1 dX11_rules_199 rfl (lv_at hl 1 rfl) ?_
  refine lv_bipush (v := (16 : Int32)) C.1 C.2.1 dX11_rules_200 (by decide) ?_
  refine lv_icmp_ge (tgt := 218) C.1 C.2.1 dX11_rules_202 (by decide) (fun c202 => ?_) (fun c202 => ?_)
  · replace hh := hh.1 c202
    refine lv_aload_n C.1 C.2.1 dX11_rules_218 rfl (lv_at hl 0 rfl) ?_
    refine m_gi C hw (inC inW11) 12 (by decide) (wc w_1474) mg_12 (x := f 12) rfl dX11_rules_219 ?_
    exact hR _ _ _ (f, g) _ _ dX11_rules_222 rfl hh hw
  · replace hh := hh.2 c202
    refine lv_aload_n C.1 C.2.1 dX11_rules_205 rfl (lv_at hl 0 rfl) ?_
    refine m_ga C hw (inC inW11) 58 (by decide) (wc w_1520) mg_58 dX11_rules_206 ?_
    refine lv_iload_n C.1 C.2.1 dX11_rules_209 rfl (lv_at hl 1 rfl) ?_
    refine lv_iconst (v := (0 : Int32)) C.1 C.2.1 dX11_rules_210 (by decide) ?_
    obtain ⟨hi211, hh⟩ := hh
    refine m_zas C hw mp_58 mq_58 hi211 dX11_rules_211 (fun H locs hw => ?_)
    refine lv_iinc (v := x3 + (1 : Int32)) (lv' := [(3, .int (x3 + (1 : Int32))), (0, .ref o)]) C.1 C.2.1 dX11_rules_212 hl (k := 1) rfl rfl (by decide) rfl (fun ls hl => ?_)
    refine lv_goto (tgt := 199) C.1 C.2.1 dX11_rules_215 (by decide) ?_
    exact hB199 _ _ _ _ _ _ hh hw (lv_sub hl [1, 0] rfl)
theorem tX11_rules_b199 {K : Int32 → ((Nat → Int32) × (Nat → Nat → Int32)) → Prop} (C : CallFix p m c cX11_rules 4 s args wsX11_rules RX11) (hR : Rti .int p l e rmX11_rules s m args below meth c cX11_rules D A (mT cI cZ) (mWu o h cI cZ) K Q) (n : Nat) : ∀ (f : Nat → Int32) (g : Nat → Nat → Int32) (x3 : Int32) (H : Heap) (locs : List Loc) (ls : Array Slot), wpX11_rules_b199 n f g x3 K → Wd D A s (mT cI cZ) (mW o h cI cZ f g) H locs → lv_has ls 4 [(0, .ref o), (3, .int x3)] → W p l e rmX11_rules s m args below meth c H locs 0 0 Q (F0 m 199 ls []) := by
  induction n with
  | zero => intro f g x3 H locs ls hh; exact hh.elim
  | succ n ih => intro f g x3 H locs ls hh hw hl; exact tX11_rules_b199_body C hR ih hh hw hl
set_option maxHeartbeats 4000000 in
set_option maxRecDepth 100000 in
theorem tX11_rules_b95_body {B95 : (Nat → Int32) → (Nat → Nat → Int32) → Int32 → Prop} {K : Int32 → ((Nat → Int32) × (Nat → Nat → Int32)) → Prop} (C : CallFix p m c cX11_rules 4 s args wsX11_rules RX11) (hR : Rti .int p l e rmX11_rules s m args below meth c cX11_rules D A (mT cI cZ) (mWu o h cI cZ) K Q) (hB95 : ∀ (f : Nat → Int32) (g : Nat → Nat → Int32) (x3 : Int32) (H : Heap) (locs : List Loc) (ls : Array Slot), B95 f g x3 → Wd D A s (mT cI cZ) (mW o h cI cZ f g) H locs → lv_has ls 4 [(0, .ref o), (3, .int x3)] → W p l e rmX11_rules s m args below meth c H locs 0 0 Q (F0 m 95 ls [])) {f : Nat → Int32} {g : Nat → Nat → Int32} {x3 : Int32} (hh : wpX11_rules_b95_body B95 f g x3 K) {H : Heap} {locs : List Loc} {ls : Array Slot} (hw : Wd D A s (mT cI cZ) (mW o h cI cZ f g) H locs) (hl : lv_has ls 4 [(0, .ref o), (3, .int x3)]) : W p l e rmX11_rules s m args below meth c H locs 0 0 Q (F0 m 95 ls []) := by
  unfold wpX11_rules_b95_body at hh
  refine lv_iload_n C.1 C.2.1 dX11_rules_95 rfl (lv_at hl 1 rfl) ?_
  refine lv_bipush (v := (12 : Int32)) C.1 C.2.1 dX11_rules_96 (by decide) ?_
  refine lv_aload_n C.1 C.2.1 dX11_rules_98 rfl (lv_at hl 0 rfl) ?_
  refine m_gi C hw (inC inW11) 12 (by decide) (wc w_1474) mg_12 (x := f 12) rfl dX11_rules_99 ?_
  refine lv_imul C.1 C.2.1 dX11_rules_102 ?_
  refine lv_icmp_ge (tgt := 192) C.1 C.2.1 dX11_rules_103 (by decide) (fun c103 => ?_) (fun c103 => ?_)
  · replace hh := hh.1 c103
    refine lv_aload_n C.1 C.2.1 dX11_rules_192 rfl (lv_at hl 0 rfl) ?_
    refine lv_iconst (v := (-1 : Int32)) C.1 C.2.1 dX11_rules_193 (by decide) ?_
    refine m_pi C hw (inC inW11) 51 (by decide) (wc w_1513) rfl (ty := .int) (by decide +kernel) rfl rfl (Nat.le_of_ble_eq_true rfl) ms_51 dX11_rules_194 (fun H locs hw => ?_)
    refine lv_iconst (v := (0 : Int32)) C.1 C.2.1 dX11_rules_197 (by decide) ?_
    refine lv_istore_n (lv' := [(3, .int (0 : Int32)), (0, .ref o)]) C.1 C.2.1 dX11_rules_198 rfl hl (by decide) rfl (fun ls hl => ?_)
    obtain ⟨n, hh⟩ := hh
    exact tX11_rules_b199 C hR n _ _ _ _ _ _ hh hw (lv_sub hl [1, 0] rfl)
  · replace hh := hh.2 c103
    refine lv_aload_n C.1 C.2.1 dX11_rules_106 rfl (lv_at hl 0 rfl) ?_
    refine m_ga C hw (inC inW11) 15 (by decide) (wc w_1477) mg_15 dX11_rules_107 ?_
    refine lv_iload_n C.1 C.2.1 dX11_rules_110 rfl (lv_at hl 1 rfl) ?_
    refine lv_aload_n C.1 C.2.1 dX11_rules_111 rfl (lv_at hl 0 rfl) ?_
    refine m_ga C hw (inC inW11) 15 (by decide) (wc w_1477) mg_15 dX11_rules_112 ?_
    refine lv_sipush (v := (360 : Int32)) C.1 C.2.1 dX11_rules_115 (by decide) ?_
    refine lv_iload_n C.1 C.2.1 dX11_rules_118 rfl (lv_at hl 1 rfl) ?_
    refine lv_iadd C.1 C.2.1 dX11_rules_119 ?_
    obtain ⟨hi120, hh⟩ := hh
    refine m_ial C hw mp_15 (x := g 15 (ix ((360 : Int32) + x3))) hi120 rfl dX11_rules_120 ?_
    obtain ⟨hi121, hh⟩ := hh
    refine m_ias C hw mp_15 mq_15 hi121 dX11_rules_121 (fun H locs hw => ?_)
    refine lv_aload_n C.1 C.2.1 dX11_rules_122 rfl (lv_at hl 0 rfl) ?_
    refine m_ga C hw (inC inW11) 16 (by decide) (wc w_1478) mg_16 dX11_rules_123 ?_
    refine lv_iload_n C.1 C.2.1 dX11_rules_126 rfl (lv_at hl 1 rfl) ?_
    refine lv_aload_n C.1 C.2.1 dX11_rules_127 rfl (lv_at hl 0 rfl) ?_
    refine m_ga C hw (inC inW11) 16 (by decide) (wc w_1478) mg_16 dX11_rules_128 ?_
    refine lv_sipush (v := (360 : Int32)) C.1 C.2.1 dX11_rules_131 (by decide) ?_
    refine lv_iload_n C.1 C.2.1 dX11_rules_134 rfl (lv_at hl 1 rfl) ?_
    refine lv_iadd C.1 C.2.1 dX11_rules_135 ?_
    obtain ⟨hi136, hh⟩ := hh
    refine m_ial C hw mp_16 (x := g 16 (ix ((360 : Int32) + x3))) hi136 rfl dX11_rules_136 ?_
    obtain ⟨hi137, hh⟩ := hh
    refine m_ias C hw mp_16 mq_16 hi137 dX11_rules_137 (fun H locs hw => ?_)
    refine lv_aload_n C.1 C.2.1 dX11_rules_138 rfl (lv_at hl 0 rfl) ?_
    refine m_ga C hw (inC inW11) 17 (by decide) (wc w_1479) mg_17 dX11_rules_139 ?_
    refine lv_iload_n C.1 C.2.1 dX11_rules_142 rfl (lv_at hl 1 rfl) ?_
    refine lv_aload_n C.1 C.2.1 dX11_rules_143 rfl (lv_at hl 0 rfl) ?_
    refine m_ga C hw (inC inW11) 17 (by decide) (wc w_1479) mg_17 dX11_rules_144 ?_
    refine lv_sipush (v := (360 : Int32)) C.1 C.2.1 dX11_rules_147 (by decide) ?_
    refine lv_iload_n C.1 C.2.1 dX11_rules_150 rfl (lv_at hl 1 rfl) ?_
    refine lv_iadd C.1 C.2.1 dX11_rules_151 ?_
    obtain ⟨hi152, hh⟩ := hh
    refine m_zal C hw mp_17 (x := g 17 (ix ((360 : Int32) + x3))) hi152 rfl dX11_rules_152 ?_
    obtain ⟨hi153, hh⟩ := hh
    refine m_zas C hw mp_17 mq_17 hi153 dX11_rules_153 (fun H locs hw => ?_)
    refine lv_aload_n C.1 C.2.1 dX11_rules_154 rfl (lv_at hl 0 rfl) ?_
    refine m_ga C hw (inC inW11) 18 (by decide) (wc w_1480) mg_18 dX11_rules_155 ?_
    refine lv_iload_n C.1 C.2.1 dX11_rules_158 rfl (lv_at hl 1 rfl) ?_
    refine lv_aload_n C.1 C.2.1 dX11_rules_159 rfl (lv_at hl 0 rfl) ?_
    refine m_ga C hw (inC inW11) 18 (by decide) (wc w_1480) mg_18 dX11_rules_160 ?_
    refine lv_sipush (v := (360 : Int32)) C.1 C.2.1 dX11_rules_163 (by decide) ?_
    refine lv_iload_n C.1 C.2.1 dX11_rules_166 rfl (lv_at hl 1 rfl) ?_
    refine lv_iadd C.1 C.2.1 dX11_rules_167 ?_
    obtain ⟨hi168, hh⟩ := hh
    refine m_ial C hw mp_18 (x := g 18 (ix ((360 : Int32) + x3))) hi168 rfl dX11_rules_168 ?_
    obtain ⟨hi169, hh⟩ := hh
    refine m_ias C hw mp_18 mq_18 hi169 dX11_rules_169 (fun H locs hw => ?_)
    refine lv_aload_n C.1 C.2.1 dX11_rules_170 rfl (lv_at hl 0 rfl) ?_
    refine m_ga C hw (inC inW11) 19 (by decide) (wc w_1481) mg_19 dX11_rules_171 ?_
    refine lv_iload_n C.1 C.2.1 dX11_rules_174 rfl (lv_at hl 1 rfl) ?_
    refine lv_aload_n C.1 C.2.1 dX11_rules_175 rfl (lv_at hl 0 rfl) ?_
    refine m_ga C hw (inC inW11) 19 (by decide) (wc w_1481) mg_19 dX11_rules_176 ?_
    refine lv_sipush (v := (360 : Int32)) C.1 C.2.1 dX11_rules_179 (by decide) ?_
    refine lv_iload_n C.1 C.2.1 dX11_rules_182 rfl (lv_at hl 1 rfl) ?_
    refine lv_iadd C.1 C.2.1 dX11_rules_183 ?_
    obtain ⟨hi184, hh⟩ := hh
    refine m_ial C hw mp_19 (x := g 19 (ix ((360 : Int32) + x3))) hi184 rfl dX11_rules_184 ?_
    obtain ⟨hi185, hh⟩ := hh
    refine m_ias C hw mp_19 mq_19 hi185 dX11_rules_185 (fun H locs hw => ?_)
    refine lv_iinc (v := x3 + (1 : Int32)) (lv' := [(3, .int (x3 + (1 : Int32))), (0, .ref o)]) C.1 C.2.1 dX11_rules_186 hl (k := 1) rfl rfl (by decide) rfl (fun ls hl => ?_)
    refine lv_goto (tgt := 95) C.1 C.2.1 dX11_rules_189 (by decide) ?_
    exact hB95 _ _ _ _ _ _ hh hw (lv_sub hl [1, 0] rfl)
theorem tX11_rules_b95 {K : Int32 → ((Nat → Int32) × (Nat → Nat → Int32)) → Prop} (C : CallFix p m c cX11_rules 4 s args wsX11_rules RX11) (hR : Rti .int p l e rmX11_rules s m args below meth c cX11_rules D A (mT cI cZ) (mWu o h cI cZ) K Q) (n : Nat) : ∀ (f : Nat → Int32) (g : Nat → Nat → Int32) (x3 : Int32) (H : Heap) (locs : List Loc) (ls : Array Slot), wpX11_rules_b95 n f g x3 K → Wd D A s (mT cI cZ) (mW o h cI cZ f g) H locs → lv_has ls 4 [(0, .ref o), (3, .int x3)] → W p l e rmX11_rules s m args below meth c H locs 0 0 Q (F0 m 95 ls []) := by
  induction n with
  | zero => intro f g x3 H locs ls hh; exact hh.elim
  | succ n ih => intro f g x3 H locs ls hh hw hl; exact tX11_rules_b95_body C hR ih hh hw hl
set_option maxHeartbeats 4000000 in
set_option maxRecDepth 100000 in
theorem tX11_rules_b49_body {B49 : (Nat → Int32) → (Nat → Nat → Int32) → Int32 → Prop} {K : Int32 → ((Nat → Int32) × (Nat → Nat → Int32)) → Prop} (C : CallFix p m c cX11_rules 4 s args wsX11_rules RX11) (hR : Rti .int p l e rmX11_rules s m args below meth c cX11_rules D A (mT cI cZ) (mWu o h cI cZ) K Q) (hB49 : ∀ (f : Nat → Int32) (g : Nat → Nat → Int32) (x3 : Int32) (H : Heap) (locs : List Loc) (ls : Array Slot), B49 f g x3 → Wd D A s (mT cI cZ) (mW o h cI cZ f g) H locs → lv_has ls 4 [(0, .ref o), (3, .int x3)] → W p l e rmX11_rules s m args below meth c H locs 0 0 Q (F0 m 49 ls [])) {f : Nat → Int32} {g : Nat → Nat → Int32} {x3 : Int32} (hh : wpX11_rules_b49_body B49 f g x3 K) {H : Heap} {locs : List Loc} {ls : Array Slot} (hw : Wd D A s (mT cI cZ) (mW o h cI cZ f g) H locs) (hl : lv_has ls 4 [(0, .ref o), (3, .int x3)]) : W p l e rmX11_rules s m args below meth c H locs 0 0 Q (F0 m 49 ls []) := by
  unfold wpX11_rules_b49_body at hh
  refine lv_iload_n C.1 C.2.1 dX11_rules_49 rfl (lv_at hl 1 rfl) ?_
  refine lv_aload_n C.1 C.2.1 dX11_rules_50 rfl (lv_at hl 0 rfl) ?_
  refine m_gi C hw (inC inW11) 12 (by decide) (wc w_1474) mg_12 (x := f 12) rfl dX11_rules_51 ?_
  refine lv_icmp_ge (tgt := 93) C.1 C.2.1 dX11_rules_54 (by decide) (fun c54 => ?_) (fun c54 => ?_)
  · replace hh := hh.1 c54
    refine lv_iconst (v := (0 : Int32)) C.1 C.2.1 dX11_rules_93 (by decide) ?_
    refine lv_istore_n (lv' := [(3, .int (0 : Int32)), (0, .ref o)]) C.1 C.2.1 dX11_rules_94 rfl hl (by decide) rfl (fun ls hl => ?_)
    obtain ⟨n, hh⟩ := hh
    exact tX11_rules_b95 C hR n _ _ _ _ _ _ hh hw (lv_sub hl [1, 0] rfl)
  · replace hh := hh.2 c54
    refine lv_aload_n C.1 C.2.1 dX11_rules_57 rfl (lv_at hl 0 rfl) ?_
    refine m_ga C hw (inC inW11) 13 (by decide) (wc w_1475) mg_13 dX11_rules_58 ?_
    refine lv_iload_n C.1 C.2.1 dX11_rules_61 rfl (lv_at hl 1 rfl) ?_
    refine lv_aload_n C.1 C.2.1 dX11_rules_62 rfl (lv_at hl 0 rfl) ?_
    refine m_ga C hw (inC inW11) 13 (by decide) (wc w_1475) mg_13 dX11_rules_63 ?_
    refine lv_bipush (v := (30 : Int32)) C.1 C.2.1 dX11_rules_66 (by decide) ?_
    refine lv_iload_n C.1 C.2.1 dX11_rules_68 rfl (lv_at hl 1 rfl) ?_
    refine lv_iadd C.1 C.2.1 dX11_rules_69 ?_
    obtain ⟨hi70, hh⟩ := hh
    refine m_ial C hw mp_13 (x := g 13 (ix ((30 : Int32) + x3))) hi70 rfl dX11_rules_70 ?_
    obtain ⟨hi71, hh⟩ := hh
    refine m_ias C hw mp_13 mq_13 hi71 dX11_rules_71 (fun H locs hw => ?_)
    refine lv_aload_n C.1 C.2.1 dX11_rules_72 rfl (lv_at hl 0 rfl) ?_
    refine m_ga C hw (inC inW11) 14 (by decide) (wc w_1476) mg_14 dX11_rules_73 ?_
    refine lv_iload_n C.1 C.2.1 dX11_rules_76 rfl (lv_at hl 1 rfl) ?_
    refine lv_aload_n C.1 C.2.1 dX11_rules_77 rfl (lv_at hl 0 rfl) ?_
    refine m_ga C hw (inC inW11) 14 (by decide) (wc w_1476) mg_14 dX11_rules_78 ?_
    refine lv_bipush (v := (30 : Int32)) C.1 C.2.1 dX11_rules_81 (by decide) ?_
    refine lv_iload_n C.1 C.2.1 dX11_rules_83 rfl (lv_at hl 1 rfl) ?_
    refine lv_iadd C.1 C.2.1 dX11_rules_84 ?_
    obtain ⟨hi85, hh⟩ := hh
    refine m_ial C hw mp_14 (x := g 14 (ix ((30 : Int32) + x3))) hi85 rfl dX11_rules_85 ?_
    obtain ⟨hi86, hh⟩ := hh
    refine m_ias C hw mp_14 mq_14 hi86 dX11_rules_86 (fun H locs hw => ?_)
    refine lv_iinc (v := x3 + (1 : Int32)) (lv' := [(3, .int (x3 + (1 : Int32))), (0, .ref o)]) C.1 C.2.1 dX11_rules_87 hl (k := 1) rfl rfl (by decide) rfl (fun ls hl => ?_)
    refine lv_goto (tgt := 49) C.1 C.2.1 dX11_rules_90 (by decide) ?_
    exact hB49 _ _ _ _ _ _ hh hw (lv_sub hl [1, 0] rfl)
theorem tX11_rules_b49 {K : Int32 → ((Nat → Int32) × (Nat → Nat → Int32)) → Prop} (C : CallFix p m c cX11_rules 4 s args wsX11_rules RX11) (hR : Rti .int p l e rmX11_rules s m args below meth c cX11_rules D A (mT cI cZ) (mWu o h cI cZ) K Q) (n : Nat) : ∀ (f : Nat → Int32) (g : Nat → Nat → Int32) (x3 : Int32) (H : Heap) (locs : List Loc) (ls : Array Slot), wpX11_rules_b49 n f g x3 K → Wd D A s (mT cI cZ) (mW o h cI cZ f g) H locs → lv_has ls 4 [(0, .ref o), (3, .int x3)] → W p l e rmX11_rules s m args below meth c H locs 0 0 Q (F0 m 49 ls []) := by
  induction n with
  | zero => intro f g x3 H locs ls hh; exact hh.elim
  | succ n ih => intro f g x3 H locs ls hh hw hl; exact tX11_rules_b49_body C hR ih hh hw hl
set_option maxHeartbeats 4000000 in
set_option maxRecDepth 100000 in
theorem tX11_rules_b19_body {B19 : (Nat → Int32) → (Nat → Nat → Int32) → Int32 → Prop} {K : Int32 → ((Nat → Int32) × (Nat → Nat → Int32)) → Prop} (C : CallFix p m c cX11_rules 4 s args wsX11_rules RX11) (hR : Rti .int p l e rmX11_rules s m args below meth c cX11_rules D A (mT cI cZ) (mWu o h cI cZ) K Q) (hB19 : ∀ (f : Nat → Int32) (g : Nat → Nat → Int32) (x2 : Int32) (H : Heap) (locs : List Loc) (ls : Array Slot), B19 f g x2 → Wd D A s (mT cI cZ) (mW o h cI cZ f g) H locs → lv_has ls 4 [(0, .ref o), (2, .int x2)] → W p l e rmX11_rules s m args below meth c H locs 0 0 Q (F0 m 19 ls [])) {f : Nat → Int32} {g : Nat → Nat → Int32} {x2 : Int32} (hh : wpX11_rules_b19_body B19 f g x2 K) {H : Heap} {locs : List Loc} {ls : Array Slot} (hw : Wd D A s (mT cI cZ) (mW o h cI cZ f g) H locs) (hl : lv_has ls 4 [(0, .ref o), (2, .int x2)]) : W p l e rmX11_rules s m args below meth c H locs 0 0 Q (F0 m 19 ls []) := by
  unfold wpX11_rules_b19_body at hh
  refine lv_aload_n C.1 C.2.1 dX11_rules_19 rfl (lv_at hl 0 rfl) ?_
  refine m_gi C hw (inC inW11) 8 (by decide) (wc w_1470) mg_8 (x := f 8) rfl dX11_rules_20 ?_
  refine lv_if_eq (tgt := 42) C.1 C.2.1 dX11_rules_23 (by decide) (fun c23 => ?_) (fun c23 => ?_)
  · replace hh := hh.1 c23
    refine lv_aload_n C.1 C.2.1 dX11_rules_42 rfl (lv_at hl 0 rfl) ?_
    refine lv_iload_n C.1 C.2.1 dX11_rules_43 rfl (lv_at hl 1 rfl) ?_
    refine m_pi C hw (inC inW11) 12 (by decide) (wc w_1474) rfl (ty := .int) (by decide +kernel) rfl rfl (Nat.le_of_ble_eq_true rfl) ms_12 dX11_rules_44 (fun H locs hw => ?_)
    refine lv_iconst (v := (0 : Int32)) C.1 C.2.1 dX11_rules_47 (by decide) ?_
    refine lv_istore_n (lv' := [(3, .int (0 : Int32)), (0, .ref o), (2, .int x2)]) C.1 C.2.1 dX11_rules_48 rfl hl (by decide) rfl (fun ls hl => ?_)
    obtain ⟨n, hh⟩ := hh
    exact tX11_rules_b49 C hR n _ _ _ _ _ _ hh hw (lv_sub hl [1, 0] rfl)
  · replace hh := hh.2 c23
    refine lv_aload_n C.1 C.2.1 dX11_rules_26 rfl (lv_at hl 0 rfl) ?_
    refine lv_iload_n C.1 C.2.1 dX11_rules_27 rfl (lv_at hl 1 rfl) ?_
    refine m_Vi C hw (ctX11_lineRead l D o h cI cZ f g x2 hh) (cwV 1 C.2.2.2.2 (gd_V w_1721 w_1723 w_62 w_125 w_1724) rfl rfl rfl cdX11_lineRead ⟨Nat.le_of_ble_eq_true rfl, Nat.le_of_ble_eq_true rfl⟩) rfl hl.1 (Nat.le_of_ble_eq_true rfl) dX11_rules_28 ⟨Nat.zero_le _, Nat.zero_le _⟩ (fun r28 u28 H locs hh hw => ?_) rfl
    refine lv_if_ne (tgt := 36) C.1 C.2.1 dX11_rules_31 (by decide) (fun c31 => ?_) (fun c31 => ?_)
    · replace hh := hh.1 c31
      refine lv_iinc (v := x2 + (1 : Int32)) (lv' := [(2, .int (x2 + (1 : Int32))), (0, .ref o)]) C.1 C.2.1 dX11_rules_36 hl (k := 1) rfl rfl (by decide) rfl (fun ls hl => ?_)
      refine lv_goto (tgt := 19) C.1 C.2.1 dX11_rules_39 (by decide) ?_
      exact hB19 _ _ _ _ _ _ hh hw (lv_sub hl [1, 0] rfl)
    · replace hh := hh.2 c31
      refine lv_iconst (v := (-1 : Int32)) C.1 C.2.1 dX11_rules_34 (by decide) ?_
      exact hR _ _ _ (u28.1, u28.2) _ _ dX11_rules_35 rfl hh hw
theorem tX11_rules_b19 {K : Int32 → ((Nat → Int32) × (Nat → Nat → Int32)) → Prop} (C : CallFix p m c cX11_rules 4 s args wsX11_rules RX11) (hR : Rti .int p l e rmX11_rules s m args below meth c cX11_rules D A (mT cI cZ) (mWu o h cI cZ) K Q) (n : Nat) : ∀ (f : Nat → Int32) (g : Nat → Nat → Int32) (x2 : Int32) (H : Heap) (locs : List Loc) (ls : Array Slot), wpX11_rules_b19 n f g x2 K → Wd D A s (mT cI cZ) (mW o h cI cZ f g) H locs → lv_has ls 4 [(0, .ref o), (2, .int x2)] → W p l e rmX11_rules s m args below meth c H locs 0 0 Q (F0 m 19 ls []) := by
  induction n with
  | zero => intro f g x2 H locs ls hh; exact hh.elim
  | succ n ih => intro f g x2 H locs ls hh hw hl; exact tX11_rules_b19_body C hR ih hh hw hl
set_option maxHeartbeats 4000000 in
set_option maxRecDepth 100000 in
theorem tX11_rules_b0 {K : Int32 → ((Nat → Int32) × (Nat → Nat → Int32)) → Prop} (C : CallFix p m c cX11_rules 4 s args wsX11_rules RX11) (hR : Rti .int p l e rmX11_rules s m args below meth c cX11_rules D A (mT cI cZ) (mWu o h cI cZ) K Q) {f : Nat → Int32} {g : Nat → Nat → Int32} {x1 : Int32} (hh : wpX11_rules_b0 f g x1 K) {H : Heap} {locs : List Loc} {ls : Array Slot} (hw : Wd D A s (mT cI cZ) (mW o h cI cZ f g) H locs) (hl : lv_has ls 4 [(0, .ref o), (1, .int x1)]) : W p l e rmX11_rules s m args below meth c H locs 0 0 Q (F0 m 0 ls []) := by
  unfold wpX11_rules_b0 at hh
  refine lv_aload_n C.1 C.2.1 dX11_rules_0 rfl (lv_at hl 0 rfl) ?_
  refine lv_iconst (v := (0 : Int32)) C.1 C.2.1 dX11_rules_1 (by decide) ?_
  refine m_pi C hw (inC inW11) 2 (by decide) (wc w_1464) rfl (ty := .int) (by decide +kernel) rfl rfl (Nat.le_of_ble_eq_true rfl) ms_2 dX11_rules_2 (fun H locs hw => ?_)
  refine lv_aload_n C.1 C.2.1 dX11_rules_5 rfl (lv_at hl 0 rfl) ?_
  refine lv_iload_n C.1 C.2.1 dX11_rules_6 rfl (lv_at hl 1 rfl) ?_
  refine lv_iconst (v := (0 : Int32)) C.1 C.2.1 dX11_rules_7 (by decide) ?_
  refine m_Vi C hw (ctX11_starts l D o h cI cZ (upd f 2 (0 : Int32)) g x1 (0 : Int32) hh) (cwV 2 C.2.2.2.2 (gd_V w_1694 w_1696 w_56 w_125 w_1697) rfl rfl rfl cdX11_starts ⟨Nat.le_of_ble_eq_true rfl, Nat.le_of_ble_eq_true rfl⟩) rfl hl.1 (Nat.le_of_ble_eq_true rfl) dX11_rules_8 ⟨Nat.zero_le _, Nat.zero_le _⟩ (fun r8 u8 H locs hh hw => ?_) rfl
  refine lv_if_ne (tgt := 17) C.1 C.2.1 dX11_rules_11 (by decide) (fun c11 => ?_) (fun c11 => ?_)
  · replace hh := hh.1 c11
    refine lv_iconst (v := (0 : Int32)) C.1 C.2.1 dX11_rules_17 (by decide) ?_
    refine lv_istore_n (lv' := [(2, .int (0 : Int32)), (0, .ref o), (1, .int x1)]) C.1 C.2.1 dX11_rules_18 rfl hl (by decide) rfl (fun ls hl => ?_)
    obtain ⟨n, hh⟩ := hh
    exact tX11_rules_b19 C hR n _ _ _ _ _ _ hh hw (lv_sub hl [1, 0] rfl)
  · replace hh := hh.2 c11
    refine lv_bipush (v := (-2 : Int32)) C.1 C.2.1 dX11_rules_14 (by decide) ?_
    exact hR _ _ _ (u8.1, u8.2) _ _ dX11_rules_16 rfl hh hw
theorem ctX11_rules (l : Launch) (D : va_G) (o : Nat) (h : Nat → Nat) (cI cZ : ClassId) (f : Nat → Int32) (g : Nat → Nat → Int32) (x1 : Int32) {K : Int32 → ((Nat → Int32) × (Nat → Nat → Int32)) → Prop} (hh : wpX11_rules f g x1 K) : Ci l yX11_rules wsX11_rules rmX11_rules [.ref o, .int x1] D (mT cI cZ) (mWu o h cI cZ) (f, g) K := by
  refine Ci_of (cc := cX11_rules) (maxL := 4) (by decide) rfl (Nat.le_of_ble_eq_true rfl) ?_
  intro p e s m below meth c A Q C hw hR ls hl
  exact tX11_rules_b0 C hR hh hw hl
theorem cdX11_rules : yX11_rules.cls = RX11 ∧ yX11_rules.cls ≠ "java/lang/invoke/MethodHandle" ∧ yX11_rules.cls ≠ "java/lang/invoke/VarHandle" ∧ (parseMethodDescriptor yX11_rules.desc).map (fun d => d.parameters.length) = some 1 := by decide +kernel
abbrev rmX11_fault : Room := { frames := 0, cells := 0, slots := 0, locals := 0 }
set_option maxHeartbeats 4000000 in
set_option maxRecDepth 100000 in
theorem tX11_fault_b29 {K : Int32 → ((Nat → Int32) × (Nat → Nat → Int32)) → Prop} (C : CallFix p m c cX11_fault 2 s args wsX11_fault RX11) (hR : Rti .int p l e rmX11_fault s m args below meth c cX11_fault D A (mT cI cZ) (mWu o h cI cZ) K Q) {f : Nat → Int32} {g : Nat → Nat → Int32} {k0 : Int32} (hh : wpX11_fault_b29 f g k0 K) {H : Heap} {locs : List Loc} {ls : Array Slot} (hw : Wd D A s (mT cI cZ) (mW o h cI cZ f g) H locs) (hl : lv_has ls 2 [(0, .ref o)]) : W p l e rmX11_fault s m args below meth c H locs 0 0 Q (F0 m 29 ls [.int k0]) := by
  unfold wpX11_fault_b29 at hh
  exact hR _ _ _ (f, g) _ _ dX11_fault_29 rfl hh hw
set_option maxHeartbeats 4000000 in
set_option maxRecDepth 100000 in
theorem tX11_fault_b0 {K : Int32 → ((Nat → Int32) × (Nat → Nat → Int32)) → Prop} (C : CallFix p m c cX11_fault 2 s args wsX11_fault RX11) (hR : Rti .int p l e rmX11_fault s m args below meth c cX11_fault D A (mT cI cZ) (mWu o h cI cZ) K Q) {f : Nat → Int32} {g : Nat → Nat → Int32} {x1 : Int32} (hh : wpX11_fault_b0 f g x1 K) {H : Heap} {locs : List Loc} {ls : Array Slot} (hw : Wd D A s (mT cI cZ) (mW o h cI cZ f g) H locs) (hl : lv_has ls 2 [(0, .ref o), (1, .int x1)]) : W p l e rmX11_fault s m args below meth c H locs 0 0 Q (F0 m 0 ls []) := by
  unfold wpX11_fault_b0 at hh
  refine lv_aload_n C.1 C.2.1 dX11_fault_0 rfl (lv_at hl 0 rfl) ?_
  refine lv_iconst (v := (0 : Int32)) C.1 C.2.1 dX11_fault_1 (by decide) ?_
  refine m_pi C hw (inC inW11) 2 (by decide) (wc w_1464) rfl (ty := .int) (by decide +kernel) rfl rfl (Nat.le_of_ble_eq_true rfl) ms_2 dX11_fault_2 (fun H locs hw => ?_)
  refine lv_iload_n C.1 C.2.1 dX11_fault_5 rfl (lv_at hl 1 rfl) ?_
  refine lv_if_ne (tgt := 16) C.1 C.2.1 dX11_fault_6 (by decide) (fun c6 => ?_) (fun c6 => ?_)
  · replace hh := hh.1 c6
    refine lv_iload_n C.1 C.2.1 dX11_fault_16 rfl (lv_at hl 1 rfl) ?_
    refine lv_iconst (v := (1 : Int32)) C.1 C.2.1 dX11_fault_17 (by decide) ?_
    refine lv_icmp_ne (tgt := 28) C.1 C.2.1 dX11_fault_18 (by decide) (fun c18 => ?_) (fun c18 => ?_)
    · replace hh := hh.1 c18
      refine lv_iconst (v := (-1 : Int32)) C.1 C.2.1 dX11_fault_28 (by decide) ?_
      exact tX11_fault_b29 C hR hh hw (lv_sub hl [0] rfl)
    · replace hh := hh.2 c18
      refine lv_aload_n C.1 C.2.1 dX11_fault_21 rfl (lv_at hl 0 rfl) ?_
      refine m_gi C hw (inC inW11) 5 (by decide) (wc w_1467) mg_5 (x := f 5) rfl dX11_fault_22 ?_
      refine lv_goto (tgt := 29) C.1 C.2.1 dX11_fault_25 (by decide) ?_
      exact tX11_fault_b29 C hR hh hw (lv_sub hl [0] rfl)
  · replace hh := hh.2 c6
    refine lv_aload_n C.1 C.2.1 dX11_fault_9 rfl (lv_at hl 0 rfl) ?_
    refine m_gi C hw (inC inW11) 4 (by decide) (wc w_1466) mg_4 (x := f 4) rfl dX11_fault_10 ?_
    refine lv_goto (tgt := 29) C.1 C.2.1 dX11_fault_13 (by decide) ?_
    exact tX11_fault_b29 C hR hh hw (lv_sub hl [0] rfl)
theorem ctX11_fault (l : Launch) (D : va_G) (o : Nat) (h : Nat → Nat) (cI cZ : ClassId) (f : Nat → Int32) (g : Nat → Nat → Int32) (x1 : Int32) {K : Int32 → ((Nat → Int32) × (Nat → Nat → Int32)) → Prop} (hh : wpX11_fault f g x1 K) : Ci l yX11_fault wsX11_fault rmX11_fault [.ref o, .int x1] D (mT cI cZ) (mWu o h cI cZ) (f, g) K := by
  refine Ci_of (cc := cX11_fault) (maxL := 2) (by decide) rfl (Nat.le_of_ble_eq_true rfl) ?_
  intro p e s m below meth c A Q C hw hR ls hl
  exact tX11_fault_b0 C hR hh hw hl
theorem cdX11_fault : yX11_fault.cls = RX11 ∧ yX11_fault.cls ≠ "java/lang/invoke/MethodHandle" ∧ yX11_fault.cls ≠ "java/lang/invoke/VarHandle" ∧ (parseMethodDescriptor yX11_fault.desc).map (fun d => d.parameters.length) = some 1 := by decide +kernel
abbrev rmX11_weight : Room := { frames := 0, cells := 0, slots := 0, locals := 0 }
set_option maxHeartbeats 4000000 in
set_option maxRecDepth 100000 in
theorem tX11_weight_b30 {K : Int32 → Unit → Prop} (C : CallFix p m c cX11_weight 1 s args wsX11_weight RX11) (hR : Rti .int p l e rmX11_weight s m args below meth c cX11_weight D A [] (fun _ : Unit => []) K Q) {k0 : Int32} (hh : wpX11_weight_b30 k0 K) {H : Heap} {locs : List Loc} {ls : Array Slot} (hw : Wd D A s [] [] H locs) (hl : lv_has ls 1 []) : W p l e rmX11_weight s m args below meth c H locs 0 0 Q (F0 m 30 ls [.int k0]) := by
  unfold wpX11_weight_b30 at hh
  exact hR _ _ _ () _ _ dX11_weight_30 rfl hh hw
set_option maxHeartbeats 4000000 in
set_option maxRecDepth 100000 in
theorem tX11_weight_b0 {K : Int32 → Unit → Prop} (C : CallFix p m c cX11_weight 1 s args wsX11_weight RX11) (hR : Rti .int p l e rmX11_weight s m args below meth c cX11_weight D A [] (fun _ : Unit => []) K Q) {x0 : Int32} (hh : wpX11_weight_b0 x0 K) {H : Heap} {locs : List Loc} {ls : Array Slot} (hw : Wd D A s [] [] H locs) (hl : lv_has ls 1 [(0, .int x0)]) : W p l e rmX11_weight s m args below meth c H locs 0 0 Q (F0 m 0 ls []) := by
  unfold wpX11_weight_b0 at hh
  refine lv_iload_n C.1 C.2.1 dX11_weight_0 rfl (lv_at hl 0 rfl) ?_
  refine lv_iconst (v := (5 : Int32)) C.1 C.2.1 dX11_weight_1 (by decide) ?_
  refine lv_icmp_ne (tgt := 9) C.1 C.2.1 dX11_weight_2 (by decide) (fun c2 => ?_) (fun c2 => ?_)
  · replace hh := hh.1 c2
    refine lv_iload_n C.1 C.2.1 dX11_weight_9 rfl (lv_at hl 0 rfl) ?_
    refine lv_bipush (v := (6 : Int32)) C.1 C.2.1 dX11_weight_10 (by decide) ?_
    refine lv_icmp_ne (tgt := 19) C.1 C.2.1 dX11_weight_12 (by decide) (fun c12 => ?_) (fun c12 => ?_)
    · replace hh := hh.1 c12
      refine lv_iload_n C.1 C.2.1 dX11_weight_19 rfl (lv_at hl 0 rfl) ?_
      refine lv_bipush (v := (7 : Int32)) C.1 C.2.1 dX11_weight_20 (by decide) ?_
      refine lv_icmp_ne (tgt := 29) C.1 C.2.1 dX11_weight_22 (by decide) (fun c22 => ?_) (fun c22 => ?_)
      · replace hh := hh.1 c22
        refine lv_iconst (v := (0 : Int32)) C.1 C.2.1 dX11_weight_29 (by decide) ?_
        exact tX11_weight_b30 C hR hh hw (lv_sub hl [] rfl)
      · replace hh := hh.2 c22
        refine lv_iconst (v := (1 : Int32)) C.1 C.2.1 dX11_weight_25 (by decide) ?_
        refine lv_goto (tgt := 30) C.1 C.2.1 dX11_weight_26 (by decide) ?_
        exact tX11_weight_b30 C hR hh hw (lv_sub hl [] rfl)
    · replace hh := hh.2 c12
      refine lv_iconst (v := (2 : Int32)) C.1 C.2.1 dX11_weight_15 (by decide) ?_
      refine lv_goto (tgt := 30) C.1 C.2.1 dX11_weight_16 (by decide) ?_
      exact tX11_weight_b30 C hR hh hw (lv_sub hl [] rfl)
  · replace hh := hh.2 c2
    refine lv_iconst (v := (3 : Int32)) C.1 C.2.1 dX11_weight_5 (by decide) ?_
    refine lv_goto (tgt := 30) C.1 C.2.1 dX11_weight_6 (by decide) ?_
    exact tX11_weight_b30 C hR hh hw (lv_sub hl [] rfl)
theorem ctX11_weight (l : Launch) (D : va_G) (x0 : Int32) {K : Int32 → Unit → Prop} (hh : wpX11_weight x0 K) : Ci l yX11_weight wsX11_weight rmX11_weight [.int x0] D [] (fun _ : Unit => []) () K := by
  refine Ci_of (cc := cX11_weight) (maxL := 1) (by decide) rfl (Nat.le_of_ble_eq_true rfl) ?_
  intro p e s m below meth c A Q C hw hR ls hl
  exact tX11_weight_b0 C hR hh hw hl
theorem cdX11_weight : yX11_weight.cls ≠ "java/lang/invoke/MethodHandle" ∧ yX11_weight.cls ≠ "java/lang/invoke/VarHandle" ∧ (parseMethodDescriptor yX11_weight.desc).map (fun d => d.parameters.length) = some 1 := by decide +kernel
abbrev rmX11_grown : Room := { frames := 0, cells := 0, slots := 0, locals := 0 }
set_option maxHeartbeats 4000000 in
set_option maxRecDepth 100000 in
theorem tX11_grown_b0 {K : ((Nat → Int32) × (Nat → Nat → Int32)) → Prop} (C : CallFix p m c cX11_grown 4 s args wsX11_grown RX11) (hR : Rtv p l e rmX11_grown s m args below meth c cX11_grown D A (mT cI cZ) (mWu o h cI cZ) K Q) {f : Nat → Int32} {g : Nat → Nat → Int32} {x1 : Int32} {x2 : Int32} {x3 : Int32} (hh : wpX11_grown_b0 f g x1 x2 x3 K) {H : Heap} {locs : List Loc} {ls : Array Slot} (hw : Wd D A s (mT cI cZ) (mW o h cI cZ f g) H locs) (hl : lv_has ls 4 [(0, .ref o), (1, .int x1), (2, .int x2), (3, .int x3)]) : W p l e rmX11_grown s m args below meth c H locs 0 0 Q (F0 m 0 ls []) := by
  unfold wpX11_grown_b0 at hh
  refine lv_aload_n C.1 C.2.1 dX11_grown_0 rfl (lv_at hl 0 rfl) ?_
  refine m_ga C hw (inC inW11) 27 (by decide) (wc w_1489) mg_27 dX11_grown_1 ?_
  refine lv_bipush (v := (64 : Int32)) C.1 C.2.1 dX11_grown_4 (by decide) ?_
  refine lv_aload_n C.1 C.2.1 dX11_grown_6 rfl (lv_at hl 0 rfl) ?_
  refine m_gi C hw (inC inW11) 23 (by decide) (wc w_1485) mg_23 (x := f 23) rfl dX11_grown_7 ?_
  refine lv_iadd C.1 C.2.1 dX11_grown_10 ?_
  refine lv_iload_n C.1 C.2.1 dX11_grown_11 rfl (lv_at hl 1 rfl) ?_
  obtain ⟨hi12, hh⟩ := hh
  refine m_ias C hw mp_27 mq_27 hi12 dX11_grown_12 (fun H locs hw => ?_)
  refine lv_aload_n C.1 C.2.1 dX11_grown_13 rfl (lv_at hl 0 rfl) ?_
  refine m_ga C hw (inC inW11) 28 (by decide) (wc w_1490) mg_28 dX11_grown_14 ?_
  refine lv_bipush (v := (64 : Int32)) C.1 C.2.1 dX11_grown_17 (by decide) ?_
  refine lv_aload_n C.1 C.2.1 dX11_grown_19 rfl (lv_at hl 0 rfl) ?_
  refine m_gi C hw (inC inW11) 23 (by decide) (wc w_1485) mg_23 (x := f 23) rfl dX11_grown_20 ?_
  refine lv_iadd C.1 C.2.1 dX11_grown_23 ?_
  refine lv_iload_n C.1 C.2.1 dX11_grown_24 rfl (lv_at hl 2 rfl) ?_
  obtain ⟨hi25, hh⟩ := hh
  refine m_ias C hw mp_28 mq_28 hi25 dX11_grown_25 (fun H locs hw => ?_)
  refine lv_aload_n C.1 C.2.1 dX11_grown_26 rfl (lv_at hl 0 rfl) ?_
  refine m_ga C hw (inC inW11) 29 (by decide) (wc w_1491) mg_29 dX11_grown_27 ?_
  refine lv_bipush (v := (64 : Int32)) C.1 C.2.1 dX11_grown_30 (by decide) ?_
  refine lv_aload_n C.1 C.2.1 dX11_grown_32 rfl (lv_at hl 0 rfl) ?_
  refine m_gi C hw (inC inW11) 23 (by decide) (wc w_1485) mg_23 (x := f 23) rfl dX11_grown_33 ?_
  refine lv_iadd C.1 C.2.1 dX11_grown_36 ?_
  refine lv_iload_n C.1 C.2.1 dX11_grown_37 rfl (lv_at hl 3 rfl) ?_
  obtain ⟨hi38, hh⟩ := hh
  refine m_ias C hw mp_29 mq_29 hi38 dX11_grown_38 (fun H locs hw => ?_)
  refine lv_aload_n C.1 C.2.1 dX11_grown_39 rfl (lv_at hl 0 rfl) ?_
  refine m_ga C hw (inC inW11) 30 (by decide) (wc w_1492) mg_30 dX11_grown_40 ?_
  refine lv_bipush (v := (64 : Int32)) C.1 C.2.1 dX11_grown_43 (by decide) ?_
  refine lv_aload_n C.1 C.2.1 dX11_grown_45 rfl (lv_at hl 0 rfl) ?_
  refine m_gi C hw (inC inW11) 23 (by decide) (wc w_1485) mg_23 (x := f 23) rfl dX11_grown_46 ?_
  refine lv_iadd C.1 C.2.1 dX11_grown_49 ?_
  refine lv_aload_n C.1 C.2.1 dX11_grown_50 rfl (lv_at hl 0 rfl) ?_
  refine m_gi C hw (inC inW11) 10 (by decide) (wc w_1472) mg_10 (x := f 10) rfl dX11_grown_51 ?_
  obtain ⟨hi54, hh⟩ := hh
  refine m_ias C hw mp_30 mq_30 hi54 dX11_grown_54 (fun H locs hw => ?_)
  refine lv_aload_n C.1 C.2.1 dX11_grown_55 rfl (lv_at hl 0 rfl) ?_
  refine m_ga C hw (inC inW11) 32 (by decide) (wc w_1494) mg_32 dX11_grown_56 ?_
  refine lv_aload_n C.1 C.2.1 dX11_grown_59 rfl (lv_at hl 0 rfl) ?_
  refine m_gi C hw (inC inW11) 34 (by decide) (wc w_1496) mg_34 (x := f 34) rfl dX11_grown_60 ?_
  refine lv_aload_n C.1 C.2.1 dX11_grown_63 rfl (lv_at hl 0 rfl) ?_
  refine m_gi C hw (inC inW11) 23 (by decide) (wc w_1485) mg_23 (x := f 23) rfl dX11_grown_64 ?_
  obtain ⟨hi67, hh⟩ := hh
  refine m_ias C hw mp_32 mq_32 hi67 dX11_grown_67 (fun H locs hw => ?_)
  refine lv_aload_n C.1 C.2.1 dX11_grown_68 rfl (lv_at hl 0 rfl) ?_
  refine lv_dup C.1 C.2.1 dX11_grown_69 rfl ?_
  refine m_gi C hw (inC inW11) 34 (by decide) (wc w_1496) mg_34 (x := f 34) rfl dX11_grown_70 ?_
  refine lv_iconst (v := (1 : Int32)) C.1 C.2.1 dX11_grown_73 (by decide) ?_
  refine lv_iadd C.1 C.2.1 dX11_grown_74 ?_
  refine m_pi C hw (inC inW11) 34 (by decide) (wc w_1496) rfl (ty := .int) (by decide +kernel) rfl rfl (Nat.le_of_ble_eq_true rfl) ms_34 dX11_grown_75 (fun H locs hw => ?_)
  refine lv_aload_n C.1 C.2.1 dX11_grown_78 rfl (lv_at hl 0 rfl) ?_
  refine lv_dup C.1 C.2.1 dX11_grown_79 rfl ?_
  refine m_gi C hw (inC inW11) 23 (by decide) (wc w_1485) mg_23 (x := f 23) rfl dX11_grown_80 ?_
  refine lv_iconst (v := (1 : Int32)) C.1 C.2.1 dX11_grown_83 (by decide) ?_
  refine lv_iadd C.1 C.2.1 dX11_grown_84 ?_
  refine m_pi C hw (inC inW11) 23 (by decide) (wc w_1485) rfl (ty := .int) (by decide +kernel) rfl rfl (Nat.le_of_ble_eq_true rfl) ms_23 dX11_grown_85 (fun H locs hw => ?_)
  exact hR _ _ (upd (upd f 34 ((f 34) + (1 : Int32))) 23 ((f 23) + (1 : Int32)), pt (pt (pt (pt (pt g 27 (ix ((64 : Int32) + (f 23))) x1) 28 (ix ((64 : Int32) + (f 23))) x2) 29 (ix ((64 : Int32) + (f 23))) x3) 30 (ix ((64 : Int32) + (f 23))) (f 10)) 32 (ix (f 34)) (f 23)) _ _ dX11_grown_88 hh hw
theorem ctX11_grown (l : Launch) (D : va_G) (o : Nat) (h : Nat → Nat) (cI cZ : ClassId) (f : Nat → Int32) (g : Nat → Nat → Int32) (x1 : Int32) (x2 : Int32) (x3 : Int32) {K : ((Nat → Int32) × (Nat → Nat → Int32)) → Prop} (hh : wpX11_grown f g x1 x2 x3 K) : Cv l yX11_grown wsX11_grown rmX11_grown [.ref o, .int x1, .int x2, .int x3] D (mT cI cZ) (mWu o h cI cZ) (f, g) K := by
  refine Cv_of (cc := cX11_grown) (maxL := 4) (by decide) rfl (Nat.le_of_ble_eq_true rfl) ?_
  intro p e s m below meth c A Q C hw hR ls hl
  exact tX11_grown_b0 C hR hh hw hl
theorem cdX11_grown : yX11_grown.cls = RX11 ∧ yX11_grown.cls ≠ "java/lang/invoke/MethodHandle" ∧ yX11_grown.cls ≠ "java/lang/invoke/VarHandle" ∧ (parseMethodDescriptor yX11_grown.desc).map (fun d => d.parameters.length) = some 3 := by decide +kernel
abbrev rmX11_drop : Room := { frames := 0, cells := 0, slots := 0, locals := 0 }
set_option maxHeartbeats 4000000 in
set_option maxRecDepth 100000 in
theorem tX11_drop_b0 {K : Int32 → ((Nat → Int32) × (Nat → Nat → Int32)) → Prop} (C : CallFix p m c cX11_drop 1 s args wsX11_drop RX11) (hR : Rti .int p l e rmX11_drop s m args below meth c cX11_drop D A (mT cI cZ) (mWu o h cI cZ) K Q) {f : Nat → Int32} {g : Nat → Nat → Int32} (hh : wpX11_drop_b0 f g K) {H : Heap} {locs : List Loc} {ls : Array Slot} (hw : Wd D A s (mT cI cZ) (mW o h cI cZ f g) H locs) (hl : lv_has ls 1 [(0, .ref o)]) : W p l e rmX11_drop s m args below meth c H locs 0 0 Q (F0 m 0 ls []) := by
  unfold wpX11_drop_b0 at hh
  refine lv_aload_n C.1 C.2.1 dX11_drop_0 rfl (lv_at hl 0 rfl) ?_
  refine lv_dup C.1 C.2.1 dX11_drop_1 rfl ?_
  refine m_gi C hw (inC inW11) 34 (by decide) (wc w_1496) mg_34 (x := f 34) rfl dX11_drop_2 ?_
  refine lv_iconst (v := (1 : Int32)) C.1 C.2.1 dX11_drop_5 (by decide) ?_
  refine lv_isub C.1 C.2.1 dX11_drop_6 ?_
  refine m_pi C hw (inC inW11) 34 (by decide) (wc w_1496) rfl (ty := .int) (by decide +kernel) rfl rfl (Nat.le_of_ble_eq_true rfl) ms_34 dX11_drop_7 (fun H locs hw => ?_)
  refine lv_aload_n C.1 C.2.1 dX11_drop_10 rfl (lv_at hl 0 rfl) ?_
  refine m_ga C hw (inC inW11) 32 (by decide) (wc w_1494) mg_32 dX11_drop_11 ?_
  refine lv_aload_n C.1 C.2.1 dX11_drop_14 rfl (lv_at hl 0 rfl) ?_
  refine m_gi C hw (inC inW11) 34 (by decide) (wc w_1496) mg_34 (x := (f 34) - (1 : Int32)) rfl dX11_drop_15 ?_
  obtain ⟨hi18, hh⟩ := hh
  refine m_ial C hw mp_32 (x := g 32 (ix ((f 34) - (1 : Int32)))) hi18 rfl dX11_drop_18 ?_
  exact hR _ _ _ (upd f 34 ((f 34) - (1 : Int32)), g) _ _ dX11_drop_19 rfl hh hw
theorem ctX11_drop (l : Launch) (D : va_G) (o : Nat) (h : Nat → Nat) (cI cZ : ClassId) (f : Nat → Int32) (g : Nat → Nat → Int32) {K : Int32 → ((Nat → Int32) × (Nat → Nat → Int32)) → Prop} (hh : wpX11_drop f g K) : Ci l yX11_drop wsX11_drop rmX11_drop [.ref o] D (mT cI cZ) (mWu o h cI cZ) (f, g) K := by
  refine Ci_of (cc := cX11_drop) (maxL := 1) (by decide) rfl (Nat.le_of_ble_eq_true rfl) ?_
  intro p e s m below meth c A Q C hw hR ls hl
  exact tX11_drop_b0 C hR hh hw hl
theorem cdX11_drop : yX11_drop.cls = RX11 ∧ yX11_drop.cls ≠ "java/lang/invoke/MethodHandle" ∧ yX11_drop.cls ≠ "java/lang/invoke/VarHandle" ∧ (parseMethodDescriptor yX11_drop.desc).map (fun d => d.parameters.length) = some 0 := by decide +kernel
abbrev rmX11_bind : Room := { frames := 1, cells := 0, slots := 0, locals := 23 }
set_option maxHeartbeats 4000000 in
set_option maxRecDepth 100000 in
theorem tX11_bind_b76 {K : ((Nat → Int32) × (Nat → Nat → Int32)) → Prop} (C : CallFix p m c cX11_bind 5 s args wsX11_bind RX11) (hR : Rtv p l e rmX11_bind s m args below meth c cX11_bind D A (mT cI cZ) (mWu o h cI cZ) K Q) {f : Nat → Int32} {g : Nat → Nat → Int32} (hh : wpX11_bind_b76 f g K) {H : Heap} {locs : List Loc} {ls : Array Slot} (hw : Wd D A s (mT cI cZ) (mW o h cI cZ f g) H locs) (hl : lv_has ls 5 [(0, .ref o)]) : W p l e rmX11_bind s m args below meth c H locs 0 0 Q (F0 m 76 ls []) := by
  unfold wpX11_bind_b76 at hh
  exact hR _ _ (f, g) _ _ dX11_bind_76 hh hw
set_option maxHeartbeats 4000000 in
set_option maxRecDepth 100000 in
theorem tX11_bind_b58 {B0 : (Nat → Int32) → (Nat → Nat → Int32) → Int32 → Prop} {K : ((Nat → Int32) × (Nat → Nat → Int32)) → Prop} (C : CallFix p m c cX11_bind 5 s args wsX11_bind RX11) (hR : Rtv p l e rmX11_bind s m args below meth c cX11_bind D A (mT cI cZ) (mWu o h cI cZ) K Q) (hB0 : ∀ (f : Nat → Int32) (g : Nat → Nat → Int32) (x1 : Int32) (H : Heap) (locs : List Loc) (ls : Array Slot), B0 f g x1 → Wd D A s (mT cI cZ) (mW o h cI cZ f g) H locs → lv_has ls 5 [(0, .ref o), (1, .int x1)] → W p l e rmX11_bind s m args below meth c H locs 0 0 Q (F0 m 0 ls [])) {f : Nat → Int32} {g : Nat → Nat → Int32} {k0 : Int32} {x1 : Int32} {x2 : Int32} (hh : wpX11_bind_b58 B0 f g k0 x1 x2 K) {H : Heap} {locs : List Loc} {ls : Array Slot} (hw : Wd D A s (mT cI cZ) (mW o h cI cZ f g) H locs) (hl : lv_has ls 5 [(0, .ref o), (1, .int x1), (2, .int x2)]) : W p l e rmX11_bind s m args below meth c H locs 0 0 Q (F0 m 58 ls [.int k0]) := by
  unfold wpX11_bind_b58 at hh
  refine lv_istore_n (lv' := [(3, .int k0), (0, .ref o), (1, .int x1), (2, .int x2)]) C.1 C.2.1 dX11_bind_58 rfl hl (by decide) rfl (fun ls hl => ?_)
  refine lv_aload_n C.1 C.2.1 dX11_bind_59 rfl (lv_at hl 1 rfl) ?_
  refine m_Vi C hw (ctX11_drop l D o h cI cZ f g  hh) (cwV 0 C.2.2.2.2 (gd_V w_1796 w_1798 w_78 w_125 w_1799) rfl rfl rfl cdX11_drop ⟨Nat.le_of_ble_eq_true rfl, Nat.le_of_ble_eq_true rfl⟩) rfl hl.1 (Nat.le_of_ble_eq_true rfl) dX11_bind_60 ⟨Nat.zero_le _, Nat.zero_le _⟩ (fun r60 u60 H locs hh hw => ?_) rfl
  refine lv_istore (lv' := [(4, .int r60), (3, .int k0), (0, .ref o), (1, .int x1), (2, .int x2)]) C.1 C.2.1 dX11_bind_63 hl (by decide) rfl (fun ls hl => ?_)
  refine lv_aload_n C.1 C.2.1 dX11_bind_65 rfl (lv_at hl 2 rfl) ?_
  refine lv_iload_n C.1 C.2.1 dX11_bind_66 rfl (lv_at hl 4 rfl) ?_
  refine lv_iload C.1 C.2.1 dX11_bind_67 (lv_at hl 0 rfl) ?_
  refine lv_iload_n C.1 C.2.1 dX11_bind_69 rfl (lv_at hl 1 rfl) ?_
  refine m_Vv C hw (ctX11_grown l D o h cI cZ u60.1 u60.2 x2 r60 k0 hh) (cwV 3 C.2.2.2.2 (gd_V w_1781 w_1783 w_75 w_125 w_1784) rfl rfl rfl cdX11_grown ⟨Nat.le_of_ble_eq_true rfl, Nat.le_of_ble_eq_true rfl⟩) rfl hl.1 (Nat.le_of_ble_eq_true rfl) dX11_bind_70 ⟨Nat.zero_le _, Nat.zero_le _⟩ (fun u70 H locs hh hw => ?_) rfl
  refine lv_goto (tgt := 0) C.1 C.2.1 dX11_bind_73 (by decide) ?_
  exact hB0 _ _ _ _ _ _ hh hw (lv_sub hl [2, 3] rfl)
set_option maxHeartbeats 4000000 in
set_option maxRecDepth 100000 in
theorem tX11_bind_b0_body {B0 : (Nat → Int32) → (Nat → Nat → Int32) → Int32 → Prop} {K : ((Nat → Int32) × (Nat → Nat → Int32)) → Prop} (C : CallFix p m c cX11_bind 5 s args wsX11_bind RX11) (hR : Rtv p l e rmX11_bind s m args below meth c cX11_bind D A (mT cI cZ) (mWu o h cI cZ) K Q) (hB0 : ∀ (f : Nat → Int32) (g : Nat → Nat → Int32) (x1 : Int32) (H : Heap) (locs : List Loc) (ls : Array Slot), B0 f g x1 → Wd D A s (mT cI cZ) (mW o h cI cZ f g) H locs → lv_has ls 5 [(0, .ref o), (1, .int x1)] → W p l e rmX11_bind s m args below meth c H locs 0 0 Q (F0 m 0 ls [])) {f : Nat → Int32} {g : Nat → Nat → Int32} {x1 : Int32} (hh : wpX11_bind_b0_body B0 f g x1 K) {H : Heap} {locs : List Loc} {ls : Array Slot} (hw : Wd D A s (mT cI cZ) (mW o h cI cZ f g) H locs) (hl : lv_has ls 5 [(0, .ref o), (1, .int x1)]) : W p l e rmX11_bind s m args below meth c H locs 0 0 Q (F0 m 0 ls []) := by
  unfold wpX11_bind_b0_body at hh
  refine lv_aload_n C.1 C.2.1 dX11_bind_0 rfl (lv_at hl 0 rfl) ?_
  refine m_gi C hw (inC inW11) 33 (by decide) (wc w_1495) mg_33 (x := f 33) rfl dX11_bind_1 ?_
  refine lv_if_le (tgt := 76) C.1 C.2.1 dX11_bind_4 (by decide) (fun c4 => ?_) (fun c4 => ?_)
  · replace hh := hh.1 c4
    exact tX11_bind_b76 C hR hh hw (lv_sub hl [0] rfl)
  · replace hh := hh.2 c4
    refine lv_aload_n C.1 C.2.1 dX11_bind_7 rfl (lv_at hl 0 rfl) ?_
    refine m_ga C hw (inC inW11) 31 (by decide) (wc w_1493) mg_31 dX11_bind_8 ?_
    refine lv_aload_n C.1 C.2.1 dX11_bind_11 rfl (lv_at hl 0 rfl) ?_
    refine m_gi C hw (inC inW11) 33 (by decide) (wc w_1495) mg_33 (x := f 33) rfl dX11_bind_12 ?_
    refine lv_iconst (v := (1 : Int32)) C.1 C.2.1 dX11_bind_15 (by decide) ?_
    refine lv_isub C.1 C.2.1 dX11_bind_16 ?_
    obtain ⟨hi17, hh⟩ := hh
    refine m_ial C hw mp_31 (x := g 31 (ix ((f 33) - (1 : Int32)))) hi17 rfl dX11_bind_17 ?_
    refine wd_Si C hw (ctX11_weight l D (g 31 (ix ((f 33) - (1 : Int32)))) hh) (va_cwS 1 C.2.2.2.2 (gd_S w_1789 w_1790 (ini_cls rfl w_125) w_1791) rfl rfl rfl cdX11_weight ⟨Nat.le_of_ble_eq_true rfl, Nat.le_of_ble_eq_true rfl⟩) rfl hl.1 (Nat.le_of_ble_eq_true rfl) dX11_bind_18 ⟨Nat.zero_le _, Nat.zero_le _⟩ (fun r18 H locs hh hw => ?_) rfl
    refine lv_iload_n C.1 C.2.1 dX11_bind_21 rfl (lv_at hl 1 rfl) ?_
    refine lv_icmp_lt (tgt := 76) C.1 C.2.1 dX11_bind_22 (by decide) (fun c22 => ?_) (fun c22 => ?_)
    · replace hh := hh.1 c22
      exact tX11_bind_b76 C hR hh hw (lv_sub hl [0] rfl)
    · replace hh := hh.2 c22
      refine lv_aload_n C.1 C.2.1 dX11_bind_25 rfl (lv_at hl 0 rfl) ?_
      refine lv_dup C.1 C.2.1 dX11_bind_26 rfl ?_
      refine m_gi C hw (inC inW11) 33 (by decide) (wc w_1495) mg_33 (x := f 33) rfl dX11_bind_27 ?_
      refine lv_iconst (v := (1 : Int32)) C.1 C.2.1 dX11_bind_30 (by decide) ?_
      refine lv_isub C.1 C.2.1 dX11_bind_31 ?_
      refine m_pi C hw (inC inW11) 33 (by decide) (wc w_1495) rfl (ty := .int) (by decide +kernel) rfl rfl (Nat.le_of_ble_eq_true rfl) ms_33 dX11_bind_32 (fun H locs hw => ?_)
      refine lv_aload_n C.1 C.2.1 dX11_bind_35 rfl (lv_at hl 0 rfl) ?_
      refine m_ga C hw (inC inW11) 31 (by decide) (wc w_1493) mg_31 dX11_bind_36 ?_
      refine lv_aload_n C.1 C.2.1 dX11_bind_39 rfl (lv_at hl 0 rfl) ?_
      refine m_gi C hw (inC inW11) 33 (by decide) (wc w_1495) mg_33 (x := (f 33) - (1 : Int32)) rfl dX11_bind_40 ?_
      obtain ⟨hi43, hh⟩ := hh
      refine m_ial C hw mp_31 (x := g 31 (ix ((f 33) - (1 : Int32)))) hi43 rfl dX11_bind_43 ?_
      refine lv_istore_n (lv' := [(2, .int (g 31 (ix ((f 33) - (1 : Int32))))), (0, .ref o), (1, .int x1)]) C.1 C.2.1 dX11_bind_44 rfl hl (by decide) rfl (fun ls hl => ?_)
      refine lv_iload_n C.1 C.2.1 dX11_bind_45 rfl (lv_at hl 0 rfl) ?_
      refine lv_iconst (v := (5 : Int32)) C.1 C.2.1 dX11_bind_46 (by decide) ?_
      refine lv_icmp_ne (tgt := 54) C.1 C.2.1 dX11_bind_47 (by decide) (fun c47 => ?_) (fun c47 => ?_)
      · replace hh := hh.1 c47
        refine lv_aload_n C.1 C.2.1 dX11_bind_54 rfl (lv_at hl 1 rfl) ?_
        refine m_Vi C hw (ctX11_drop l D o h cI cZ (upd f 33 ((f 33) - (1 : Int32))) g  hh) (cwV 0 C.2.2.2.2 (gd_V w_1796 w_1798 w_78 w_125 w_1799) rfl rfl rfl cdX11_drop ⟨Nat.le_of_ble_eq_true rfl, Nat.le_of_ble_eq_true rfl⟩) rfl hl.1 (Nat.le_of_ble_eq_true rfl) dX11_bind_55 ⟨Nat.zero_le _, Nat.zero_le _⟩ (fun r55 u55 H locs hh hw => ?_) rfl
        exact tX11_bind_b58 C hR hB0 hh hw (lv_sub hl [1, 2, 0] rfl)
      · replace hh := hh.2 c47
        refine lv_iconst (v := (-1 : Int32)) C.1 C.2.1 dX11_bind_50 (by decide) ?_
        refine lv_goto (tgt := 58) C.1 C.2.1 dX11_bind_51 (by decide) ?_
        exact tX11_bind_b58 C hR hB0 hh hw (lv_sub hl [1, 2, 0] rfl)
theorem tX11_bind_b0 {K : ((Nat → Int32) × (Nat → Nat → Int32)) → Prop} (C : CallFix p m c cX11_bind 5 s args wsX11_bind RX11) (hR : Rtv p l e rmX11_bind s m args below meth c cX11_bind D A (mT cI cZ) (mWu o h cI cZ) K Q) (n : Nat) : ∀ (f : Nat → Int32) (g : Nat → Nat → Int32) (x1 : Int32) (H : Heap) (locs : List Loc) (ls : Array Slot), wpX11_bind_b0 n f g x1 K → Wd D A s (mT cI cZ) (mW o h cI cZ f g) H locs → lv_has ls 5 [(0, .ref o), (1, .int x1)] → W p l e rmX11_bind s m args below meth c H locs 0 0 Q (F0 m 0 ls []) := by
  induction n with
  | zero => intro f g x1 H locs ls hh; exact hh.elim
  | succ n ih => intro f g x1 H locs ls hh hw hl; exact tX11_bind_b0_body C hR ih hh hw hl
theorem ctX11_bind (l : Launch) (D : va_G) (o : Nat) (h : Nat → Nat) (cI cZ : ClassId) (f : Nat → Int32) (g : Nat → Nat → Int32) (x1 : Int32) {K : ((Nat → Int32) × (Nat → Nat → Int32)) → Prop} (hh : wpX11_bind f g x1 K) : Cv l yX11_bind wsX11_bind rmX11_bind [.ref o, .int x1] D (mT cI cZ) (mWu o h cI cZ) (f, g) K := by
  refine Cv_of (cc := cX11_bind) (maxL := 5) (by decide) rfl (Nat.le_of_ble_eq_true rfl) ?_
  intro p e s m below meth c A Q C hw hR ls hl
  obtain ⟨n, hh⟩ := hh
  exact tX11_bind_b0 C hR n _ _ _ _ _ _ hh hw hl
theorem cdX11_bind : yX11_bind.cls = RX11 ∧ yX11_bind.cls ≠ "java/lang/invoke/MethodHandle" ∧ yX11_bind.cls ≠ "java/lang/invoke/VarHandle" ∧ (parseMethodDescriptor yX11_bind.desc).map (fun d => d.parameters.length) = some 1 := by decide +kernel
abbrev rmX11_isCounted : Room := { frames := 1, cells := 0, slots := 0, locals := 21 }
set_option maxHeartbeats 4000000 in
set_option maxRecDepth 100000 in
theorem tX11_isCounted_b0 {K : Int32 → ((Nat → Int32) × (Nat → Nat → Int32)) → Prop} (C : CallFix p m c cX11_isCounted 1 s args wsX11_isCounted RX11) (hR : Rti .boolean p l e rmX11_isCounted s m args below meth c cX11_isCounted D A (mT cI cZ) (mWu o h cI cZ) K Q) {f : Nat → Int32} {g : Nat → Nat → Int32} (hh : wpX11_isCounted_b0 f g K) {H : Heap} {locs : List Loc} {ls : Array Slot} (hw : Wd D A s (mT cI cZ) (mW o h cI cZ f g) H locs) (hl : lv_has ls 1 [(0, .ref o)]) : W p l e rmX11_isCounted s m args below meth c H locs 0 0 Q (F0 m 0 ls []) := by
  unfold wpX11_isCounted_b0 at hh
  refine lv_aload_n C.1 C.2.1 dX11_isCounted_0 rfl (lv_at hl 0 rfl) ?_
  refine m_gi C hw (inC inW11) 36 (by decide) (wc w_1498) mg_36 (x := f 36) rfl dX11_isCounted_1 ?_
  refine lv_bipush (v := (64 : Int32)) C.1 C.2.1 dX11_isCounted_4 (by decide) ?_
  refine lv_icmp_ne (tgt := 15) C.1 C.2.1 dX11_isCounted_6 (by decide) (fun c6 => ?_) (fun c6 => ?_)
  · replace hh := hh.1 c6
    refine lv_aload_n C.1 C.2.1 dX11_isCounted_15 rfl (lv_at hl 0 rfl) ?_
    refine lv_dup C.1 C.2.1 dX11_isCounted_16 rfl ?_
    refine m_gi C hw (inC inW11) 36 (by decide) (wc w_1498) mg_36 (x := f 36) rfl dX11_isCounted_17 ?_
    refine lv_iconst (v := (1 : Int32)) C.1 C.2.1 dX11_isCounted_20 (by decide) ?_
    refine lv_iadd C.1 C.2.1 dX11_isCounted_21 ?_
    refine m_pi C hw (inC inW11) 36 (by decide) (wc w_1498) rfl (ty := .int) (by decide +kernel) rfl rfl (Nat.le_of_ble_eq_true rfl) ms_36 dX11_isCounted_22 (fun H locs hw => ?_)
    refine lv_iconst (v := (1 : Int32)) C.1 C.2.1 dX11_isCounted_25 (by decide) ?_
    exact hR _ _ _ (upd f 36 ((f 36) + (1 : Int32)), g) _ _ dX11_isCounted_26 rfl hh hw
  · replace hh := hh.2 c6
    refine lv_aload_n C.1 C.2.1 dX11_isCounted_9 rfl (lv_at hl 0 rfl) ?_
    refine lv_iconst (v := (2 : Int32)) C.1 C.2.1 dX11_isCounted_10 (by decide) ?_
    refine m_Vi C hw (ctX11_wrong l D o h cI cZ f g (2 : Int32) hh) (cwV 1 C.2.2.2.2 (gd_V w_1729 w_1731 w_64 w_125 w_1732) rfl rfl rfl cdX11_wrong ⟨Nat.le_of_ble_eq_true rfl, Nat.le_of_ble_eq_true rfl⟩) rfl hl.1 (Nat.le_of_ble_eq_true rfl) dX11_isCounted_11 ⟨Nat.zero_le _, Nat.zero_le _⟩ (fun r11 u11 H locs hh hw => ?_) rfl
    obtain ⟨hb14, hh⟩ := hh
    exact hR _ _ _ (u11.1, u11.2) _ _ dX11_isCounted_14 (isB_nar hb14) hh hw
theorem ctX11_isCounted (l : Launch) (D : va_G) (o : Nat) (h : Nat → Nat) (cI cZ : ClassId) (f : Nat → Int32) (g : Nat → Nat → Int32) {K : Int32 → ((Nat → Int32) × (Nat → Nat → Int32)) → Prop} (hh : wpX11_isCounted f g K) : Ci l yX11_isCounted wsX11_isCounted rmX11_isCounted [.ref o] D (mT cI cZ) (mWu o h cI cZ) (f, g) K := by
  refine Ci_of (cc := cX11_isCounted) (maxL := 1) (by decide) rfl (Nat.le_of_ble_eq_true rfl) ?_
  intro p e s m below meth c A Q C hw hR ls hl
  exact tX11_isCounted_b0 C hR hh hw hl
theorem cdX11_isCounted : yX11_isCounted.cls = RX11 ∧ yX11_isCounted.cls ≠ "java/lang/invoke/MethodHandle" ∧ yX11_isCounted.cls ≠ "java/lang/invoke/VarHandle" ∧ (parseMethodDescriptor yX11_isCounted.desc).map (fun d => d.parameters.length) = some 0 := by decide +kernel
abbrev rmX11_leafRead : Room := { frames := 2, cells := 0, slots := 0, locals := 48 }
set_option maxHeartbeats 4000000 in
set_option maxRecDepth 100000 in
theorem tX11_leafRead_b231 {K : Int32 → ((Nat → Int32) × (Nat → Nat → Int32)) → Prop} (C : CallFix p m c cX11_leafRead 2 s args wsX11_leafRead RX11) (hR : Rti .boolean p l e rmX11_leafRead s m args below meth c cX11_leafRead D A (mT cI cZ) (mWu o h cI cZ) K Q) {f : Nat → Int32} {g : Nat → Nat → Int32} (hh : wpX11_leafRead_b231 f g K) {H : Heap} {locs : List Loc} {ls : Array Slot} (hw : Wd D A s (mT cI cZ) (mW o h cI cZ f g) H locs) (hl : lv_has ls 2 [(0, .ref o)]) : W p l e rmX11_leafRead s m args below meth c H locs 0 0 Q (F0 m 231 ls []) := by
  unfold wpX11_leafRead_b231 at hh
  refine lv_aload_n C.1 C.2.1 dX11_leafRead_231 rfl (lv_at hl 0 rfl) ?_
  refine lv_iconst (v := (1 : Int32)) C.1 C.2.1 dX11_leafRead_232 (by decide) ?_
  refine m_pi C hw (inC inW11) 37 (by decide) (wc w_1499) rfl (ty := .int) (by decide +kernel) rfl rfl (Nat.le_of_ble_eq_true rfl) ms_37 dX11_leafRead_233 (fun H locs hw => ?_)
  refine lv_aload_n C.1 C.2.1 dX11_leafRead_236 rfl (lv_at hl 0 rfl) ?_
  refine m_Vv C hw (ctX11_take l D o h cI cZ (upd f 37 (1 : Int32)) g  hh) (cwV 0 C.2.2.2.2 (gd_V w_1698 w_1700 w_57 w_125 w_1701) rfl rfl rfl cdX11_take ⟨Nat.le_of_ble_eq_true rfl, Nat.le_of_ble_eq_true rfl⟩) rfl hl.1 (Nat.le_of_ble_eq_true rfl) dX11_leafRead_237 ⟨Nat.zero_le _, Nat.zero_le _⟩ (fun u237 H locs hh hw => ?_) rfl
  refine lv_iconst (v := (1 : Int32)) C.1 C.2.1 dX11_leafRead_240 (by decide) ?_
  exact hR _ _ _ (u237.1, u237.2) _ _ dX11_leafRead_241 rfl hh hw
set_option maxHeartbeats 4000000 in
set_option maxRecDepth 100000 in
theorem tX11_leafRead_b213 {K : Int32 → ((Nat → Int32) × (Nat → Nat → Int32)) → Prop} (C : CallFix p m c cX11_leafRead 2 s args wsX11_leafRead RX11) (hR : Rti .boolean p l e rmX11_leafRead s m args below meth c cX11_leafRead D A (mT cI cZ) (mWu o h cI cZ) K Q) {f : Nat → Int32} {g : Nat → Nat → Int32} {k1 : Int32} (hh : wpX11_leafRead_b213 f g k1 K) {H : Heap} {locs : List Loc} {ls : Array Slot} (hw : Wd D A s (mT cI cZ) (mW o h cI cZ f g) H locs) (hl : lv_has ls 2 [(0, .ref o)]) : W p l e rmX11_leafRead s m args below meth c H locs 0 0 Q (F0 m 213 ls [.int k1, .ref o]) := by
  unfold wpX11_leafRead_b213 at hh
  refine lv_iconst (v := (0 : Int32)) C.1 C.2.1 dX11_leafRead_213 (by decide) ?_
  refine lv_iconst (v := (0 : Int32)) C.1 C.2.1 dX11_leafRead_214 (by decide) ?_
  refine m_Vv C hw (ctX11_grown l D o h cI cZ f g k1 (0 : Int32) (0 : Int32) hh) (cwV 3 C.2.2.2.2 (gd_V w_1781 w_1783 w_75 w_125 w_1784) rfl rfl rfl cdX11_grown ⟨Nat.le_of_ble_eq_true rfl, Nat.le_of_ble_eq_true rfl⟩) rfl hl.1 (Nat.le_of_ble_eq_true rfl) dX11_leafRead_215 ⟨Nat.zero_le _, Nat.zero_le _⟩ (fun u215 H locs hh hw => ?_) rfl
  refine lv_goto (tgt := 231) C.1 C.2.1 dX11_leafRead_218 (by decide) ?_
  exact tX11_leafRead_b231 C hR hh hw hl
set_option maxHeartbeats 4000000 in
set_option maxRecDepth 100000 in
theorem tX11_leafRead_b161 {K : Int32 → ((Nat → Int32) × (Nat → Nat → Int32)) → Prop} (C : CallFix p m c cX11_leafRead 2 s args wsX11_leafRead RX11) (hR : Rti .boolean p l e rmX11_leafRead s m args below meth c cX11_leafRead D A (mT cI cZ) (mWu o h cI cZ) K Q) {f : Nat → Int32} {g : Nat → Nat → Int32} {x1 : Int32} (hh : wpX11_leafRead_b161 f g x1 K) {H : Heap} {locs : List Loc} {ls : Array Slot} (hw : Wd D A s (mT cI cZ) (mW o h cI cZ f g) H locs) (hl : lv_has ls 2 [(0, .ref o), (1, .int x1)]) : W p l e rmX11_leafRead s m args below meth c H locs 0 0 Q (F0 m 161 ls []) := by
  unfold wpX11_leafRead_b161 at hh
  refine lv_aload_n C.1 C.2.1 dX11_leafRead_161 rfl (lv_at hl 0 rfl) ?_
  refine m_Vi C hw (ctX11_isCounted l D o h cI cZ f g  hh) (cwV 0 C.2.2.2.2 (gd_V w_1777 w_1779 w_74 w_125 w_1780) rfl rfl rfl cdX11_isCounted ⟨Nat.le_of_ble_eq_true rfl, Nat.le_of_ble_eq_true rfl⟩) rfl hl.1 (Nat.le_of_ble_eq_true rfl) dX11_leafRead_162 ⟨Nat.zero_le _, Nat.zero_le _⟩ (fun r162 u162 H locs hh hw => ?_) rfl
  refine lv_if_ne (tgt := 170) C.1 C.2.1 dX11_leafRead_165 (by decide) (fun c165 => ?_) (fun c165 => ?_)
  · replace hh := hh.1 c165
    refine lv_iload_n C.1 C.2.1 dX11_leafRead_170 rfl (lv_at hl 1 rfl) ?_
    refine lv_if_eq (tgt := 221) C.1 C.2.1 dX11_leafRead_171 (by decide) (fun c171 => ?_) (fun c171 => ?_)
    · replace hh := hh.1 c171
      refine lv_aload_n C.1 C.2.1 dX11_leafRead_221 rfl (lv_at hl 0 rfl) ?_
      refine lv_iconst (v := (4 : Int32)) C.1 C.2.1 dX11_leafRead_222 (by decide) ?_
      refine lv_aload_n C.1 C.2.1 dX11_leafRead_223 rfl (lv_at hl 0 rfl) ?_
      refine m_gi C hw (inC inW11) 9 (by decide) (wc w_1471) mg_9 (x := u162.1 9) rfl dX11_leafRead_224 ?_
      refine lv_iconst (v := (0 : Int32)) C.1 C.2.1 dX11_leafRead_227 (by decide) ?_
      refine m_Vv C hw (ctX11_grown l D o h cI cZ u162.1 u162.2 (4 : Int32) (u162.1 9) (0 : Int32) hh) (cwV 3 C.2.2.2.2 (gd_V w_1781 w_1783 w_75 w_125 w_1784) rfl rfl rfl cdX11_grown ⟨Nat.le_of_ble_eq_true rfl, Nat.le_of_ble_eq_true rfl⟩) rfl hl.1 (Nat.le_of_ble_eq_true rfl) dX11_leafRead_228 ⟨Nat.zero_le _, Nat.zero_le _⟩ (fun u228 H locs hh hw => ?_) rfl
      exact tX11_leafRead_b231 C hR hh hw (lv_sub hl [0] rfl)
    · replace hh := hh.2 c171
      refine lv_aload_n C.1 C.2.1 dX11_leafRead_174 rfl (lv_at hl 0 rfl) ?_
      refine lv_aload_n C.1 C.2.1 dX11_leafRead_175 rfl (lv_at hl 0 rfl) ?_
      refine m_gi C hw (inC inW11) 9 (by decide) (wc w_1471) mg_9 (x := u162.1 9) rfl dX11_leafRead_176 ?_
      refine lv_iconst (v := (3 : Int32)) C.1 C.2.1 dX11_leafRead_179 (by decide) ?_
      refine lv_icmp_ne (tgt := 187) C.1 C.2.1 dX11_leafRead_180 (by decide) (fun c180 => ?_) (fun c180 => ?_)
      · replace hh := hh.1 c180
        refine lv_aload_n C.1 C.2.1 dX11_leafRead_187 rfl (lv_at hl 0 rfl) ?_
        refine m_gi C hw (inC inW11) 9 (by decide) (wc w_1471) mg_9 (x := u162.1 9) rfl dX11_leafRead_188 ?_
        refine lv_iconst (v := (4 : Int32)) C.1 C.2.1 dX11_leafRead_191 (by decide) ?_
        refine lv_icmp_ne (tgt := 199) C.1 C.2.1 dX11_leafRead_192 (by decide) (fun c192 => ?_) (fun c192 => ?_)
        · replace hh := hh.1 c192
          refine lv_aload_n C.1 C.2.1 dX11_leafRead_199 rfl (lv_at hl 0 rfl) ?_
          refine m_gi C hw (inC inW11) 9 (by decide) (wc w_1471) mg_9 (x := u162.1 9) rfl dX11_leafRead_200 ?_
          refine lv_bipush (v := (23 : Int32)) C.1 C.2.1 dX11_leafRead_203 (by decide) ?_
          refine lv_icmp_ne (tgt := 212) C.1 C.2.1 dX11_leafRead_205 (by decide) (fun c205 => ?_) (fun c205 => ?_)
          · replace hh := hh.1 c205
            refine lv_iconst (v := (3 : Int32)) C.1 C.2.1 dX11_leafRead_212 (by decide) ?_
            exact tX11_leafRead_b213 C hR hh hw (lv_sub hl [0] rfl)
          · replace hh := hh.2 c205
            refine lv_iconst (v := (2 : Int32)) C.1 C.2.1 dX11_leafRead_208 (by decide) ?_
            refine lv_goto (tgt := 213) C.1 C.2.1 dX11_leafRead_209 (by decide) ?_
            exact tX11_leafRead_b213 C hR hh hw (lv_sub hl [0] rfl)
        · replace hh := hh.2 c192
          refine lv_iconst (v := (1 : Int32)) C.1 C.2.1 dX11_leafRead_195 (by decide) ?_
          refine lv_goto (tgt := 213) C.1 C.2.1 dX11_leafRead_196 (by decide) ?_
          exact tX11_leafRead_b213 C hR hh hw (lv_sub hl [0] rfl)
      · replace hh := hh.2 c180
        refine lv_iconst (v := (0 : Int32)) C.1 C.2.1 dX11_leafRead_183 (by decide) ?_
        refine lv_goto (tgt := 213) C.1 C.2.1 dX11_leafRead_184 (by decide) ?_
        exact tX11_leafRead_b213 C hR hh hw (lv_sub hl [0] rfl)
  · replace hh := hh.2 c165
    refine lv_iconst (v := (0 : Int32)) C.1 C.2.1 dX11_leafRead_168 (by decide) ?_
    exact hR _ _ _ (u162.1, u162.2) _ _ dX11_leafRead_169 rfl hh hw
set_option maxHeartbeats 4000000 in
set_option maxRecDepth 100000 in
theorem tX11_leafRead_b142 {K : Int32 → ((Nat → Int32) × (Nat → Nat → Int32)) → Prop} (C : CallFix p m c cX11_leafRead 2 s args wsX11_leafRead RX11) (hR : Rti .boolean p l e rmX11_leafRead s m args below meth c cX11_leafRead D A (mT cI cZ) (mWu o h cI cZ) K Q) {f : Nat → Int32} {g : Nat → Nat → Int32} {k0 : Int32} (hh : wpX11_leafRead_b142 f g k0 K) {H : Heap} {locs : List Loc} {ls : Array Slot} (hw : Wd D A s (mT cI cZ) (mW o h cI cZ f g) H locs) (hl : lv_has ls 2 [(0, .ref o)]) : W p l e rmX11_leafRead s m args below meth c H locs 0 0 Q (F0 m 142 ls [.int k0]) := by
  unfold wpX11_leafRead_b142 at hh
  refine lv_istore_n (lv' := [(1, .int k0), (0, .ref o)]) C.1 C.2.1 dX11_leafRead_142 rfl hl (by decide) rfl (fun ls hl => ?_)
  refine lv_iload_n C.1 C.2.1 dX11_leafRead_143 rfl (lv_at hl 0 rfl) ?_
  refine lv_if_ne (tgt := 161) C.1 C.2.1 dX11_leafRead_144 (by decide) (fun c144 => ?_) (fun c144 => ?_)
  · replace hh := hh.1 c144
    exact tX11_leafRead_b161 C hR hh hw (lv_sub hl [1, 0] rfl)
  · replace hh := hh.2 c144
    refine lv_aload_n C.1 C.2.1 dX11_leafRead_147 rfl (lv_at hl 1 rfl) ?_
    refine m_gi C hw (inC inW11) 8 (by decide) (wc w_1470) mg_8 (x := f 8) rfl dX11_leafRead_148 ?_
    refine lv_iconst (v := (2 : Int32)) C.1 C.2.1 dX11_leafRead_151 (by decide) ?_
    refine lv_icmp_eq (tgt := 161) C.1 C.2.1 dX11_leafRead_152 (by decide) (fun c152 => ?_) (fun c152 => ?_)
    · replace hh := hh.1 c152
      exact tX11_leafRead_b161 C hR hh hw (lv_sub hl [1, 0] rfl)
    · replace hh := hh.2 c152
      refine lv_aload_n C.1 C.2.1 dX11_leafRead_155 rfl (lv_at hl 1 rfl) ?_
      refine lv_iconst (v := (1 : Int32)) C.1 C.2.1 dX11_leafRead_156 (by decide) ?_
      refine m_Vi C hw (ctX11_wrong l D o h cI cZ f g (1 : Int32) hh) (cwV 1 C.2.2.2.2 (gd_V w_1729 w_1731 w_64 w_125 w_1732) rfl rfl rfl cdX11_wrong ⟨Nat.le_of_ble_eq_true rfl, Nat.le_of_ble_eq_true rfl⟩) rfl hl.1 (Nat.le_of_ble_eq_true rfl) dX11_leafRead_157 ⟨Nat.zero_le _, Nat.zero_le _⟩ (fun r157 u157 H locs hh hw => ?_) rfl
      obtain ⟨hb160, hh⟩ := hh
      exact hR _ _ _ (u157.1, u157.2) _ _ dX11_leafRead_160 (isB_nar hb160) hh hw
set_option maxHeartbeats 4000000 in
set_option maxRecDepth 100000 in
theorem tX11_leafRead_b137 {K : Int32 → ((Nat → Int32) × (Nat → Nat → Int32)) → Prop} (C : CallFix p m c cX11_leafRead 2 s args wsX11_leafRead RX11) (hR : Rti .boolean p l e rmX11_leafRead s m args below meth c cX11_leafRead D A (mT cI cZ) (mWu o h cI cZ) K Q) {f : Nat → Int32} {g : Nat → Nat → Int32} (hh : wpX11_leafRead_b137 f g K) {H : Heap} {locs : List Loc} {ls : Array Slot} (hw : Wd D A s (mT cI cZ) (mW o h cI cZ f g) H locs) (hl : lv_has ls 2 [(0, .ref o)]) : W p l e rmX11_leafRead s m args below meth c H locs 0 0 Q (F0 m 137 ls []) := by
  unfold wpX11_leafRead_b137 at hh
  refine lv_iconst (v := (1 : Int32)) C.1 C.2.1 dX11_leafRead_137 (by decide) ?_
  refine lv_goto (tgt := 142) C.1 C.2.1 dX11_leafRead_138 (by decide) ?_
  exact tX11_leafRead_b142 C hR hh hw hl
set_option maxHeartbeats 4000000 in
set_option maxRecDepth 100000 in
theorem tX11_leafRead_b0 {K : Int32 → ((Nat → Int32) × (Nat → Nat → Int32)) → Prop} (C : CallFix p m c cX11_leafRead 2 s args wsX11_leafRead RX11) (hR : Rti .boolean p l e rmX11_leafRead s m args below meth c cX11_leafRead D A (mT cI cZ) (mWu o h cI cZ) K Q) {f : Nat → Int32} {g : Nat → Nat → Int32} (hh : wpX11_leafRead_b0 f g K) {H : Heap} {locs : List Loc} {ls : Array Slot} (hw : Wd D A s (mT cI cZ) (mW o h cI cZ f g) H locs) (hl : lv_has ls 2 [(0, .ref o)]) : W p l e rmX11_leafRead s m args below meth c H locs 0 0 Q (F0 m 0 ls []) := by
  unfold wpX11_leafRead_b0 at hh
  refine lv_aload_n C.1 C.2.1 dX11_leafRead_0 rfl (lv_at hl 0 rfl) ?_
  refine lv_bipush (v := (40 : Int32)) C.1 C.2.1 dX11_leafRead_1 (by decide) ?_
  refine m_Vi C hw (ctX11_isSign l D o h cI cZ f g (40 : Int32) hh) (cwV 1 C.2.2.2.2 (gd_V w_1745 w_1747 w_68 w_125 w_1748) rfl rfl rfl cdX11_isSign ⟨Nat.le_of_ble_eq_true rfl, Nat.le_of_ble_eq_true rfl⟩) rfl hl.1 (Nat.le_of_ble_eq_true rfl) dX11_leafRead_3 ⟨Nat.zero_le _, Nat.zero_le _⟩ (fun r3 u3 H locs hh hw => ?_) rfl
  refine lv_if_eq (tgt := 60) C.1 C.2.1 dX11_leafRead_6 (by decide) (fun c6 => ?_) (fun c6 => ?_)
  · replace hh := hh.1 c6
    refine lv_aload_n C.1 C.2.1 dX11_leafRead_60 rfl (lv_at hl 0 rfl) ?_
    refine lv_iconst (v := (2 : Int32)) C.1 C.2.1 dX11_leafRead_61 (by decide) ?_
    refine m_Vi C hw (ctX11_isKey l D o h cI cZ u3.1 u3.2 (2 : Int32) hh) (cwV 1 C.2.2.2.2 (gd_V w_1725 w_1727 w_63 w_125 w_1728) rfl rfl rfl cdX11_isKey ⟨Nat.le_of_ble_eq_true rfl, Nat.le_of_ble_eq_true rfl⟩) rfl hl.1 (Nat.le_of_ble_eq_true rfl) dX11_leafRead_62 ⟨Nat.zero_le _, Nat.zero_le _⟩ (fun r62 u62 H locs hh hw => ?_) rfl
    refine lv_if_eq (tgt := 103) C.1 C.2.1 dX11_leafRead_65 (by decide) (fun c65 => ?_) (fun c65 => ?_)
    · replace hh := hh.1 c65
      refine lv_aload_n C.1 C.2.1 dX11_leafRead_103 rfl (lv_at hl 0 rfl) ?_
      refine lv_iconst (v := (3 : Int32)) C.1 C.2.1 dX11_leafRead_104 (by decide) ?_
      refine m_Vi C hw (ctX11_isKey l D o h cI cZ u62.1 u62.2 (3 : Int32) hh) (cwV 1 C.2.2.2.2 (gd_V w_1725 w_1727 w_63 w_125 w_1728) rfl rfl rfl cdX11_isKey ⟨Nat.le_of_ble_eq_true rfl, Nat.le_of_ble_eq_true rfl⟩) rfl hl.1 (Nat.le_of_ble_eq_true rfl) dX11_leafRead_105 ⟨Nat.zero_le _, Nat.zero_le _⟩ (fun r105 u105 H locs hh hw => ?_) rfl
      refine lv_if_ne (tgt := 137) C.1 C.2.1 dX11_leafRead_108 (by decide) (fun c108 => ?_) (fun c108 => ?_)
      · replace hh := hh.1 c108
        exact tX11_leafRead_b137 C hR hh hw hl
      · replace hh := hh.2 c108
        refine lv_aload_n C.1 C.2.1 dX11_leafRead_111 rfl (lv_at hl 0 rfl) ?_
        refine lv_iconst (v := (4 : Int32)) C.1 C.2.1 dX11_leafRead_112 (by decide) ?_
        refine m_Vi C hw (ctX11_isKey l D o h cI cZ u105.1 u105.2 (4 : Int32) hh) (cwV 1 C.2.2.2.2 (gd_V w_1725 w_1727 w_63 w_125 w_1728) rfl rfl rfl cdX11_isKey ⟨Nat.le_of_ble_eq_true rfl, Nat.le_of_ble_eq_true rfl⟩) rfl hl.1 (Nat.le_of_ble_eq_true rfl) dX11_leafRead_113 ⟨Nat.zero_le _, Nat.zero_le _⟩ (fun r113 u113 H locs hh hw => ?_) rfl
        refine lv_if_ne (tgt := 137) C.1 C.2.1 dX11_leafRead_116 (by decide) (fun c116 => ?_) (fun c116 => ?_)
        · replace hh := hh.1 c116
          exact tX11_leafRead_b137 C hR hh hw hl
        · replace hh := hh.2 c116
          refine lv_aload_n C.1 C.2.1 dX11_leafRead_119 rfl (lv_at hl 0 rfl) ?_
          refine lv_bipush (v := (23 : Int32)) C.1 C.2.1 dX11_leafRead_120 (by decide) ?_
          refine m_Vi C hw (ctX11_isKey l D o h cI cZ u113.1 u113.2 (23 : Int32) hh) (cwV 1 C.2.2.2.2 (gd_V w_1725 w_1727 w_63 w_125 w_1728) rfl rfl rfl cdX11_isKey ⟨Nat.le_of_ble_eq_true rfl, Nat.le_of_ble_eq_true rfl⟩) rfl hl.1 (Nat.le_of_ble_eq_true rfl) dX11_leafRead_122 ⟨Nat.zero_le _, Nat.zero_le _⟩ (fun r122 u122 H locs hh hw => ?_) rfl
          refine lv_if_ne (tgt := 137) C.1 C.2.1 dX11_leafRead_125 (by decide) (fun c125 => ?_) (fun c125 => ?_)
          · replace hh := hh.1 c125
            exact tX11_leafRead_b137 C hR hh hw hl
          · replace hh := hh.2 c125
            refine lv_aload_n C.1 C.2.1 dX11_leafRead_128 rfl (lv_at hl 0 rfl) ?_
            refine lv_bipush (v := (24 : Int32)) C.1 C.2.1 dX11_leafRead_129 (by decide) ?_
            refine m_Vi C hw (ctX11_isKey l D o h cI cZ u122.1 u122.2 (24 : Int32) hh) (cwV 1 C.2.2.2.2 (gd_V w_1725 w_1727 w_63 w_125 w_1728) rfl rfl rfl cdX11_isKey ⟨Nat.le_of_ble_eq_true rfl, Nat.le_of_ble_eq_true rfl⟩) rfl hl.1 (Nat.le_of_ble_eq_true rfl) dX11_leafRead_131 ⟨Nat.zero_le _, Nat.zero_le _⟩ (fun r131 u131 H locs hh hw => ?_) rfl
            refine lv_if_eq (tgt := 141) C.1 C.2.1 dX11_leafRead_134 (by decide) (fun c134 => ?_) (fun c134 => ?_)
            · replace hh := hh.1 c134
              refine lv_iconst (v := (0 : Int32)) C.1 C.2.1 dX11_leafRead_141 (by decide) ?_
              exact tX11_leafRead_b142 C hR hh hw hl
            · replace hh := hh.2 c134
              exact tX11_leafRead_b137 C hR hh hw hl
    · replace hh := hh.2 c65
      refine lv_aload_n C.1 C.2.1 dX11_leafRead_68 rfl (lv_at hl 0 rfl) ?_
      refine m_Vi C hw (ctX11_isCounted l D o h cI cZ u62.1 u62.2  hh) (cwV 0 C.2.2.2.2 (gd_V w_1777 w_1779 w_74 w_125 w_1780) rfl rfl rfl cdX11_isCounted ⟨Nat.le_of_ble_eq_true rfl, Nat.le_of_ble_eq_true rfl⟩) rfl hl.1 (Nat.le_of_ble_eq_true rfl) dX11_leafRead_69 ⟨Nat.zero_le _, Nat.zero_le _⟩ (fun r69 u69 H locs hh hw => ?_) rfl
      refine lv_if_ne (tgt := 77) C.1 C.2.1 dX11_leafRead_72 (by decide) (fun c72 => ?_) (fun c72 => ?_)
      · replace hh := hh.1 c72
        refine lv_aload_n C.1 C.2.1 dX11_leafRead_77 rfl (lv_at hl 0 rfl) ?_
        refine m_ga C hw (inC inW11) 31 (by decide) (wc w_1493) mg_31 dX11_leafRead_78 ?_
        refine lv_aload_n C.1 C.2.1 dX11_leafRead_81 rfl (lv_at hl 0 rfl) ?_
        refine m_gi C hw (inC inW11) 33 (by decide) (wc w_1495) mg_33 (x := u69.1 33) rfl dX11_leafRead_82 ?_
        refine lv_iconst (v := (5 : Int32)) C.1 C.2.1 dX11_leafRead_85 (by decide) ?_
        obtain ⟨hi86, hh⟩ := hh
        refine m_ias C hw mp_31 mq_31 hi86 dX11_leafRead_86 (fun H locs hw => ?_)
        refine lv_aload_n C.1 C.2.1 dX11_leafRead_87 rfl (lv_at hl 0 rfl) ?_
        refine lv_dup C.1 C.2.1 dX11_leafRead_88 rfl ?_
        refine m_gi C hw (inC inW11) 33 (by decide) (wc w_1495) mg_33 (x := u69.1 33) rfl dX11_leafRead_89 ?_
        refine lv_iconst (v := (1 : Int32)) C.1 C.2.1 dX11_leafRead_92 (by decide) ?_
        refine lv_iadd C.1 C.2.1 dX11_leafRead_93 ?_
        refine m_pi C hw (inC inW11) 33 (by decide) (wc w_1495) rfl (ty := .int) (by decide +kernel) rfl rfl (Nat.le_of_ble_eq_true rfl) ms_33 dX11_leafRead_94 (fun H locs hw => ?_)
        refine lv_aload_n C.1 C.2.1 dX11_leafRead_97 rfl (lv_at hl 0 rfl) ?_
        refine m_Vv C hw (ctX11_take l D o h cI cZ (upd u69.1 33 ((u69.1 33) + (1 : Int32))) (pt u69.2 31 (ix (u69.1 33)) (5 : Int32))  hh) (cwV 0 C.2.2.2.2 (gd_V w_1698 w_1700 w_57 w_125 w_1701) rfl rfl rfl cdX11_take ⟨Nat.le_of_ble_eq_true rfl, Nat.le_of_ble_eq_true rfl⟩) rfl hl.1 (Nat.le_of_ble_eq_true rfl) dX11_leafRead_98 ⟨Nat.zero_le _, Nat.zero_le _⟩ (fun u98 H locs hh hw => ?_) rfl
        refine lv_iconst (v := (1 : Int32)) C.1 C.2.1 dX11_leafRead_101 (by decide) ?_
        exact hR _ _ _ (u98.1, u98.2) _ _ dX11_leafRead_102 rfl hh hw
      · replace hh := hh.2 c72
        refine lv_iconst (v := (0 : Int32)) C.1 C.2.1 dX11_leafRead_75 (by decide) ?_
        exact hR _ _ _ (u69.1, u69.2) _ _ dX11_leafRead_76 rfl hh hw
  · replace hh := hh.2 c6
    refine lv_aload_n C.1 C.2.1 dX11_leafRead_9 rfl (lv_at hl 0 rfl) ?_
    refine m_gi C hw (inC inW11) 35 (by decide) (wc w_1497) mg_35 (x := u3.1 35) rfl dX11_leafRead_10 ?_
    refine lv_bipush (v := (8 : Int32)) C.1 C.2.1 dX11_leafRead_13 (by decide) ?_
    refine lv_icmp_ne (tgt := 24) C.1 C.2.1 dX11_leafRead_15 (by decide) (fun c15 => ?_) (fun c15 => ?_)
    · replace hh := hh.1 c15
      refine lv_aload_n C.1 C.2.1 dX11_leafRead_24 rfl (lv_at hl 0 rfl) ?_
      refine lv_dup C.1 C.2.1 dX11_leafRead_25 rfl ?_
      refine m_gi C hw (inC inW11) 35 (by decide) (wc w_1497) mg_35 (x := u3.1 35) rfl dX11_leafRead_26 ?_
      refine lv_iconst (v := (1 : Int32)) C.1 C.2.1 dX11_leafRead_29 (by decide) ?_
      refine lv_iadd C.1 C.2.1 dX11_leafRead_30 ?_
      refine m_pi C hw (inC inW11) 35 (by decide) (wc w_1497) rfl (ty := .int) (by decide +kernel) rfl rfl (Nat.le_of_ble_eq_true rfl) ms_35 dX11_leafRead_31 (fun H locs hw => ?_)
      refine lv_aload_n C.1 C.2.1 dX11_leafRead_34 rfl (lv_at hl 0 rfl) ?_
      refine m_ga C hw (inC inW11) 31 (by decide) (wc w_1493) mg_31 dX11_leafRead_35 ?_
      refine lv_aload_n C.1 C.2.1 dX11_leafRead_38 rfl (lv_at hl 0 rfl) ?_
      refine m_gi C hw (inC inW11) 33 (by decide) (wc w_1495) mg_33 (x := u3.1 33) rfl dX11_leafRead_39 ?_
      refine lv_iconst (v := (0 : Int32)) C.1 C.2.1 dX11_leafRead_42 (by decide) ?_
      obtain ⟨hi43, hh⟩ := hh
      refine m_ias C hw mp_31 mq_31 hi43 dX11_leafRead_43 (fun H locs hw => ?_)
      refine lv_aload_n C.1 C.2.1 dX11_leafRead_44 rfl (lv_at hl 0 rfl) ?_
      refine lv_dup C.1 C.2.1 dX11_leafRead_45 rfl ?_
      refine m_gi C hw (inC inW11) 33 (by decide) (wc w_1495) mg_33 (x := u3.1 33) rfl dX11_leafRead_46 ?_
      refine lv_iconst (v := (1 : Int32)) C.1 C.2.1 dX11_leafRead_49 (by decide) ?_
      refine lv_iadd C.1 C.2.1 dX11_leafRead_50 ?_
      refine m_pi C hw (inC inW11) 33 (by decide) (wc w_1495) rfl (ty := .int) (by decide +kernel) rfl rfl (Nat.le_of_ble_eq_true rfl) ms_33 dX11_leafRead_51 (fun H locs hw => ?_)
      refine lv_aload_n C.1 C.2.1 dX11_leafRead_54 rfl (lv_at hl 0 rfl) ?_
      refine m_Vv C hw (ctX11_take l D o h cI cZ (upd (upd u3.1 35 ((u3.1 35) + (1 : Int32))) 33 ((u3.1 33) + (1 : Int32))) (pt u3.2 31 (ix (u3.1 33)) (0 : Int32))  hh) (cwV 0 C.2.2.2.2 (gd_V w_1698 w_1700 w_57 w_125 w_1701) rfl rfl rfl cdX11_take ⟨Nat.le_of_ble_eq_true rfl, Nat.le_of_ble_eq_true rfl⟩) rfl hl.1 (Nat.le_of_ble_eq_true rfl) dX11_leafRead_55 ⟨Nat.zero_le _, Nat.zero_le _⟩ (fun u55 H locs hh hw => ?_) rfl
      refine lv_iconst (v := (1 : Int32)) C.1 C.2.1 dX11_leafRead_58 (by decide) ?_
      exact hR _ _ _ (u55.1, u55.2) _ _ dX11_leafRead_59 rfl hh hw
    · replace hh := hh.2 c15
      refine lv_aload_n C.1 C.2.1 dX11_leafRead_18 rfl (lv_at hl 0 rfl) ?_
      refine lv_iconst (v := (2 : Int32)) C.1 C.2.1 dX11_leafRead_19 (by decide) ?_
      refine m_Vi C hw (ctX11_wrong l D o h cI cZ u3.1 u3.2 (2 : Int32) hh) (cwV 1 C.2.2.2.2 (gd_V w_1729 w_1731 w_64 w_125 w_1732) rfl rfl rfl cdX11_wrong ⟨Nat.le_of_ble_eq_true rfl, Nat.le_of_ble_eq_true rfl⟩) rfl hl.1 (Nat.le_of_ble_eq_true rfl) dX11_leafRead_20 ⟨Nat.zero_le _, Nat.zero_le _⟩ (fun r20 u20 H locs hh hw => ?_) rfl
      obtain ⟨hb23, hh⟩ := hh
      exact hR _ _ _ (u20.1, u20.2) _ _ dX11_leafRead_23 (isB_nar hb23) hh hw
theorem ctX11_leafRead (l : Launch) (D : va_G) (o : Nat) (h : Nat → Nat) (cI cZ : ClassId) (f : Nat → Int32) (g : Nat → Nat → Int32) {K : Int32 → ((Nat → Int32) × (Nat → Nat → Int32)) → Prop} (hh : wpX11_leafRead f g K) : Ci l yX11_leafRead wsX11_leafRead rmX11_leafRead [.ref o] D (mT cI cZ) (mWu o h cI cZ) (f, g) K := by
  refine Ci_of (cc := cX11_leafRead) (maxL := 2) (by decide) rfl (Nat.le_of_ble_eq_true rfl) ?_
  intro p e s m below meth c A Q C hw hR ls hl
  exact tX11_leafRead_b0 C hR hh hw hl
theorem cdX11_leafRead : yX11_leafRead.cls = RX11 ∧ yX11_leafRead.cls ≠ "java/lang/invoke/MethodHandle" ∧ yX11_leafRead.cls ≠ "java/lang/invoke/VarHandle" ∧ (parseMethodDescriptor yX11_leafRead.desc).map (fun d => d.parameters.length) = some 0 := by decide +kernel
abbrev rmX11_signs : Room := { frames := 2, cells := 0, slots := 0, locals := 48 }
set_option maxHeartbeats 4000000 in
set_option maxRecDepth 100000 in
theorem tX11_signs_b34 {K : Int32 → ((Nat → Int32) × (Nat → Nat → Int32)) → Prop} (C : CallFix p m c cX11_signs 2 s args wsX11_signs RX11) (hR : Rti .boolean p l e rmX11_signs s m args below meth c cX11_signs D A (mT cI cZ) (mWu o h cI cZ) K Q) {f : Nat → Int32} {g : Nat → Nat → Int32} {k0 : Int32} (hh : wpX11_signs_b34 f g k0 K) {H : Heap} {locs : List Loc} {ls : Array Slot} (hw : Wd D A s (mT cI cZ) (mW o h cI cZ f g) H locs) (hl : lv_has ls 2 [(0, .ref o)]) : W p l e rmX11_signs s m args below meth c H locs 0 0 Q (F0 m 34 ls [.int k0]) := by
  unfold wpX11_signs_b34 at hh
  refine lv_istore_n (lv' := [(1, .int k0), (0, .ref o)]) C.1 C.2.1 dX11_signs_34 rfl hl (by decide) rfl (fun ls hl => ?_)
  refine lv_aload_n C.1 C.2.1 dX11_signs_35 rfl (lv_at hl 1 rfl) ?_
  refine m_Vi C hw (ctX11_isCounted l D o h cI cZ f g  hh) (cwV 0 C.2.2.2.2 (gd_V w_1777 w_1779 w_74 w_125 w_1780) rfl rfl rfl cdX11_isCounted ⟨Nat.le_of_ble_eq_true rfl, Nat.le_of_ble_eq_true rfl⟩) rfl hl.1 (Nat.le_of_ble_eq_true rfl) dX11_signs_36 ⟨Nat.zero_le _, Nat.zero_le _⟩ (fun r36 u36 H locs hh hw => ?_) rfl
  refine lv_if_ne (tgt := 44) C.1 C.2.1 dX11_signs_39 (by decide) (fun c39 => ?_) (fun c39 => ?_)
  · replace hh := hh.1 c39
    refine lv_aload_n C.1 C.2.1 dX11_signs_44 rfl (lv_at hl 1 rfl) ?_
    refine lv_iload_n C.1 C.2.1 dX11_signs_45 rfl (lv_at hl 0 rfl) ?_
    refine wd_Si C hw (ctX11_weight l D k0 hh) (va_cwS 1 C.2.2.2.2 (gd_S w_1789 w_1790 (ini_cls rfl w_125) w_1791) rfl rfl rfl cdX11_weight ⟨Nat.le_of_ble_eq_true rfl, Nat.le_of_ble_eq_true rfl⟩) rfl hl.1 (Nat.le_of_ble_eq_true rfl) dX11_signs_46 ⟨Nat.zero_le _, Nat.zero_le _⟩ (fun r46 H locs hh hw => ?_) rfl
    refine m_Vv C hw (ctX11_bind l D o h cI cZ u36.1 u36.2 r46 hh) (cwV 1 C.2.2.2.2 (gd_V w_1792 w_1794 w_77 w_125 w_1795) rfl rfl rfl cdX11_bind ⟨Nat.le_of_ble_eq_true rfl, Nat.le_of_ble_eq_true rfl⟩) rfl hl.1 (Nat.le_of_ble_eq_true rfl) dX11_signs_49 ⟨Nat.zero_le _, Nat.zero_le _⟩ (fun u49 H locs hh hw => ?_) rfl
    refine lv_aload_n C.1 C.2.1 dX11_signs_52 rfl (lv_at hl 1 rfl) ?_
    refine m_ga C hw (inC inW11) 31 (by decide) (wc w_1493) mg_31 dX11_signs_53 ?_
    refine lv_aload_n C.1 C.2.1 dX11_signs_56 rfl (lv_at hl 1 rfl) ?_
    refine m_gi C hw (inC inW11) 33 (by decide) (wc w_1495) mg_33 (x := u49.1 33) rfl dX11_signs_57 ?_
    refine lv_iload_n C.1 C.2.1 dX11_signs_60 rfl (lv_at hl 0 rfl) ?_
    obtain ⟨hi61, hh⟩ := hh
    refine m_ias C hw mp_31 mq_31 hi61 dX11_signs_61 (fun H locs hw => ?_)
    refine lv_aload_n C.1 C.2.1 dX11_signs_62 rfl (lv_at hl 1 rfl) ?_
    refine lv_dup C.1 C.2.1 dX11_signs_63 rfl ?_
    refine m_gi C hw (inC inW11) 33 (by decide) (wc w_1495) mg_33 (x := u49.1 33) rfl dX11_signs_64 ?_
    refine lv_iconst (v := (1 : Int32)) C.1 C.2.1 dX11_signs_67 (by decide) ?_
    refine lv_iadd C.1 C.2.1 dX11_signs_68 ?_
    refine m_pi C hw (inC inW11) 33 (by decide) (wc w_1495) rfl (ty := .int) (by decide +kernel) rfl rfl (Nat.le_of_ble_eq_true rfl) ms_33 dX11_signs_69 (fun H locs hw => ?_)
    refine lv_aload_n C.1 C.2.1 dX11_signs_72 rfl (lv_at hl 1 rfl) ?_
    refine lv_iconst (v := (0 : Int32)) C.1 C.2.1 dX11_signs_73 (by decide) ?_
    refine m_pi C hw (inC inW11) 37 (by decide) (wc w_1499) rfl (ty := .int) (by decide +kernel) rfl rfl (Nat.le_of_ble_eq_true rfl) ms_37 dX11_signs_74 (fun H locs hw => ?_)
    refine lv_aload_n C.1 C.2.1 dX11_signs_77 rfl (lv_at hl 1 rfl) ?_
    refine m_Vv C hw (ctX11_take l D o h cI cZ (upd (upd u49.1 33 ((u49.1 33) + (1 : Int32))) 37 (0 : Int32)) (pt u49.2 31 (ix (u49.1 33)) k0)  hh) (cwV 0 C.2.2.2.2 (gd_V w_1698 w_1700 w_57 w_125 w_1701) rfl rfl rfl cdX11_take ⟨Nat.le_of_ble_eq_true rfl, Nat.le_of_ble_eq_true rfl⟩) rfl hl.1 (Nat.le_of_ble_eq_true rfl) dX11_signs_78 ⟨Nat.zero_le _, Nat.zero_le _⟩ (fun u78 H locs hh hw => ?_) rfl
    refine lv_iconst (v := (1 : Int32)) C.1 C.2.1 dX11_signs_81 (by decide) ?_
    exact hR _ _ _ (u78.1, u78.2) _ _ dX11_signs_82 rfl hh hw
  · replace hh := hh.2 c39
    refine lv_iconst (v := (0 : Int32)) C.1 C.2.1 dX11_signs_42 (by decide) ?_
    exact hR _ _ _ (u36.1, u36.2) _ _ dX11_signs_43 rfl hh hw
set_option maxHeartbeats 4000000 in
set_option maxRecDepth 100000 in
theorem tX11_signs_b18 {K : Int32 → ((Nat → Int32) × (Nat → Nat → Int32)) → Prop} (C : CallFix p m c cX11_signs 2 s args wsX11_signs RX11) (hR : Rti .boolean p l e rmX11_signs s m args below meth c cX11_signs D A (mT cI cZ) (mWu o h cI cZ) K Q) {f : Nat → Int32} {g : Nat → Nat → Int32} (hh : wpX11_signs_b18 f g K) {H : Heap} {locs : List Loc} {ls : Array Slot} (hw : Wd D A s (mT cI cZ) (mW o h cI cZ f g) H locs) (hl : lv_has ls 2 [(0, .ref o)]) : W p l e rmX11_signs s m args below meth c H locs 0 0 Q (F0 m 18 ls []) := by
  unfold wpX11_signs_b18 at hh
  refine lv_aload_n C.1 C.2.1 dX11_signs_18 rfl (lv_at hl 0 rfl) ?_
  refine m_gi C hw (inC inW11) 9 (by decide) (wc w_1471) mg_9 (x := f 9) rfl dX11_signs_19 ?_
  refine lv_bipush (v := (22 : Int32)) C.1 C.2.1 dX11_signs_22 (by decide) ?_
  refine lv_icmp_ne (tgt := 32) C.1 C.2.1 dX11_signs_24 (by decide) (fun c24 => ?_) (fun c24 => ?_)
  · replace hh := hh.1 c24
    refine lv_bipush (v := (7 : Int32)) C.1 C.2.1 dX11_signs_32 (by decide) ?_
    exact tX11_signs_b34 C hR hh hw hl
  · replace hh := hh.2 c24
    refine lv_bipush (v := (6 : Int32)) C.1 C.2.1 dX11_signs_27 (by decide) ?_
    refine lv_goto (tgt := 34) C.1 C.2.1 dX11_signs_29 (by decide) ?_
    exact tX11_signs_b34 C hR hh hw hl
set_option maxHeartbeats 4000000 in
set_option maxRecDepth 100000 in
theorem tX11_signs_b99 {K : Int32 → ((Nat → Int32) × (Nat → Nat → Int32)) → Prop} (C : CallFix p m c cX11_signs 2 s args wsX11_signs RX11) (hR : Rti .boolean p l e rmX11_signs s m args below meth c cX11_signs D A (mT cI cZ) (mWu o h cI cZ) K Q) {f : Nat → Int32} {g : Nat → Nat → Int32} (hh : wpX11_signs_b99 f g K) {H : Heap} {locs : List Loc} {ls : Array Slot} (hw : Wd D A s (mT cI cZ) (mW o h cI cZ f g) H locs) (hl : lv_has ls 2 [(0, .ref o)]) : W p l e rmX11_signs s m args below meth c H locs 0 0 Q (F0 m 99 ls []) := by
  unfold wpX11_signs_b99 at hh
  refine lv_aload_n C.1 C.2.1 dX11_signs_99 rfl (lv_at hl 0 rfl) ?_
  refine lv_iconst (v := (1 : Int32)) C.1 C.2.1 dX11_signs_100 (by decide) ?_
  refine m_Vi C hw (ctX11_wrong l D o h cI cZ f g (1 : Int32) hh) (cwV 1 C.2.2.2.2 (gd_V w_1729 w_1731 w_64 w_125 w_1732) rfl rfl rfl cdX11_wrong ⟨Nat.le_of_ble_eq_true rfl, Nat.le_of_ble_eq_true rfl⟩) rfl hl.1 (Nat.le_of_ble_eq_true rfl) dX11_signs_101 ⟨Nat.zero_le _, Nat.zero_le _⟩ (fun r101 u101 H locs hh hw => ?_) rfl
  obtain ⟨hb104, hh⟩ := hh
  exact hR _ _ _ (u101.1, u101.2) _ _ dX11_signs_104 (isB_nar hb104) hh hw
set_option maxHeartbeats 4000000 in
set_option maxRecDepth 100000 in
theorem tX11_signs_b0 {K : Int32 → ((Nat → Int32) × (Nat → Nat → Int32)) → Prop} (C : CallFix p m c cX11_signs 2 s args wsX11_signs RX11) (hR : Rti .boolean p l e rmX11_signs s m args below meth c cX11_signs D A (mT cI cZ) (mWu o h cI cZ) K Q) {f : Nat → Int32} {g : Nat → Nat → Int32} (hh : wpX11_signs_b0 f g K) {H : Heap} {locs : List Loc} {ls : Array Slot} (hw : Wd D A s (mT cI cZ) (mW o h cI cZ f g) H locs) (hl : lv_has ls 2 [(0, .ref o)]) : W p l e rmX11_signs s m args below meth c H locs 0 0 Q (F0 m 0 ls []) := by
  unfold wpX11_signs_b0 at hh
  refine lv_aload_n C.1 C.2.1 dX11_signs_0 rfl (lv_at hl 0 rfl) ?_
  refine lv_bipush (v := (22 : Int32)) C.1 C.2.1 dX11_signs_1 (by decide) ?_
  refine m_Vi C hw (ctX11_isKey l D o h cI cZ f g (22 : Int32) hh) (cwV 1 C.2.2.2.2 (gd_V w_1725 w_1727 w_63 w_125 w_1728) rfl rfl rfl cdX11_isKey ⟨Nat.le_of_ble_eq_true rfl, Nat.le_of_ble_eq_true rfl⟩) rfl hl.1 (Nat.le_of_ble_eq_true rfl) dX11_signs_3 ⟨Nat.zero_le _, Nat.zero_le _⟩ (fun r3 u3 H locs hh hw => ?_) rfl
  refine lv_if_ne (tgt := 18) C.1 C.2.1 dX11_signs_6 (by decide) (fun c6 => ?_) (fun c6 => ?_)
  · replace hh := hh.1 c6
    exact tX11_signs_b18 C hR hh hw hl
  · replace hh := hh.2 c6
    refine lv_aload_n C.1 C.2.1 dX11_signs_9 rfl (lv_at hl 0 rfl) ?_
    refine lv_bipush (v := (21 : Int32)) C.1 C.2.1 dX11_signs_10 (by decide) ?_
    refine m_Vi C hw (ctX11_isKey l D o h cI cZ u3.1 u3.2 (21 : Int32) hh) (cwV 1 C.2.2.2.2 (gd_V w_1725 w_1727 w_63 w_125 w_1728) rfl rfl rfl cdX11_isKey ⟨Nat.le_of_ble_eq_true rfl, Nat.le_of_ble_eq_true rfl⟩) rfl hl.1 (Nat.le_of_ble_eq_true rfl) dX11_signs_12 ⟨Nat.zero_le _, Nat.zero_le _⟩ (fun r12 u12 H locs hh hw => ?_) rfl
    refine lv_if_eq (tgt := 83) C.1 C.2.1 dX11_signs_15 (by decide) (fun c15 => ?_) (fun c15 => ?_)
    · replace hh := hh.1 c15
      refine lv_aload_n C.1 C.2.1 dX11_signs_83 rfl (lv_at hl 0 rfl) ?_
      refine lv_bipush (v := (41 : Int32)) C.1 C.2.1 dX11_signs_84 (by decide) ?_
      refine m_Vi C hw (ctX11_isSign l D o h cI cZ u12.1 u12.2 (41 : Int32) hh) (cwV 1 C.2.2.2.2 (gd_V w_1745 w_1747 w_68 w_125 w_1748) rfl rfl rfl cdX11_isSign ⟨Nat.le_of_ble_eq_true rfl, Nat.le_of_ble_eq_true rfl⟩) rfl hl.1 (Nat.le_of_ble_eq_true rfl) dX11_signs_86 ⟨Nat.zero_le _, Nat.zero_le _⟩ (fun r86 u86 H locs hh hw => ?_) rfl
      refine lv_if_eq (tgt := 99) C.1 C.2.1 dX11_signs_89 (by decide) (fun c89 => ?_) (fun c89 => ?_)
      · replace hh := hh.1 c89
        exact tX11_signs_b99 C hR hh hw hl
      · replace hh := hh.2 c89
        refine lv_aload_n C.1 C.2.1 dX11_signs_92 rfl (lv_at hl 0 rfl) ?_
        refine m_gi C hw (inC inW11) 35 (by decide) (wc w_1497) mg_35 (x := u86.1 35) rfl dX11_signs_93 ?_
        refine lv_if_ne (tgt := 105) C.1 C.2.1 dX11_signs_96 (by decide) (fun c96 => ?_) (fun c96 => ?_)
        · replace hh := hh.1 c96
          refine lv_aload_n C.1 C.2.1 dX11_signs_105 rfl (lv_at hl 0 rfl) ?_
          refine lv_iconst (v := (1 : Int32)) C.1 C.2.1 dX11_signs_106 (by decide) ?_
          refine m_Vv C hw (ctX11_bind l D o h cI cZ u86.1 u86.2 (1 : Int32) hh) (cwV 1 C.2.2.2.2 (gd_V w_1792 w_1794 w_77 w_125 w_1795) rfl rfl rfl cdX11_bind ⟨Nat.le_of_ble_eq_true rfl, Nat.le_of_ble_eq_true rfl⟩) rfl hl.1 (Nat.le_of_ble_eq_true rfl) dX11_signs_107 ⟨Nat.zero_le _, Nat.zero_le _⟩ (fun u107 H locs hh hw => ?_) rfl
          refine lv_aload_n C.1 C.2.1 dX11_signs_110 rfl (lv_at hl 0 rfl) ?_
          refine lv_dup C.1 C.2.1 dX11_signs_111 rfl ?_
          refine m_gi C hw (inC inW11) 33 (by decide) (wc w_1495) mg_33 (x := u107.1 33) rfl dX11_signs_112 ?_
          refine lv_iconst (v := (1 : Int32)) C.1 C.2.1 dX11_signs_115 (by decide) ?_
          refine lv_isub C.1 C.2.1 dX11_signs_116 ?_
          refine m_pi C hw (inC inW11) 33 (by decide) (wc w_1495) rfl (ty := .int) (by decide +kernel) rfl rfl (Nat.le_of_ble_eq_true rfl) ms_33 dX11_signs_117 (fun H locs hw => ?_)
          refine lv_aload_n C.1 C.2.1 dX11_signs_120 rfl (lv_at hl 0 rfl) ?_
          refine lv_dup C.1 C.2.1 dX11_signs_121 rfl ?_
          refine m_gi C hw (inC inW11) 35 (by decide) (wc w_1497) mg_35 (x := u107.1 35) rfl dX11_signs_122 ?_
          refine lv_iconst (v := (1 : Int32)) C.1 C.2.1 dX11_signs_125 (by decide) ?_
          refine lv_isub C.1 C.2.1 dX11_signs_126 ?_
          refine m_pi C hw (inC inW11) 35 (by decide) (wc w_1497) rfl (ty := .int) (by decide +kernel) rfl rfl (Nat.le_of_ble_eq_true rfl) ms_35 dX11_signs_127 (fun H locs hw => ?_)
          refine lv_aload_n C.1 C.2.1 dX11_signs_130 rfl (lv_at hl 0 rfl) ?_
          refine m_Vv C hw (ctX11_take l D o h cI cZ (upd (upd u107.1 33 ((u107.1 33) - (1 : Int32))) 35 ((u107.1 35) - (1 : Int32))) u107.2  hh) (cwV 0 C.2.2.2.2 (gd_V w_1698 w_1700 w_57 w_125 w_1701) rfl rfl rfl cdX11_take ⟨Nat.le_of_ble_eq_true rfl, Nat.le_of_ble_eq_true rfl⟩) rfl hl.1 (Nat.le_of_ble_eq_true rfl) dX11_signs_131 ⟨Nat.zero_le _, Nat.zero_le _⟩ (fun u131 H locs hh hw => ?_) rfl
          refine lv_iconst (v := (1 : Int32)) C.1 C.2.1 dX11_signs_134 (by decide) ?_
          exact hR _ _ _ (u131.1, u131.2) _ _ dX11_signs_135 rfl hh hw
        · replace hh := hh.2 c96
          exact tX11_signs_b99 C hR hh hw hl
    · replace hh := hh.2 c15
      exact tX11_signs_b18 C hR hh hw hl
theorem ctX11_signs (l : Launch) (D : va_G) (o : Nat) (h : Nat → Nat) (cI cZ : ClassId) (f : Nat → Int32) (g : Nat → Nat → Int32) {K : Int32 → ((Nat → Int32) × (Nat → Nat → Int32)) → Prop} (hh : wpX11_signs f g K) : Ci l yX11_signs wsX11_signs rmX11_signs [.ref o] D (mT cI cZ) (mWu o h cI cZ) (f, g) K := by
  refine Ci_of (cc := cX11_signs) (maxL := 2) (by decide) rfl (Nat.le_of_ble_eq_true rfl) ?_
  intro p e s m below meth c A Q C hw hR ls hl
  exact tX11_signs_b0 C hR hh hw hl
theorem cdX11_signs : yX11_signs.cls = RX11 ∧ yX11_signs.cls ≠ "java/lang/invoke/MethodHandle" ∧ yX11_signs.cls ≠ "java/lang/invoke/VarHandle" ∧ (parseMethodDescriptor yX11_signs.desc).map (fun d => d.parameters.length) = some 0 := by decide +kernel
abbrev rmX11_partRead : Room := { frames := 3, cells := 0, slots := 0, locals := 69 }
set_option maxHeartbeats 4000000 in
set_option maxRecDepth 100000 in
theorem tX11_partRead_b80 {K : Int32 → ((Nat → Int32) × (Nat → Nat → Int32)) → Prop} (C : CallFix p m c cX11_partRead 2 s args wsX11_partRead RX11) (hR : Rti .boolean p l e rmX11_partRead s m args below meth c cX11_partRead D A (mT cI cZ) (mWu o h cI cZ) K Q) {f : Nat → Int32} {g : Nat → Nat → Int32} (hh : wpX11_partRead_b80 f g K) {H : Heap} {locs : List Loc} {ls : Array Slot} (hw : Wd D A s (mT cI cZ) (mW o h cI cZ f g) H locs) (hl : lv_has ls 2 [(0, .ref o)]) : W p l e rmX11_partRead s m args below meth c H locs 0 0 Q (F0 m 80 ls []) := by
  unfold wpX11_partRead_b80 at hh
  refine lv_iconst (v := (0 : Int32)) C.1 C.2.1 dX11_partRead_80 (by decide) ?_
  exact hR _ _ _ (f, g) _ _ dX11_partRead_81 rfl hh hw
set_option maxHeartbeats 4000000 in
set_option maxRecDepth 100000 in
theorem tX11_partRead_b56 {B33 : (Nat → Int32) → (Nat → Nat → Int32) → Int32 → Prop} {K : Int32 → ((Nat → Int32) × (Nat → Nat → Int32)) → Prop} (C : CallFix p m c cX11_partRead 2 s args wsX11_partRead RX11) (hR : Rti .boolean p l e rmX11_partRead s m args below meth c cX11_partRead D A (mT cI cZ) (mWu o h cI cZ) K Q) (hB33 : ∀ (f : Nat → Int32) (g : Nat → Nat → Int32) (x1 : Int32) (H : Heap) (locs : List Loc) (ls : Array Slot), B33 f g x1 → Wd D A s (mT cI cZ) (mW o h cI cZ f g) H locs → lv_has ls 2 [(0, .ref o), (1, .int x1)] → W p l e rmX11_partRead s m args below meth c H locs 0 0 Q (F0 m 33 ls [])) {f : Nat → Int32} {g : Nat → Nat → Int32} {x1 : Int32} (hh : wpX11_partRead_b56 B33 f g x1 K) {H : Heap} {locs : List Loc} {ls : Array Slot} (hw : Wd D A s (mT cI cZ) (mW o h cI cZ f g) H locs) (hl : lv_has ls 2 [(0, .ref o), (1, .int x1)]) : W p l e rmX11_partRead s m args below meth c H locs 0 0 Q (F0 m 56 ls []) := by
  unfold wpX11_partRead_b56 at hh
  refine lv_aload_n C.1 C.2.1 dX11_partRead_56 rfl (lv_at hl 0 rfl) ?_
  refine m_gi C hw (inC inW11) 37 (by decide) (wc w_1499) mg_37 (x := f 37) rfl dX11_partRead_57 ?_
  refine lv_if_ne (tgt := 73) C.1 C.2.1 dX11_partRead_60 (by decide) (fun c60 => ?_) (fun c60 => ?_)
  · replace hh := hh.1 c60
    refine lv_aload_n C.1 C.2.1 dX11_partRead_73 rfl (lv_at hl 0 rfl) ?_
    refine m_Vi C hw (ctX11_signs l D o h cI cZ f g  hh) (cwV 0 C.2.2.2.2 (gd_V w_1785 w_1787 w_76 w_125 w_1788) rfl rfl rfl cdX11_signs ⟨Nat.le_of_ble_eq_true rfl, Nat.le_of_ble_eq_true rfl⟩) rfl hl.1 (Nat.le_of_ble_eq_true rfl) dX11_partRead_74 ⟨Nat.zero_le _, Nat.zero_le _⟩ (fun r74 u74 H locs hh hw => ?_) rfl
    refine lv_if_ne (tgt := 33) C.1 C.2.1 dX11_partRead_77 (by decide) (fun c77 => ?_) (fun c77 => ?_)
    · replace hh := hh.1 c77
      exact hB33 _ _ _ _ _ _ hh hw hl
    · replace hh := hh.2 c77
      exact tX11_partRead_b80 C hR hh hw (lv_sub hl [0] rfl)
  · replace hh := hh.2 c60
    refine lv_aload_n C.1 C.2.1 dX11_partRead_63 rfl (lv_at hl 0 rfl) ?_
    refine m_Vi C hw (ctX11_leafRead l D o h cI cZ f g  hh) (cwV 0 C.2.2.2.2 (gd_V w_1773 w_1775 w_73 w_125 w_1776) rfl rfl rfl cdX11_leafRead ⟨Nat.le_of_ble_eq_true rfl, Nat.le_of_ble_eq_true rfl⟩) rfl hl.1 (Nat.le_of_ble_eq_true rfl) dX11_partRead_64 ⟨Nat.zero_le _, Nat.zero_le _⟩ (fun r64 u64 H locs hh hw => ?_) rfl
    refine lv_if_eq (tgt := 80) C.1 C.2.1 dX11_partRead_67 (by decide) (fun c67 => ?_) (fun c67 => ?_)
    · replace hh := hh.1 c67
      exact tX11_partRead_b80 C hR hh hw (lv_sub hl [0] rfl)
    · replace hh := hh.2 c67
      refine lv_goto (tgt := 33) C.1 C.2.1 dX11_partRead_70 (by decide) ?_
      exact hB33 _ _ _ _ _ _ hh hw hl
set_option maxHeartbeats 4000000 in
set_option maxRecDepth 100000 in
theorem tX11_partRead_b33_body {B33 : (Nat → Int32) → (Nat → Nat → Int32) → Int32 → Prop} {K : Int32 → ((Nat → Int32) × (Nat → Nat → Int32)) → Prop} (C : CallFix p m c cX11_partRead 2 s args wsX11_partRead RX11) (hR : Rti .boolean p l e rmX11_partRead s m args below meth c cX11_partRead D A (mT cI cZ) (mWu o h cI cZ) K Q) (hB33 : ∀ (f : Nat → Int32) (g : Nat → Nat → Int32) (x1 : Int32) (H : Heap) (locs : List Loc) (ls : Array Slot), B33 f g x1 → Wd D A s (mT cI cZ) (mW o h cI cZ f g) H locs → lv_has ls 2 [(0, .ref o), (1, .int x1)] → W p l e rmX11_partRead s m args below meth c H locs 0 0 Q (F0 m 33 ls [])) {f : Nat → Int32} {g : Nat → Nat → Int32} {x1 : Int32} (hh : wpX11_partRead_b33_body B33 f g x1 K) {H : Heap} {locs : List Loc} {ls : Array Slot} (hw : Wd D A s (mT cI cZ) (mW o h cI cZ f g) H locs) (hl : lv_has ls 2 [(0, .ref o), (1, .int x1)]) : W p l e rmX11_partRead s m args below meth c H locs 0 0 Q (F0 m 33 ls []) := by
  unfold wpX11_partRead_b33_body at hh
  refine lv_aload_n C.1 C.2.1 dX11_partRead_33 rfl (lv_at hl 0 rfl) ?_
  refine lv_bipush (v := (59 : Int32)) C.1 C.2.1 dX11_partRead_34 (by decide) ?_
  refine m_Vi C hw (ctX11_isSign l D o h cI cZ f g (59 : Int32) hh) (cwV 1 C.2.2.2.2 (gd_V w_1745 w_1747 w_68 w_125 w_1748) rfl rfl rfl cdX11_isSign ⟨Nat.le_of_ble_eq_true rfl, Nat.le_of_ble_eq_true rfl⟩) rfl hl.1 (Nat.le_of_ble_eq_true rfl) dX11_partRead_36 ⟨Nat.zero_le _, Nat.zero_le _⟩ (fun r36 u36 H locs hh hw => ?_) rfl
  refine lv_if_eq (tgt := 56) C.1 C.2.1 dX11_partRead_39 (by decide) (fun c39 => ?_) (fun c39 => ?_)
  · replace hh := hh.1 c39
    exact tX11_partRead_b56 C hR hB33 hh hw hl
  · replace hh := hh.2 c39
    refine lv_aload_n C.1 C.2.1 dX11_partRead_42 rfl (lv_at hl 0 rfl) ?_
    refine m_gi C hw (inC inW11) 37 (by decide) (wc w_1499) mg_37 (x := u36.1 37) rfl dX11_partRead_43 ?_
    refine lv_if_eq (tgt := 56) C.1 C.2.1 dX11_partRead_46 (by decide) (fun c46 => ?_) (fun c46 => ?_)
    · replace hh := hh.1 c46
      exact tX11_partRead_b56 C hR hB33 hh hw hl
    · replace hh := hh.2 c46
      refine lv_aload_n C.1 C.2.1 dX11_partRead_49 rfl (lv_at hl 0 rfl) ?_
      refine m_gi C hw (inC inW11) 35 (by decide) (wc w_1497) mg_35 (x := u36.1 35) rfl dX11_partRead_50 ?_
      refine lv_if_le (tgt := 82) C.1 C.2.1 dX11_partRead_53 (by decide) (fun c53 => ?_) (fun c53 => ?_)
      · replace hh := hh.1 c53
        refine lv_aload_n C.1 C.2.1 dX11_partRead_82 rfl (lv_at hl 0 rfl) ?_
        refine lv_iconst (v := (1 : Int32)) C.1 C.2.1 dX11_partRead_83 (by decide) ?_
        refine m_Vv C hw (ctX11_bind l D o h cI cZ u36.1 u36.2 (1 : Int32) hh) (cwV 1 C.2.2.2.2 (gd_V w_1792 w_1794 w_77 w_125 w_1795) rfl rfl rfl cdX11_bind ⟨Nat.le_of_ble_eq_true rfl, Nat.le_of_ble_eq_true rfl⟩) rfl hl.1 (Nat.le_of_ble_eq_true rfl) dX11_partRead_84 ⟨Nat.zero_le _, Nat.zero_le _⟩ (fun u84 H locs hh hw => ?_) rfl
        refine lv_aload_n C.1 C.2.1 dX11_partRead_87 rfl (lv_at hl 0 rfl) ?_
        refine m_ga C hw (inC inW11) 26 (by decide) (wc w_1488) mg_26 dX11_partRead_88 ?_
        refine lv_bipush (v := (24 : Int32)) C.1 C.2.1 dX11_partRead_91 (by decide) ?_
        refine lv_iload_n C.1 C.2.1 dX11_partRead_93 rfl (lv_at hl 1 rfl) ?_
        refine lv_iadd C.1 C.2.1 dX11_partRead_94 ?_
        refine lv_aload_n C.1 C.2.1 dX11_partRead_95 rfl (lv_at hl 0 rfl) ?_
        refine m_gi C hw (inC inW11) 23 (by decide) (wc w_1485) mg_23 (x := u84.1 23) rfl dX11_partRead_96 ?_
        obtain ⟨hi99, hh⟩ := hh
        refine m_ias C hw mp_26 mq_26 hi99 dX11_partRead_99 (fun H locs hw => ?_)
        refine lv_aload_n C.1 C.2.1 dX11_partRead_100 rfl (lv_at hl 0 rfl) ?_
        refine m_Vv C hw (ctX11_take l D o h cI cZ u84.1 (pt u84.2 26 (ix ((24 : Int32) + x1)) (u84.1 23))  hh) (cwV 0 C.2.2.2.2 (gd_V w_1698 w_1700 w_57 w_125 w_1701) rfl rfl rfl cdX11_take ⟨Nat.le_of_ble_eq_true rfl, Nat.le_of_ble_eq_true rfl⟩) rfl hl.1 (Nat.le_of_ble_eq_true rfl) dX11_partRead_101 ⟨Nat.zero_le _, Nat.zero_le _⟩ (fun u101 H locs hh hw => ?_) rfl
        refine lv_iconst (v := (1 : Int32)) C.1 C.2.1 dX11_partRead_104 (by decide) ?_
        exact hR _ _ _ (u101.1, u101.2) _ _ dX11_partRead_105 rfl hh hw
      · replace hh := hh.2 c53
        exact tX11_partRead_b56 C hR hB33 hh hw hl
theorem tX11_partRead_b33 {K : Int32 → ((Nat → Int32) × (Nat → Nat → Int32)) → Prop} (C : CallFix p m c cX11_partRead 2 s args wsX11_partRead RX11) (hR : Rti .boolean p l e rmX11_partRead s m args below meth c cX11_partRead D A (mT cI cZ) (mWu o h cI cZ) K Q) (n : Nat) : ∀ (f : Nat → Int32) (g : Nat → Nat → Int32) (x1 : Int32) (H : Heap) (locs : List Loc) (ls : Array Slot), wpX11_partRead_b33 n f g x1 K → Wd D A s (mT cI cZ) (mW o h cI cZ f g) H locs → lv_has ls 2 [(0, .ref o), (1, .int x1)] → W p l e rmX11_partRead s m args below meth c H locs 0 0 Q (F0 m 33 ls []) := by
  induction n with
  | zero => intro f g x1 H locs ls hh; exact hh.elim
  | succ n ih => intro f g x1 H locs ls hh hw hl; exact tX11_partRead_b33_body C hR ih hh hw hl
set_option maxHeartbeats 4000000 in
set_option maxRecDepth 100000 in
theorem tX11_partRead_b0 {K : Int32 → ((Nat → Int32) × (Nat → Nat → Int32)) → Prop} (C : CallFix p m c cX11_partRead 2 s args wsX11_partRead RX11) (hR : Rti .boolean p l e rmX11_partRead s m args below meth c cX11_partRead D A (mT cI cZ) (mWu o h cI cZ) K Q) {f : Nat → Int32} {g : Nat → Nat → Int32} {x1 : Int32} (hh : wpX11_partRead_b0 f g x1 K) {H : Heap} {locs : List Loc} {ls : Array Slot} (hw : Wd D A s (mT cI cZ) (mW o h cI cZ f g) H locs) (hl : lv_has ls 2 [(0, .ref o), (1, .int x1)]) : W p l e rmX11_partRead s m args below meth c H locs 0 0 Q (F0 m 0 ls []) := by
  unfold wpX11_partRead_b0 at hh
  refine lv_aload_n C.1 C.2.1 dX11_partRead_0 rfl (lv_at hl 0 rfl) ?_
  refine lv_iconst (v := (0 : Int32)) C.1 C.2.1 dX11_partRead_1 (by decide) ?_
  refine m_pi C hw (inC inW11) 33 (by decide) (wc w_1495) rfl (ty := .int) (by decide +kernel) rfl rfl (Nat.le_of_ble_eq_true rfl) ms_33 dX11_partRead_2 (fun H locs hw => ?_)
  refine lv_aload_n C.1 C.2.1 dX11_partRead_5 rfl (lv_at hl 0 rfl) ?_
  refine lv_iconst (v := (0 : Int32)) C.1 C.2.1 dX11_partRead_6 (by decide) ?_
  refine m_pi C hw (inC inW11) 34 (by decide) (wc w_1496) rfl (ty := .int) (by decide +kernel) rfl rfl (Nat.le_of_ble_eq_true rfl) ms_34 dX11_partRead_7 (fun H locs hw => ?_)
  refine lv_aload_n C.1 C.2.1 dX11_partRead_10 rfl (lv_at hl 0 rfl) ?_
  refine lv_iconst (v := (0 : Int32)) C.1 C.2.1 dX11_partRead_11 (by decide) ?_
  refine m_pi C hw (inC inW11) 35 (by decide) (wc w_1497) rfl (ty := .int) (by decide +kernel) rfl rfl (Nat.le_of_ble_eq_true rfl) ms_35 dX11_partRead_12 (fun H locs hw => ?_)
  refine lv_aload_n C.1 C.2.1 dX11_partRead_15 rfl (lv_at hl 0 rfl) ?_
  refine lv_iconst (v := (0 : Int32)) C.1 C.2.1 dX11_partRead_16 (by decide) ?_
  refine m_pi C hw (inC inW11) 37 (by decide) (wc w_1499) rfl (ty := .int) (by decide +kernel) rfl rfl (Nat.le_of_ble_eq_true rfl) ms_37 dX11_partRead_17 (fun H locs hw => ?_)
  refine lv_aload_n C.1 C.2.1 dX11_partRead_20 rfl (lv_at hl 0 rfl) ?_
  refine m_ga C hw (inC inW11) 25 (by decide) (wc w_1487) mg_25 dX11_partRead_21 ?_
  refine lv_bipush (v := (24 : Int32)) C.1 C.2.1 dX11_partRead_24 (by decide) ?_
  refine lv_iload_n C.1 C.2.1 dX11_partRead_26 rfl (lv_at hl 1 rfl) ?_
  refine lv_iadd C.1 C.2.1 dX11_partRead_27 ?_
  refine lv_aload_n C.1 C.2.1 dX11_partRead_28 rfl (lv_at hl 0 rfl) ?_
  refine m_gi C hw (inC inW11) 23 (by decide) (wc w_1485) mg_23 (x := f 23) rfl dX11_partRead_29 ?_
  obtain ⟨hi32, hh⟩ := hh
  refine m_ias C hw mp_25 mq_25 hi32 dX11_partRead_32 (fun H locs hw => ?_)
  obtain ⟨n, hh⟩ := hh
  exact tX11_partRead_b33 C hR n _ _ _ _ _ _ hh hw hl
theorem ctX11_partRead (l : Launch) (D : va_G) (o : Nat) (h : Nat → Nat) (cI cZ : ClassId) (f : Nat → Int32) (g : Nat → Nat → Int32) (x1 : Int32) {K : Int32 → ((Nat → Int32) × (Nat → Nat → Int32)) → Prop} (hh : wpX11_partRead f g x1 K) : Ci l yX11_partRead wsX11_partRead rmX11_partRead [.ref o, .int x1] D (mT cI cZ) (mWu o h cI cZ) (f, g) K := by
  refine Ci_of (cc := cX11_partRead) (maxL := 2) (by decide) rfl (Nat.le_of_ble_eq_true rfl) ?_
  intro p e s m below meth c A Q C hw hR ls hl
  exact tX11_partRead_b0 C hR hh hw hl
theorem cdX11_partRead : yX11_partRead.cls = RX11 ∧ yX11_partRead.cls ≠ "java/lang/invoke/MethodHandle" ∧ yX11_partRead.cls ≠ "java/lang/invoke/VarHandle" ∧ (parseMethodDescriptor yX11_partRead.desc).map (fun d => d.parameters.length) = some 1 := by decide +kernel
end
