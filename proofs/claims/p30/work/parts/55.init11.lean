def wdsL : List Int32 := [105, 102, 32, 100, 111, 32, 110, 111, 116, 32, 98, 117, 109, 112, 32, 98, 101, 108, 108, 32, 119, 97, 121, 32, 109, 111, 100, 101, 32, 99, 111, 117, 110, 116, 32, 121, 101, 115, 32, 114, 105, 103, 104, 116, 32, 108, 101, 102, 116, 32, 98, 97, 99, 107, 32, 102, 97, 99, 101, 32, 107, 101, 101, 112, 32, 103, 111, 32, 115, 101, 116, 32, 100, 114, 111, 112, 32, 97, 100, 100, 32, 122, 101, 114, 111, 32, 119, 105, 112, 101, 32, 114, 101, 108, 97, 121, 32, 111, 114, 32, 97, 110, 100, 32, 111, 110, 101, 32, 116, 119, 111, 32]
def wds (k : Nat) : Int32 := wdsL.getD k 0
def wfl (i : Nat) : Nat → Int32 := fun k => if k < i then wds k else 0
theorem wst {i : Nat} {x : Int32} (h : wds i = x) : upd (wfl i) i x = wfl (i + 1) := by
  funext k
  unfold upd wfl
  by_cases hk : k = i
  · subst hk; simp [h]
  · by_cases h2 : k < i
    · simp [hk, h2, Nat.lt_succ_of_lt h2]
    · have h3 : ¬ k < i + 1 := by omega
      simp [hk, h2, h3]
theorem wst0 {x : Int32} (h : wds 0 = x) : upd (fun _ => 0) 0 x = wfl 1 := by
  have h1 : (fun _ => 0 : Nat → Int32) = wfl 0 := by funext k; simp [wfl]
  rw [h1]
  exact wst h
def mf0 (k : Nat) : Int32 := match k with | 5 => -1 | 51 => -1 | 52 => -1 | _ => 0
def mg0 (k : Nat) : Nat → Int32 := match k with | 3 => wfl 112 | _ => fun _ => 0
abbrev iX11_rm : Room := { frames := 3, cells := 35, slots := 6960, locals := 64 }
set_option maxHeartbeats 4000000 in
set_option maxRecDepth 100000 in
theorem iX11 (l : Launch) (D : va_G) (cI cZ cL cF cM : ClassId) (a : Nat) {K : ((Nat → Int32) × (Nat → Nat → Int32)) → Prop} (hb : wpX11_begins mf0 mg0 5 5 K) : Cn 35 6960 l yX11_init wsX11_init iX11_rm [.ref a] D (T0 cI cZ cL cF cM) [(a, .inr (11, [.null, .int 0, .int 0, .null, .int 0, .int 0, .int 0, .int 0, .int 0, .int 0, .int 0, .int 0, .int 0, .null, .null, .null, .null, .null, .null, .null, .int 0, .int 0, .int 0, .int 0, .null, .null, .null, .null, .null, .null, .null, .null, .null, .int 0, .int 0, .int 0, .int 0, .int 0, .int 0, .int 0, .int 0, .int 0, .int 0, .int 0, .int 0, .int 0, .null, .null, .null, .int 0, .int 0, .int 0, .int 0, .int 0, .null, .null, .null, .null, .null, .null, .null, .null, .null, .null, .null, .null, .int 0, .int 0, .int 0, .int 0, .null, .null, .int 0, .int 0]))] (fun u : (Nat → Nat) × (Nat → Int32) × (Nat → Nat → Int32) => mW a u.1 cI cZ u.2.1 u.2.2) (fun u => K u.2) := by
  refine Cn_of (cc := cX11_init) (maxL := 1) (by decide) rfl (Nat.le_of_ble_eq_true rfl) ?_
  intro p e s m below meth c A Q C hin hw hR ls hl
  have hin : meth.name = "<init>" := hin
  have hl : lv_has ls 1 [(0, .ref a)] := hl
  refine lv_aload_n C.1 C.2.1 dX11_init_0 rfl (lv_at hl 0 rfl) ?_
  refine W.objInit C.1 C.2.1 C.2.2.2.1 (C.2.2.2.2 _ (wc w_1445)) (C.2.2.2.2 _ (wc w_144)) (C.2.2.2.2 _ (wc w_145)) rfl (by rw [C.2.2.1]; exact hl.1) rfl dX11_init_1 (Nat.le_of_ble_eq_true rfl) (Nat.le_of_ble_eq_true rfl) ?_
  refine W.eq (g2 := F0 m 4 ls []) rfl ?_
  refine lv_aload_n C.1 C.2.1 dX11_init_4 rfl (lv_at hl 0 rfl) ?_
  refine lv_sipush (v := (500 : Int32)) C.1 C.2.1 dX11_init_5 (by decide) ?_
  refine i_newa C hw (ty := .int) (wc w_214) rfl (fun _ _ h => h) 0 rfl (N' := 500) (a0 := (500, .inl (fun _ => 0))) (fun cA => by first | rfl | (rw [vp_cell_i]; rfl) | (rw [vp_cell_l]; rfl)) (by decide) (by decide) (by decide) (c1 := 1) (s1 := 500) rfl rfl (Nat.le_of_ble_eq_true rfl) (Nat.le_of_ble_eq_true rfl) dX11_init_8 (fun q8 H hw => ?_)
  refine i_putF (ci := 11) C hin hw (inC inW11) tyX11 tyX11_ok nmX11 0 rfl rfl 0 (by decide) (wc w_1462) rfl rfl (ty := .array .int) (by decide +kernel) rfl rfl (Nat.le_of_ble_eq_true rfl) (ws' := (a, .inr (11, [.ref q8, .int 0, .int 0, .null, .int 0, .int 0, .int 0, .int 0, .int 0, .int 0, .int 0, .int 0, .int 0, .null, .null, .null, .null, .null, .null, .null, .int 0, .int 0, .int 0, .int 0, .null, .null, .null, .null, .null, .null, .null, .null, .null, .int 0, .int 0, .int 0, .int 0, .int 0, .int 0, .int 0, .int 0, .int 0, .int 0, .int 0, .int 0, .int 0, .null, .null, .null, .int 0, .int 0, .int 0, .int 0, .int 0, .null, .null, .null, .null, .null, .null, .null, .null, .null, .null, .null, .null, .int 0, .int 0, .int 0, .int 0, .null, .null, .int 0, .int 0])) :: (q8, .inl (cI, 500, .inl (fun _ => 0))) :: []) rfl dX11_init_10 (fun H locs hw => ?_)
  refine lv_aload_n C.1 C.2.1 dX11_init_13 rfl (lv_at hl 0 rfl) ?_
  refine lv_bipush (v := (112 : Int32)) C.1 C.2.1 dX11_init_14 (by decide) ?_
  refine i_newa C hw (ty := .int) (wc w_214) rfl (fun _ _ h => h) 0 rfl (N' := 112) (a0 := (112, .inl (fun _ => 0))) (fun cA => by first | rfl | (rw [vp_cell_i]; rfl) | (rw [vp_cell_l]; rfl)) (by decide) (by decide) (by decide) (c1 := 2) (s1 := 612) rfl rfl (Nat.le_of_ble_eq_true rfl) (Nat.le_of_ble_eq_true rfl) dX11_init_16 (fun q16 H hw => ?_)
  refine lv_dup C.1 C.2.1 dX11_init_18 rfl ?_
  refine lv_iconst (v := (0 : Int32)) C.1 C.2.1 dX11_init_19 (by decide) ?_
  refine lv_bipush (v := (105 : Int32)) C.1 C.2.1 dX11_init_20 (by decide) ?_
  refine i_wst C hw 0 rfl (by unfold vp_in; decide) (wst0 (x := (105 : Int32)) (by decide)) dX11_init_22 (fun H locs hw => ?_)
  refine lv_dup C.1 C.2.1 dX11_init_23 rfl ?_
  refine lv_iconst (v := (1 : Int32)) C.1 C.2.1 dX11_init_24 (by decide) ?_
  refine lv_bipush (v := (102 : Int32)) C.1 C.2.1 dX11_init_25 (by decide) ?_
  refine i_wst C hw 0 rfl (by unfold vp_in; decide) (wst (i := 1) (x := (102 : Int32)) (by decide)) dX11_init_27 (fun H locs hw => ?_)
  refine lv_dup C.1 C.2.1 dX11_init_28 rfl ?_
  refine lv_iconst (v := (2 : Int32)) C.1 C.2.1 dX11_init_29 (by decide) ?_
  refine lv_bipush (v := (32 : Int32)) C.1 C.2.1 dX11_init_30 (by decide) ?_
  refine i_wst C hw 0 rfl (by unfold vp_in; decide) (wst (i := 2) (x := (32 : Int32)) (by decide)) dX11_init_32 (fun H locs hw => ?_)
  refine lv_dup C.1 C.2.1 dX11_init_33 rfl ?_
  refine lv_iconst (v := (3 : Int32)) C.1 C.2.1 dX11_init_34 (by decide) ?_
  refine lv_bipush (v := (100 : Int32)) C.1 C.2.1 dX11_init_35 (by decide) ?_
  refine i_wst C hw 0 rfl (by unfold vp_in; decide) (wst (i := 3) (x := (100 : Int32)) (by decide)) dX11_init_37 (fun H locs hw => ?_)
  refine lv_dup C.1 C.2.1 dX11_init_38 rfl ?_
  refine lv_iconst (v := (4 : Int32)) C.1 C.2.1 dX11_init_39 (by decide) ?_
  refine lv_bipush (v := (111 : Int32)) C.1 C.2.1 dX11_init_40 (by decide) ?_
  refine i_wst C hw 0 rfl (by unfold vp_in; decide) (wst (i := 4) (x := (111 : Int32)) (by decide)) dX11_init_42 (fun H locs hw => ?_)
  refine lv_dup C.1 C.2.1 dX11_init_43 rfl ?_
  refine lv_iconst (v := (5 : Int32)) C.1 C.2.1 dX11_init_44 (by decide) ?_
  refine lv_bipush (v := (32 : Int32)) C.1 C.2.1 dX11_init_45 (by decide) ?_
  refine i_wst C hw 0 rfl (by unfold vp_in; decide) (wst (i := 5) (x := (32 : Int32)) (by decide)) dX11_init_47 (fun H locs hw => ?_)
  refine lv_dup C.1 C.2.1 dX11_init_48 rfl ?_
  refine lv_bipush (v := (6 : Int32)) C.1 C.2.1 dX11_init_49 (by decide) ?_
  refine lv_bipush (v := (110 : Int32)) C.1 C.2.1 dX11_init_51 (by decide) ?_
  refine i_wst C hw 0 rfl (by unfold vp_in; decide) (wst (i := 6) (x := (110 : Int32)) (by decide)) dX11_init_53 (fun H locs hw => ?_)
  refine lv_dup C.1 C.2.1 dX11_init_54 rfl ?_
  refine lv_bipush (v := (7 : Int32)) C.1 C.2.1 dX11_init_55 (by decide) ?_
  refine lv_bipush (v := (111 : Int32)) C.1 C.2.1 dX11_init_57 (by decide) ?_
  refine i_wst C hw 0 rfl (by unfold vp_in; decide) (wst (i := 7) (x := (111 : Int32)) (by decide)) dX11_init_59 (fun H locs hw => ?_)
  refine lv_dup C.1 C.2.1 dX11_init_60 rfl ?_
  refine lv_bipush (v := (8 : Int32)) C.1 C.2.1 dX11_init_61 (by decide) ?_
  refine lv_bipush (v := (116 : Int32)) C.1 C.2.1 dX11_init_63 (by decide) ?_
  refine i_wst C hw 0 rfl (by unfold vp_in; decide) (wst (i := 8) (x := (116 : Int32)) (by decide)) dX11_init_65 (fun H locs hw => ?_)
  refine lv_dup C.1 C.2.1 dX11_init_66 rfl ?_
  refine lv_bipush (v := (9 : Int32)) C.1 C.2.1 dX11_init_67 (by decide) ?_
  refine lv_bipush (v := (32 : Int32)) C.1 C.2.1 dX11_init_69 (by decide) ?_
  refine i_wst C hw 0 rfl (by unfold vp_in; decide) (wst (i := 9) (x := (32 : Int32)) (by decide)) dX11_init_71 (fun H locs hw => ?_)
  refine lv_dup C.1 C.2.1 dX11_init_72 rfl ?_
  refine lv_bipush (v := (10 : Int32)) C.1 C.2.1 dX11_init_73 (by decide) ?_
  refine lv_bipush (v := (98 : Int32)) C.1 C.2.1 dX11_init_75 (by decide) ?_
  refine i_wst C hw 0 rfl (by unfold vp_in; decide) (wst (i := 10) (x := (98 : Int32)) (by decide)) dX11_init_77 (fun H locs hw => ?_)
  refine lv_dup C.1 C.2.1 dX11_init_78 rfl ?_
  refine lv_bipush (v := (11 : Int32)) C.1 C.2.1 dX11_init_79 (by decide) ?_
  refine lv_bipush (v := (117 : Int32)) C.1 C.2.1 dX11_init_81 (by decide) ?_
  refine i_wst C hw 0 rfl (by unfold vp_in; decide) (wst (i := 11) (x := (117 : Int32)) (by decide)) dX11_init_83 (fun H locs hw => ?_)
  refine lv_dup C.1 C.2.1 dX11_init_84 rfl ?_
  refine lv_bipush (v := (12 : Int32)) C.1 C.2.1 dX11_init_85 (by decide) ?_
  refine lv_bipush (v := (109 : Int32)) C.1 C.2.1 dX11_init_87 (by decide) ?_
  refine i_wst C hw 0 rfl (by unfold vp_in; decide) (wst (i := 12) (x := (109 : Int32)) (by decide)) dX11_init_89 (fun H locs hw => ?_)
  refine lv_dup C.1 C.2.1 dX11_init_90 rfl ?_
  refine lv_bipush (v := (13 : Int32)) C.1 C.2.1 dX11_init_91 (by decide) ?_
  refine lv_bipush (v := (112 : Int32)) C.1 C.2.1 dX11_init_93 (by decide) ?_
  refine i_wst C hw 0 rfl (by unfold vp_in; decide) (wst (i := 13) (x := (112 : Int32)) (by decide)) dX11_init_95 (fun H locs hw => ?_)
  refine lv_dup C.1 C.2.1 dX11_init_96 rfl ?_
  refine lv_bipush (v := (14 : Int32)) C.1 C.2.1 dX11_init_97 (by decide) ?_
  refine lv_bipush (v := (32 : Int32)) C.1 C.2.1 dX11_init_99 (by decide) ?_
  refine i_wst C hw 0 rfl (by unfold vp_in; decide) (wst (i := 14) (x := (32 : Int32)) (by decide)) dX11_init_101 (fun H locs hw => ?_)
  refine lv_dup C.1 C.2.1 dX11_init_102 rfl ?_
  refine lv_bipush (v := (15 : Int32)) C.1 C.2.1 dX11_init_103 (by decide) ?_
  refine lv_bipush (v := (98 : Int32)) C.1 C.2.1 dX11_init_105 (by decide) ?_
  refine i_wst C hw 0 rfl (by unfold vp_in; decide) (wst (i := 15) (x := (98 : Int32)) (by decide)) dX11_init_107 (fun H locs hw => ?_)
  refine lv_dup C.1 C.2.1 dX11_init_108 rfl ?_
  refine lv_bipush (v := (16 : Int32)) C.1 C.2.1 dX11_init_109 (by decide) ?_
  refine lv_bipush (v := (101 : Int32)) C.1 C.2.1 dX11_init_111 (by decide) ?_
  refine i_wst C hw 0 rfl (by unfold vp_in; decide) (wst (i := 16) (x := (101 : Int32)) (by decide)) dX11_init_113 (fun H locs hw => ?_)
  refine lv_dup C.1 C.2.1 dX11_init_114 rfl ?_
  refine lv_bipush (v := (17 : Int32)) C.1 C.2.1 dX11_init_115 (by decide) ?_
  refine lv_bipush (v := (108 : Int32)) C.1 C.2.1 dX11_init_117 (by decide) ?_
  refine i_wst C hw 0 rfl (by unfold vp_in; decide) (wst (i := 17) (x := (108 : Int32)) (by decide)) dX11_init_119 (fun H locs hw => ?_)
  refine lv_dup C.1 C.2.1 dX11_init_120 rfl ?_
  refine lv_bipush (v := (18 : Int32)) C.1 C.2.1 dX11_init_121 (by decide) ?_
  refine lv_bipush (v := (108 : Int32)) C.1 C.2.1 dX11_init_123 (by decide) ?_
  refine i_wst C hw 0 rfl (by unfold vp_in; decide) (wst (i := 18) (x := (108 : Int32)) (by decide)) dX11_init_125 (fun H locs hw => ?_)
  refine lv_dup C.1 C.2.1 dX11_init_126 rfl ?_
  refine lv_bipush (v := (19 : Int32)) C.1 C.2.1 dX11_init_127 (by decide) ?_
  refine lv_bipush (v := (32 : Int32)) C.1 C.2.1 dX11_init_129 (by decide) ?_
  refine i_wst C hw 0 rfl (by unfold vp_in; decide) (wst (i := 19) (x := (32 : Int32)) (by decide)) dX11_init_131 (fun H locs hw => ?_)
  refine lv_dup C.1 C.2.1 dX11_init_132 rfl ?_
  refine lv_bipush (v := (20 : Int32)) C.1 C.2.1 dX11_init_133 (by decide) ?_
  refine lv_bipush (v := (119 : Int32)) C.1 C.2.1 dX11_init_135 (by decide) ?_
  refine i_wst C hw 0 rfl (by unfold vp_in; decide) (wst (i := 20) (x := (119 : Int32)) (by decide)) dX11_init_137 (fun H locs hw => ?_)
  refine lv_dup C.1 C.2.1 dX11_init_138 rfl ?_
  refine lv_bipush (v := (21 : Int32)) C.1 C.2.1 dX11_init_139 (by decide) ?_
  refine lv_bipush (v := (97 : Int32)) C.1 C.2.1 dX11_init_141 (by decide) ?_
  refine i_wst C hw 0 rfl (by unfold vp_in; decide) (wst (i := 21) (x := (97 : Int32)) (by decide)) dX11_init_143 (fun H locs hw => ?_)
  refine lv_dup C.1 C.2.1 dX11_init_144 rfl ?_
  refine lv_bipush (v := (22 : Int32)) C.1 C.2.1 dX11_init_145 (by decide) ?_
  refine lv_bipush (v := (121 : Int32)) C.1 C.2.1 dX11_init_147 (by decide) ?_
  refine i_wst C hw 0 rfl (by unfold vp_in; decide) (wst (i := 22) (x := (121 : Int32)) (by decide)) dX11_init_149 (fun H locs hw => ?_)
  refine lv_dup C.1 C.2.1 dX11_init_150 rfl ?_
  refine lv_bipush (v := (23 : Int32)) C.1 C.2.1 dX11_init_151 (by decide) ?_
  refine lv_bipush (v := (32 : Int32)) C.1 C.2.1 dX11_init_153 (by decide) ?_
  refine i_wst C hw 0 rfl (by unfold vp_in; decide) (wst (i := 23) (x := (32 : Int32)) (by decide)) dX11_init_155 (fun H locs hw => ?_)
  refine lv_dup C.1 C.2.1 dX11_init_156 rfl ?_
  refine lv_bipush (v := (24 : Int32)) C.1 C.2.1 dX11_init_157 (by decide) ?_
  refine lv_bipush (v := (109 : Int32)) C.1 C.2.1 dX11_init_159 (by decide) ?_
  refine i_wst C hw 0 rfl (by unfold vp_in; decide) (wst (i := 24) (x := (109 : Int32)) (by decide)) dX11_init_161 (fun H locs hw => ?_)
  refine lv_dup C.1 C.2.1 dX11_init_162 rfl ?_
  refine lv_bipush (v := (25 : Int32)) C.1 C.2.1 dX11_init_163 (by decide) ?_
  refine lv_bipush (v := (111 : Int32)) C.1 C.2.1 dX11_init_165 (by decide) ?_
  refine i_wst C hw 0 rfl (by unfold vp_in; decide) (wst (i := 25) (x := (111 : Int32)) (by decide)) dX11_init_167 (fun H locs hw => ?_)
  refine lv_dup C.1 C.2.1 dX11_init_168 rfl ?_
  refine lv_bipush (v := (26 : Int32)) C.1 C.2.1 dX11_init_169 (by decide) ?_
  refine lv_bipush (v := (100 : Int32)) C.1 C.2.1 dX11_init_171 (by decide) ?_
  refine i_wst C hw 0 rfl (by unfold vp_in; decide) (wst (i := 26) (x := (100 : Int32)) (by decide)) dX11_init_173 (fun H locs hw => ?_)
  refine lv_dup C.1 C.2.1 dX11_init_174 rfl ?_
  refine lv_bipush (v := (27 : Int32)) C.1 C.2.1 dX11_init_175 (by decide) ?_
  refine lv_bipush (v := (101 : Int32)) C.1 C.2.1 dX11_init_177 (by decide) ?_
  refine i_wst C hw 0 rfl (by unfold vp_in; decide) (wst (i := 27) (x := (101 : Int32)) (by decide)) dX11_init_179 (fun H locs hw => ?_)
  refine lv_dup C.1 C.2.1 dX11_init_180 rfl ?_
  refine lv_bipush (v := (28 : Int32)) C.1 C.2.1 dX11_init_181 (by decide) ?_
  refine lv_bipush (v := (32 : Int32)) C.1 C.2.1 dX11_init_183 (by decide) ?_
  refine i_wst C hw 0 rfl (by unfold vp_in; decide) (wst (i := 28) (x := (32 : Int32)) (by decide)) dX11_init_185 (fun H locs hw => ?_)
  refine lv_dup C.1 C.2.1 dX11_init_186 rfl ?_
  refine lv_bipush (v := (29 : Int32)) C.1 C.2.1 dX11_init_187 (by decide) ?_
  refine lv_bipush (v := (99 : Int32)) C.1 C.2.1 dX11_init_189 (by decide) ?_
  refine i_wst C hw 0 rfl (by unfold vp_in; decide) (wst (i := 29) (x := (99 : Int32)) (by decide)) dX11_init_191 (fun H locs hw => ?_)
  refine lv_dup C.1 C.2.1 dX11_init_192 rfl ?_
  refine lv_bipush (v := (30 : Int32)) C.1 C.2.1 dX11_init_193 (by decide) ?_
  refine lv_bipush (v := (111 : Int32)) C.1 C.2.1 dX11_init_195 (by decide) ?_
  refine i_wst C hw 0 rfl (by unfold vp_in; decide) (wst (i := 30) (x := (111 : Int32)) (by decide)) dX11_init_197 (fun H locs hw => ?_)
  refine lv_dup C.1 C.2.1 dX11_init_198 rfl ?_
  refine lv_bipush (v := (31 : Int32)) C.1 C.2.1 dX11_init_199 (by decide) ?_
  refine lv_bipush (v := (117 : Int32)) C.1 C.2.1 dX11_init_201 (by decide) ?_
  refine i_wst C hw 0 rfl (by unfold vp_in; decide) (wst (i := 31) (x := (117 : Int32)) (by decide)) dX11_init_203 (fun H locs hw => ?_)
  refine lv_dup C.1 C.2.1 dX11_init_204 rfl ?_
  refine lv_bipush (v := (32 : Int32)) C.1 C.2.1 dX11_init_205 (by decide) ?_
  refine lv_bipush (v := (110 : Int32)) C.1 C.2.1 dX11_init_207 (by decide) ?_
  refine i_wst C hw 0 rfl (by unfold vp_in; decide) (wst (i := 32) (x := (110 : Int32)) (by decide)) dX11_init_209 (fun H locs hw => ?_)
  refine lv_dup C.1 C.2.1 dX11_init_210 rfl ?_
  refine lv_bipush (v := (33 : Int32)) C.1 C.2.1 dX11_init_211 (by decide) ?_
  refine lv_bipush (v := (116 : Int32)) C.1 C.2.1 dX11_init_213 (by decide) ?_
  refine i_wst C hw 0 rfl (by unfold vp_in; decide) (wst (i := 33) (x := (116 : Int32)) (by decide)) dX11_init_215 (fun H locs hw => ?_)
  refine lv_dup C.1 C.2.1 dX11_init_216 rfl ?_
  refine lv_bipush (v := (34 : Int32)) C.1 C.2.1 dX11_init_217 (by decide) ?_
  refine lv_bipush (v := (32 : Int32)) C.1 C.2.1 dX11_init_219 (by decide) ?_
  refine i_wst C hw 0 rfl (by unfold vp_in; decide) (wst (i := 34) (x := (32 : Int32)) (by decide)) dX11_init_221 (fun H locs hw => ?_)
  refine lv_dup C.1 C.2.1 dX11_init_222 rfl ?_
  refine lv_bipush (v := (35 : Int32)) C.1 C.2.1 dX11_init_223 (by decide) ?_
  refine lv_bipush (v := (121 : Int32)) C.1 C.2.1 dX11_init_225 (by decide) ?_
  refine i_wst C hw 0 rfl (by unfold vp_in; decide) (wst (i := 35) (x := (121 : Int32)) (by decide)) dX11_init_227 (fun H locs hw => ?_)
  refine lv_dup C.1 C.2.1 dX11_init_228 rfl ?_
  refine lv_bipush (v := (36 : Int32)) C.1 C.2.1 dX11_init_229 (by decide) ?_
  refine lv_bipush (v := (101 : Int32)) C.1 C.2.1 dX11_init_231 (by decide) ?_
  refine i_wst C hw 0 rfl (by unfold vp_in; decide) (wst (i := 36) (x := (101 : Int32)) (by decide)) dX11_init_233 (fun H locs hw => ?_)
  refine lv_dup C.1 C.2.1 dX11_init_234 rfl ?_
  refine lv_bipush (v := (37 : Int32)) C.1 C.2.1 dX11_init_235 (by decide) ?_
  refine lv_bipush (v := (115 : Int32)) C.1 C.2.1 dX11_init_237 (by decide) ?_
  refine i_wst C hw 0 rfl (by unfold vp_in; decide) (wst (i := 37) (x := (115 : Int32)) (by decide)) dX11_init_239 (fun H locs hw => ?_)
  refine lv_dup C.1 C.2.1 dX11_init_240 rfl ?_
  refine lv_bipush (v := (38 : Int32)) C.1 C.2.1 dX11_init_241 (by decide) ?_
  refine lv_bipush (v := (32 : Int32)) C.1 C.2.1 dX11_init_243 (by decide) ?_
  refine i_wst C hw 0 rfl (by unfold vp_in; decide) (wst (i := 38) (x := (32 : Int32)) (by decide)) dX11_init_245 (fun H locs hw => ?_)
  refine lv_dup C.1 C.2.1 dX11_init_246 rfl ?_
  refine lv_bipush (v := (39 : Int32)) C.1 C.2.1 dX11_init_247 (by decide) ?_
  refine lv_bipush (v := (114 : Int32)) C.1 C.2.1 dX11_init_249 (by decide) ?_
  refine i_wst C hw 0 rfl (by unfold vp_in; decide) (wst (i := 39) (x := (114 : Int32)) (by decide)) dX11_init_251 (fun H locs hw => ?_)
  refine lv_dup C.1 C.2.1 dX11_init_252 rfl ?_
  refine lv_bipush (v := (40 : Int32)) C.1 C.2.1 dX11_init_253 (by decide) ?_
  refine lv_bipush (v := (105 : Int32)) C.1 C.2.1 dX11_init_255 (by decide) ?_
  refine i_wst C hw 0 rfl (by unfold vp_in; decide) (wst (i := 40) (x := (105 : Int32)) (by decide)) dX11_init_257 (fun H locs hw => ?_)
  refine lv_dup C.1 C.2.1 dX11_init_258 rfl ?_
  refine lv_bipush (v := (41 : Int32)) C.1 C.2.1 dX11_init_259 (by decide) ?_
  refine lv_bipush (v := (103 : Int32)) C.1 C.2.1 dX11_init_261 (by decide) ?_
  refine i_wst C hw 0 rfl (by unfold vp_in; decide) (wst (i := 41) (x := (103 : Int32)) (by decide)) dX11_init_263 (fun H locs hw => ?_)
  refine lv_dup C.1 C.2.1 dX11_init_264 rfl ?_
  refine lv_bipush (v := (42 : Int32)) C.1 C.2.1 dX11_init_265 (by decide) ?_
  refine lv_bipush (v := (104 : Int32)) C.1 C.2.1 dX11_init_267 (by decide) ?_
  refine i_wst C hw 0 rfl (by unfold vp_in; decide) (wst (i := 42) (x := (104 : Int32)) (by decide)) dX11_init_269 (fun H locs hw => ?_)
  refine lv_dup C.1 C.2.1 dX11_init_270 rfl ?_
  refine lv_bipush (v := (43 : Int32)) C.1 C.2.1 dX11_init_271 (by decide) ?_
  refine lv_bipush (v := (116 : Int32)) C.1 C.2.1 dX11_init_273 (by decide) ?_
  refine i_wst C hw 0 rfl (by unfold vp_in; decide) (wst (i := 43) (x := (116 : Int32)) (by decide)) dX11_init_275 (fun H locs hw => ?_)
  refine lv_dup C.1 C.2.1 dX11_init_276 rfl ?_
  refine lv_bipush (v := (44 : Int32)) C.1 C.2.1 dX11_init_277 (by decide) ?_
  refine lv_bipush (v := (32 : Int32)) C.1 C.2.1 dX11_init_279 (by decide) ?_
  refine i_wst C hw 0 rfl (by unfold vp_in; decide) (wst (i := 44) (x := (32 : Int32)) (by decide)) dX11_init_281 (fun H locs hw => ?_)
  refine lv_dup C.1 C.2.1 dX11_init_282 rfl ?_
  refine lv_bipush (v := (45 : Int32)) C.1 C.2.1 dX11_init_283 (by decide) ?_
  refine lv_bipush (v := (108 : Int32)) C.1 C.2.1 dX11_init_285 (by decide) ?_
  refine i_wst C hw 0 rfl (by unfold vp_in; decide) (wst (i := 45) (x := (108 : Int32)) (by decide)) dX11_init_287 (fun H locs hw => ?_)
  refine lv_dup C.1 C.2.1 dX11_init_288 rfl ?_
  refine lv_bipush (v := (46 : Int32)) C.1 C.2.1 dX11_init_289 (by decide) ?_
  refine lv_bipush (v := (101 : Int32)) C.1 C.2.1 dX11_init_291 (by decide) ?_
  refine i_wst C hw 0 rfl (by unfold vp_in; decide) (wst (i := 46) (x := (101 : Int32)) (by decide)) dX11_init_293 (fun H locs hw => ?_)
  refine lv_dup C.1 C.2.1 dX11_init_294 rfl ?_
  refine lv_bipush (v := (47 : Int32)) C.1 C.2.1 dX11_init_295 (by decide) ?_
  refine lv_bipush (v := (102 : Int32)) C.1 C.2.1 dX11_init_297 (by decide) ?_
  refine i_wst C hw 0 rfl (by unfold vp_in; decide) (wst (i := 47) (x := (102 : Int32)) (by decide)) dX11_init_299 (fun H locs hw => ?_)
  refine lv_dup C.1 C.2.1 dX11_init_300 rfl ?_
  refine lv_bipush (v := (48 : Int32)) C.1 C.2.1 dX11_init_301 (by decide) ?_
  refine lv_bipush (v := (116 : Int32)) C.1 C.2.1 dX11_init_303 (by decide) ?_
  refine i_wst C hw 0 rfl (by unfold vp_in; decide) (wst (i := 48) (x := (116 : Int32)) (by decide)) dX11_init_305 (fun H locs hw => ?_)
  refine lv_dup C.1 C.2.1 dX11_init_306 rfl ?_
  refine lv_bipush (v := (49 : Int32)) C.1 C.2.1 dX11_init_307 (by decide) ?_
  refine lv_bipush (v := (32 : Int32)) C.1 C.2.1 dX11_init_309 (by decide) ?_
  refine i_wst C hw 0 rfl (by unfold vp_in; decide) (wst (i := 49) (x := (32 : Int32)) (by decide)) dX11_init_311 (fun H locs hw => ?_)
  refine lv_dup C.1 C.2.1 dX11_init_312 rfl ?_
  refine lv_bipush (v := (50 : Int32)) C.1 C.2.1 dX11_init_313 (by decide) ?_
  refine lv_bipush (v := (98 : Int32)) C.1 C.2.1 dX11_init_315 (by decide) ?_
  refine i_wst C hw 0 rfl (by unfold vp_in; decide) (wst (i := 50) (x := (98 : Int32)) (by decide)) dX11_init_317 (fun H locs hw => ?_)
  refine lv_dup C.1 C.2.1 dX11_init_318 rfl ?_
  refine lv_bipush (v := (51 : Int32)) C.1 C.2.1 dX11_init_319 (by decide) ?_
  refine lv_bipush (v := (97 : Int32)) C.1 C.2.1 dX11_init_321 (by decide) ?_
  refine i_wst C hw 0 rfl (by unfold vp_in; decide) (wst (i := 51) (x := (97 : Int32)) (by decide)) dX11_init_323 (fun H locs hw => ?_)
  refine lv_dup C.1 C.2.1 dX11_init_324 rfl ?_
  refine lv_bipush (v := (52 : Int32)) C.1 C.2.1 dX11_init_325 (by decide) ?_
  refine lv_bipush (v := (99 : Int32)) C.1 C.2.1 dX11_init_327 (by decide) ?_
  refine i_wst C hw 0 rfl (by unfold vp_in; decide) (wst (i := 52) (x := (99 : Int32)) (by decide)) dX11_init_329 (fun H locs hw => ?_)
  refine lv_dup C.1 C.2.1 dX11_init_330 rfl ?_
  refine lv_bipush (v := (53 : Int32)) C.1 C.2.1 dX11_init_331 (by decide) ?_
  refine lv_bipush (v := (107 : Int32)) C.1 C.2.1 dX11_init_333 (by decide) ?_
  refine i_wst C hw 0 rfl (by unfold vp_in; decide) (wst (i := 53) (x := (107 : Int32)) (by decide)) dX11_init_335 (fun H locs hw => ?_)
  refine lv_dup C.1 C.2.1 dX11_init_336 rfl ?_
  refine lv_bipush (v := (54 : Int32)) C.1 C.2.1 dX11_init_337 (by decide) ?_
  refine lv_bipush (v := (32 : Int32)) C.1 C.2.1 dX11_init_339 (by decide) ?_
  refine i_wst C hw 0 rfl (by unfold vp_in; decide) (wst (i := 54) (x := (32 : Int32)) (by decide)) dX11_init_341 (fun H locs hw => ?_)
  refine lv_dup C.1 C.2.1 dX11_init_342 rfl ?_
  refine lv_bipush (v := (55 : Int32)) C.1 C.2.1 dX11_init_343 (by decide) ?_
  refine lv_bipush (v := (102 : Int32)) C.1 C.2.1 dX11_init_345 (by decide) ?_
  refine i_wst C hw 0 rfl (by unfold vp_in; decide) (wst (i := 55) (x := (102 : Int32)) (by decide)) dX11_init_347 (fun H locs hw => ?_)
  refine lv_dup C.1 C.2.1 dX11_init_348 rfl ?_
  refine lv_bipush (v := (56 : Int32)) C.1 C.2.1 dX11_init_349 (by decide) ?_
  refine lv_bipush (v := (97 : Int32)) C.1 C.2.1 dX11_init_351 (by decide) ?_
  refine i_wst C hw 0 rfl (by unfold vp_in; decide) (wst (i := 56) (x := (97 : Int32)) (by decide)) dX11_init_353 (fun H locs hw => ?_)
  refine lv_dup C.1 C.2.1 dX11_init_354 rfl ?_
  refine lv_bipush (v := (57 : Int32)) C.1 C.2.1 dX11_init_355 (by decide) ?_
  refine lv_bipush (v := (99 : Int32)) C.1 C.2.1 dX11_init_357 (by decide) ?_
  refine i_wst C hw 0 rfl (by unfold vp_in; decide) (wst (i := 57) (x := (99 : Int32)) (by decide)) dX11_init_359 (fun H locs hw => ?_)
  refine lv_dup C.1 C.2.1 dX11_init_360 rfl ?_
  refine lv_bipush (v := (58 : Int32)) C.1 C.2.1 dX11_init_361 (by decide) ?_
  refine lv_bipush (v := (101 : Int32)) C.1 C.2.1 dX11_init_363 (by decide) ?_
  refine i_wst C hw 0 rfl (by unfold vp_in; decide) (wst (i := 58) (x := (101 : Int32)) (by decide)) dX11_init_365 (fun H locs hw => ?_)
  refine lv_dup C.1 C.2.1 dX11_init_366 rfl ?_
  refine lv_bipush (v := (59 : Int32)) C.1 C.2.1 dX11_init_367 (by decide) ?_
  refine lv_bipush (v := (32 : Int32)) C.1 C.2.1 dX11_init_369 (by decide) ?_
  refine i_wst C hw 0 rfl (by unfold vp_in; decide) (wst (i := 59) (x := (32 : Int32)) (by decide)) dX11_init_371 (fun H locs hw => ?_)
  refine lv_dup C.1 C.2.1 dX11_init_372 rfl ?_
  refine lv_bipush (v := (60 : Int32)) C.1 C.2.1 dX11_init_373 (by decide) ?_
  refine lv_bipush (v := (107 : Int32)) C.1 C.2.1 dX11_init_375 (by decide) ?_
  refine i_wst C hw 0 rfl (by unfold vp_in; decide) (wst (i := 60) (x := (107 : Int32)) (by decide)) dX11_init_377 (fun H locs hw => ?_)
  refine lv_dup C.1 C.2.1 dX11_init_378 rfl ?_
  refine lv_bipush (v := (61 : Int32)) C.1 C.2.1 dX11_init_379 (by decide) ?_
  refine lv_bipush (v := (101 : Int32)) C.1 C.2.1 dX11_init_381 (by decide) ?_
  refine i_wst C hw 0 rfl (by unfold vp_in; decide) (wst (i := 61) (x := (101 : Int32)) (by decide)) dX11_init_383 (fun H locs hw => ?_)
  refine lv_dup C.1 C.2.1 dX11_init_384 rfl ?_
  refine lv_bipush (v := (62 : Int32)) C.1 C.2.1 dX11_init_385 (by decide) ?_
  refine lv_bipush (v := (101 : Int32)) C.1 C.2.1 dX11_init_387 (by decide) ?_
  refine i_wst C hw 0 rfl (by unfold vp_in; decide) (wst (i := 62) (x := (101 : Int32)) (by decide)) dX11_init_389 (fun H locs hw => ?_)
  refine lv_dup C.1 C.2.1 dX11_init_390 rfl ?_
  refine lv_bipush (v := (63 : Int32)) C.1 C.2.1 dX11_init_391 (by decide) ?_
  refine lv_bipush (v := (112 : Int32)) C.1 C.2.1 dX11_init_393 (by decide) ?_
  refine i_wst C hw 0 rfl (by unfold vp_in; decide) (wst (i := 63) (x := (112 : Int32)) (by decide)) dX11_init_395 (fun H locs hw => ?_)
  refine lv_dup C.1 C.2.1 dX11_init_396 rfl ?_
  refine lv_bipush (v := (64 : Int32)) C.1 C.2.1 dX11_init_397 (by decide) ?_
  refine lv_bipush (v := (32 : Int32)) C.1 C.2.1 dX11_init_399 (by decide) ?_
  refine i_wst C hw 0 rfl (by unfold vp_in; decide) (wst (i := 64) (x := (32 : Int32)) (by decide)) dX11_init_401 (fun H locs hw => ?_)
  refine lv_dup C.1 C.2.1 dX11_init_402 rfl ?_
  refine lv_bipush (v := (65 : Int32)) C.1 C.2.1 dX11_init_403 (by decide) ?_
  refine lv_bipush (v := (103 : Int32)) C.1 C.2.1 dX11_init_405 (by decide) ?_
  refine i_wst C hw 0 rfl (by unfold vp_in; decide) (wst (i := 65) (x := (103 : Int32)) (by decide)) dX11_init_407 (fun H locs hw => ?_)
  refine lv_dup C.1 C.2.1 dX11_init_408 rfl ?_
  refine lv_bipush (v := (66 : Int32)) C.1 C.2.1 dX11_init_409 (by decide) ?_
  refine lv_bipush (v := (111 : Int32)) C.1 C.2.1 dX11_init_411 (by decide) ?_
  refine i_wst C hw 0 rfl (by unfold vp_in; decide) (wst (i := 66) (x := (111 : Int32)) (by decide)) dX11_init_413 (fun H locs hw => ?_)
  refine lv_dup C.1 C.2.1 dX11_init_414 rfl ?_
  refine lv_bipush (v := (67 : Int32)) C.1 C.2.1 dX11_init_415 (by decide) ?_
  refine lv_bipush (v := (32 : Int32)) C.1 C.2.1 dX11_init_417 (by decide) ?_
  refine i_wst C hw 0 rfl (by unfold vp_in; decide) (wst (i := 67) (x := (32 : Int32)) (by decide)) dX11_init_419 (fun H locs hw => ?_)
  refine lv_dup C.1 C.2.1 dX11_init_420 rfl ?_
  refine lv_bipush (v := (68 : Int32)) C.1 C.2.1 dX11_init_421 (by decide) ?_
  refine lv_bipush (v := (115 : Int32)) C.1 C.2.1 dX11_init_423 (by decide) ?_
  refine i_wst C hw 0 rfl (by unfold vp_in; decide) (wst (i := 68) (x := (115 : Int32)) (by decide)) dX11_init_425 (fun H locs hw => ?_)
  refine lv_dup C.1 C.2.1 dX11_init_426 rfl ?_
  refine lv_bipush (v := (69 : Int32)) C.1 C.2.1 dX11_init_427 (by decide) ?_
  refine lv_bipush (v := (101 : Int32)) C.1 C.2.1 dX11_init_429 (by decide) ?_
  refine i_wst C hw 0 rfl (by unfold vp_in; decide) (wst (i := 69) (x := (101 : Int32)) (by decide)) dX11_init_431 (fun H locs hw => ?_)
  refine lv_dup C.1 C.2.1 dX11_init_432 rfl ?_
  refine lv_bipush (v := (70 : Int32)) C.1 C.2.1 dX11_init_433 (by decide) ?_
  refine lv_bipush (v := (116 : Int32)) C.1 C.2.1 dX11_init_435 (by decide) ?_
  refine i_wst C hw 0 rfl (by unfold vp_in; decide) (wst (i := 70) (x := (116 : Int32)) (by decide)) dX11_init_437 (fun H locs hw => ?_)
  refine lv_dup C.1 C.2.1 dX11_init_438 rfl ?_
  refine lv_bipush (v := (71 : Int32)) C.1 C.2.1 dX11_init_439 (by decide) ?_
  refine lv_bipush (v := (32 : Int32)) C.1 C.2.1 dX11_init_441 (by decide) ?_
  refine i_wst C hw 0 rfl (by unfold vp_in; decide) (wst (i := 71) (x := (32 : Int32)) (by decide)) dX11_init_443 (fun H locs hw => ?_)
  refine lv_dup C.1 C.2.1 dX11_init_444 rfl ?_
  refine lv_bipush (v := (72 : Int32)) C.1 C.2.1 dX11_init_445 (by decide) ?_
  refine lv_bipush (v := (100 : Int32)) C.1 C.2.1 dX11_init_447 (by decide) ?_
  refine i_wst C hw 0 rfl (by unfold vp_in; decide) (wst (i := 72) (x := (100 : Int32)) (by decide)) dX11_init_449 (fun H locs hw => ?_)
  refine lv_dup C.1 C.2.1 dX11_init_450 rfl ?_
  refine lv_bipush (v := (73 : Int32)) C.1 C.2.1 dX11_init_451 (by decide) ?_
  refine lv_bipush (v := (114 : Int32)) C.1 C.2.1 dX11_init_453 (by decide) ?_
  refine i_wst C hw 0 rfl (by unfold vp_in; decide) (wst (i := 73) (x := (114 : Int32)) (by decide)) dX11_init_455 (fun H locs hw => ?_)
  refine lv_dup C.1 C.2.1 dX11_init_456 rfl ?_
  refine lv_bipush (v := (74 : Int32)) C.1 C.2.1 dX11_init_457 (by decide) ?_
  refine lv_bipush (v := (111 : Int32)) C.1 C.2.1 dX11_init_459 (by decide) ?_
  refine i_wst C hw 0 rfl (by unfold vp_in; decide) (wst (i := 74) (x := (111 : Int32)) (by decide)) dX11_init_461 (fun H locs hw => ?_)
  refine lv_dup C.1 C.2.1 dX11_init_462 rfl ?_
  refine lv_bipush (v := (75 : Int32)) C.1 C.2.1 dX11_init_463 (by decide) ?_
  refine lv_bipush (v := (112 : Int32)) C.1 C.2.1 dX11_init_465 (by decide) ?_
  refine i_wst C hw 0 rfl (by unfold vp_in; decide) (wst (i := 75) (x := (112 : Int32)) (by decide)) dX11_init_467 (fun H locs hw => ?_)
  refine lv_dup C.1 C.2.1 dX11_init_468 rfl ?_
  refine lv_bipush (v := (76 : Int32)) C.1 C.2.1 dX11_init_469 (by decide) ?_
  refine lv_bipush (v := (32 : Int32)) C.1 C.2.1 dX11_init_471 (by decide) ?_
  refine i_wst C hw 0 rfl (by unfold vp_in; decide) (wst (i := 76) (x := (32 : Int32)) (by decide)) dX11_init_473 (fun H locs hw => ?_)
  refine lv_dup C.1 C.2.1 dX11_init_474 rfl ?_
  refine lv_bipush (v := (77 : Int32)) C.1 C.2.1 dX11_init_475 (by decide) ?_
  refine lv_bipush (v := (97 : Int32)) C.1 C.2.1 dX11_init_477 (by decide) ?_
  refine i_wst C hw 0 rfl (by unfold vp_in; decide) (wst (i := 77) (x := (97 : Int32)) (by decide)) dX11_init_479 (fun H locs hw => ?_)
  refine lv_dup C.1 C.2.1 dX11_init_480 rfl ?_
  refine lv_bipush (v := (78 : Int32)) C.1 C.2.1 dX11_init_481 (by decide) ?_
  refine lv_bipush (v := (100 : Int32)) C.1 C.2.1 dX11_init_483 (by decide) ?_
  refine i_wst C hw 0 rfl (by unfold vp_in; decide) (wst (i := 78) (x := (100 : Int32)) (by decide)) dX11_init_485 (fun H locs hw => ?_)
  refine lv_dup C.1 C.2.1 dX11_init_486 rfl ?_
  refine lv_bipush (v := (79 : Int32)) C.1 C.2.1 dX11_init_487 (by decide) ?_
  refine lv_bipush (v := (100 : Int32)) C.1 C.2.1 dX11_init_489 (by decide) ?_
  refine i_wst C hw 0 rfl (by unfold vp_in; decide) (wst (i := 79) (x := (100 : Int32)) (by decide)) dX11_init_491 (fun H locs hw => ?_)
  refine lv_dup C.1 C.2.1 dX11_init_492 rfl ?_
  refine lv_bipush (v := (80 : Int32)) C.1 C.2.1 dX11_init_493 (by decide) ?_
  refine lv_bipush (v := (32 : Int32)) C.1 C.2.1 dX11_init_495 (by decide) ?_
  refine i_wst C hw 0 rfl (by unfold vp_in; decide) (wst (i := 80) (x := (32 : Int32)) (by decide)) dX11_init_497 (fun H locs hw => ?_)
  refine lv_dup C.1 C.2.1 dX11_init_498 rfl ?_
  refine lv_bipush (v := (81 : Int32)) C.1 C.2.1 dX11_init_499 (by decide) ?_
  refine lv_bipush (v := (122 : Int32)) C.1 C.2.1 dX11_init_501 (by decide) ?_
  refine i_wst C hw 0 rfl (by unfold vp_in; decide) (wst (i := 81) (x := (122 : Int32)) (by decide)) dX11_init_503 (fun H locs hw => ?_)
  refine lv_dup C.1 C.2.1 dX11_init_504 rfl ?_
  refine lv_bipush (v := (82 : Int32)) C.1 C.2.1 dX11_init_505 (by decide) ?_
  refine lv_bipush (v := (101 : Int32)) C.1 C.2.1 dX11_init_507 (by decide) ?_
  refine i_wst C hw 0 rfl (by unfold vp_in; decide) (wst (i := 82) (x := (101 : Int32)) (by decide)) dX11_init_509 (fun H locs hw => ?_)
  refine lv_dup C.1 C.2.1 dX11_init_510 rfl ?_
  refine lv_bipush (v := (83 : Int32)) C.1 C.2.1 dX11_init_511 (by decide) ?_
  refine lv_bipush (v := (114 : Int32)) C.1 C.2.1 dX11_init_513 (by decide) ?_
  refine i_wst C hw 0 rfl (by unfold vp_in; decide) (wst (i := 83) (x := (114 : Int32)) (by decide)) dX11_init_515 (fun H locs hw => ?_)
  refine lv_dup C.1 C.2.1 dX11_init_516 rfl ?_
  refine lv_bipush (v := (84 : Int32)) C.1 C.2.1 dX11_init_517 (by decide) ?_
  refine lv_bipush (v := (111 : Int32)) C.1 C.2.1 dX11_init_519 (by decide) ?_
  refine i_wst C hw 0 rfl (by unfold vp_in; decide) (wst (i := 84) (x := (111 : Int32)) (by decide)) dX11_init_521 (fun H locs hw => ?_)
  refine lv_dup C.1 C.2.1 dX11_init_522 rfl ?_
  refine lv_bipush (v := (85 : Int32)) C.1 C.2.1 dX11_init_523 (by decide) ?_
  refine lv_bipush (v := (32 : Int32)) C.1 C.2.1 dX11_init_525 (by decide) ?_
  refine i_wst C hw 0 rfl (by unfold vp_in; decide) (wst (i := 85) (x := (32 : Int32)) (by decide)) dX11_init_527 (fun H locs hw => ?_)
  refine lv_dup C.1 C.2.1 dX11_init_528 rfl ?_
  refine lv_bipush (v := (86 : Int32)) C.1 C.2.1 dX11_init_529 (by decide) ?_
  refine lv_bipush (v := (119 : Int32)) C.1 C.2.1 dX11_init_531 (by decide) ?_
  refine i_wst C hw 0 rfl (by unfold vp_in; decide) (wst (i := 86) (x := (119 : Int32)) (by decide)) dX11_init_533 (fun H locs hw => ?_)
  refine lv_dup C.1 C.2.1 dX11_init_534 rfl ?_
  refine lv_bipush (v := (87 : Int32)) C.1 C.2.1 dX11_init_535 (by decide) ?_
  refine lv_bipush (v := (105 : Int32)) C.1 C.2.1 dX11_init_537 (by decide) ?_
  refine i_wst C hw 0 rfl (by unfold vp_in; decide) (wst (i := 87) (x := (105 : Int32)) (by decide)) dX11_init_539 (fun H locs hw => ?_)
  refine lv_dup C.1 C.2.1 dX11_init_540 rfl ?_
  refine lv_bipush (v := (88 : Int32)) C.1 C.2.1 dX11_init_541 (by decide) ?_
  refine lv_bipush (v := (112 : Int32)) C.1 C.2.1 dX11_init_543 (by decide) ?_
  refine i_wst C hw 0 rfl (by unfold vp_in; decide) (wst (i := 88) (x := (112 : Int32)) (by decide)) dX11_init_545 (fun H locs hw => ?_)
  refine lv_dup C.1 C.2.1 dX11_init_546 rfl ?_
  refine lv_bipush (v := (89 : Int32)) C.1 C.2.1 dX11_init_547 (by decide) ?_
  refine lv_bipush (v := (101 : Int32)) C.1 C.2.1 dX11_init_549 (by decide) ?_
  refine i_wst C hw 0 rfl (by unfold vp_in; decide) (wst (i := 89) (x := (101 : Int32)) (by decide)) dX11_init_551 (fun H locs hw => ?_)
  refine lv_dup C.1 C.2.1 dX11_init_552 rfl ?_
  refine lv_bipush (v := (90 : Int32)) C.1 C.2.1 dX11_init_553 (by decide) ?_
  refine lv_bipush (v := (32 : Int32)) C.1 C.2.1 dX11_init_555 (by decide) ?_
  refine i_wst C hw 0 rfl (by unfold vp_in; decide) (wst (i := 90) (x := (32 : Int32)) (by decide)) dX11_init_557 (fun H locs hw => ?_)
  refine lv_dup C.1 C.2.1 dX11_init_558 rfl ?_
  refine lv_bipush (v := (91 : Int32)) C.1 C.2.1 dX11_init_559 (by decide) ?_
  refine lv_bipush (v := (114 : Int32)) C.1 C.2.1 dX11_init_561 (by decide) ?_
  refine i_wst C hw 0 rfl (by unfold vp_in; decide) (wst (i := 91) (x := (114 : Int32)) (by decide)) dX11_init_563 (fun H locs hw => ?_)
  refine lv_dup C.1 C.2.1 dX11_init_564 rfl ?_
  refine lv_bipush (v := (92 : Int32)) C.1 C.2.1 dX11_init_565 (by decide) ?_
  refine lv_bipush (v := (101 : Int32)) C.1 C.2.1 dX11_init_567 (by decide) ?_
  refine i_wst C hw 0 rfl (by unfold vp_in; decide) (wst (i := 92) (x := (101 : Int32)) (by decide)) dX11_init_569 (fun H locs hw => ?_)
  refine lv_dup C.1 C.2.1 dX11_init_570 rfl ?_
  refine lv_bipush (v := (93 : Int32)) C.1 C.2.1 dX11_init_571 (by decide) ?_
  refine lv_bipush (v := (108 : Int32)) C.1 C.2.1 dX11_init_573 (by decide) ?_
  refine i_wst C hw 0 rfl (by unfold vp_in; decide) (wst (i := 93) (x := (108 : Int32)) (by decide)) dX11_init_575 (fun H locs hw => ?_)
  refine lv_dup C.1 C.2.1 dX11_init_576 rfl ?_
  refine lv_bipush (v := (94 : Int32)) C.1 C.2.1 dX11_init_577 (by decide) ?_
  refine lv_bipush (v := (97 : Int32)) C.1 C.2.1 dX11_init_579 (by decide) ?_
  refine i_wst C hw 0 rfl (by unfold vp_in; decide) (wst (i := 94) (x := (97 : Int32)) (by decide)) dX11_init_581 (fun H locs hw => ?_)
  refine lv_dup C.1 C.2.1 dX11_init_582 rfl ?_
  refine lv_bipush (v := (95 : Int32)) C.1 C.2.1 dX11_init_583 (by decide) ?_
  refine lv_bipush (v := (121 : Int32)) C.1 C.2.1 dX11_init_585 (by decide) ?_
  refine i_wst C hw 0 rfl (by unfold vp_in; decide) (wst (i := 95) (x := (121 : Int32)) (by decide)) dX11_init_587 (fun H locs hw => ?_)
  refine lv_dup C.1 C.2.1 dX11_init_588 rfl ?_
  refine lv_bipush (v := (96 : Int32)) C.1 C.2.1 dX11_init_589 (by decide) ?_
  refine lv_bipush (v := (32 : Int32)) C.1 C.2.1 dX11_init_591 (by decide) ?_
  refine i_wst C hw 0 rfl (by unfold vp_in; decide) (wst (i := 96) (x := (32 : Int32)) (by decide)) dX11_init_593 (fun H locs hw => ?_)
  refine lv_dup C.1 C.2.1 dX11_init_594 rfl ?_
  refine lv_bipush (v := (97 : Int32)) C.1 C.2.1 dX11_init_595 (by decide) ?_
  refine lv_bipush (v := (111 : Int32)) C.1 C.2.1 dX11_init_597 (by decide) ?_
  refine i_wst C hw 0 rfl (by unfold vp_in; decide) (wst (i := 97) (x := (111 : Int32)) (by decide)) dX11_init_599 (fun H locs hw => ?_)
  refine lv_dup C.1 C.2.1 dX11_init_600 rfl ?_
  refine lv_bipush (v := (98 : Int32)) C.1 C.2.1 dX11_init_601 (by decide) ?_
  refine lv_bipush (v := (114 : Int32)) C.1 C.2.1 dX11_init_603 (by decide) ?_
  refine i_wst C hw 0 rfl (by unfold vp_in; decide) (wst (i := 98) (x := (114 : Int32)) (by decide)) dX11_init_605 (fun H locs hw => ?_)
  refine lv_dup C.1 C.2.1 dX11_init_606 rfl ?_
  refine lv_bipush (v := (99 : Int32)) C.1 C.2.1 dX11_init_607 (by decide) ?_
  refine lv_bipush (v := (32 : Int32)) C.1 C.2.1 dX11_init_609 (by decide) ?_
  refine i_wst C hw 0 rfl (by unfold vp_in; decide) (wst (i := 99) (x := (32 : Int32)) (by decide)) dX11_init_611 (fun H locs hw => ?_)
  refine lv_dup C.1 C.2.1 dX11_init_612 rfl ?_
  refine lv_bipush (v := (100 : Int32)) C.1 C.2.1 dX11_init_613 (by decide) ?_
  refine lv_bipush (v := (97 : Int32)) C.1 C.2.1 dX11_init_615 (by decide) ?_
  refine i_wst C hw 0 rfl (by unfold vp_in; decide) (wst (i := 100) (x := (97 : Int32)) (by decide)) dX11_init_617 (fun H locs hw => ?_)
  refine lv_dup C.1 C.2.1 dX11_init_618 rfl ?_
  refine lv_bipush (v := (101 : Int32)) C.1 C.2.1 dX11_init_619 (by decide) ?_
  refine lv_bipush (v := (110 : Int32)) C.1 C.2.1 dX11_init_621 (by decide) ?_
  refine i_wst C hw 0 rfl (by unfold vp_in; decide) (wst (i := 101) (x := (110 : Int32)) (by decide)) dX11_init_623 (fun H locs hw => ?_)
  refine lv_dup C.1 C.2.1 dX11_init_624 rfl ?_
  refine lv_bipush (v := (102 : Int32)) C.1 C.2.1 dX11_init_625 (by decide) ?_
  refine lv_bipush (v := (100 : Int32)) C.1 C.2.1 dX11_init_627 (by decide) ?_
  refine i_wst C hw 0 rfl (by unfold vp_in; decide) (wst (i := 102) (x := (100 : Int32)) (by decide)) dX11_init_629 (fun H locs hw => ?_)
  refine lv_dup C.1 C.2.1 dX11_init_630 rfl ?_
  refine lv_bipush (v := (103 : Int32)) C.1 C.2.1 dX11_init_631 (by decide) ?_
  refine lv_bipush (v := (32 : Int32)) C.1 C.2.1 dX11_init_633 (by decide) ?_
  refine i_wst C hw 0 rfl (by unfold vp_in; decide) (wst (i := 103) (x := (32 : Int32)) (by decide)) dX11_init_635 (fun H locs hw => ?_)
  refine lv_dup C.1 C.2.1 dX11_init_636 rfl ?_
  refine lv_bipush (v := (104 : Int32)) C.1 C.2.1 dX11_init_637 (by decide) ?_
  refine lv_bipush (v := (111 : Int32)) C.1 C.2.1 dX11_init_639 (by decide) ?_
  refine i_wst C hw 0 rfl (by unfold vp_in; decide) (wst (i := 104) (x := (111 : Int32)) (by decide)) dX11_init_641 (fun H locs hw => ?_)
  refine lv_dup C.1 C.2.1 dX11_init_642 rfl ?_
  refine lv_bipush (v := (105 : Int32)) C.1 C.2.1 dX11_init_643 (by decide) ?_
  refine lv_bipush (v := (110 : Int32)) C.1 C.2.1 dX11_init_645 (by decide) ?_
  refine i_wst C hw 0 rfl (by unfold vp_in; decide) (wst (i := 105) (x := (110 : Int32)) (by decide)) dX11_init_647 (fun H locs hw => ?_)
  refine lv_dup C.1 C.2.1 dX11_init_648 rfl ?_
  refine lv_bipush (v := (106 : Int32)) C.1 C.2.1 dX11_init_649 (by decide) ?_
  refine lv_bipush (v := (101 : Int32)) C.1 C.2.1 dX11_init_651 (by decide) ?_
  refine i_wst C hw 0 rfl (by unfold vp_in; decide) (wst (i := 106) (x := (101 : Int32)) (by decide)) dX11_init_653 (fun H locs hw => ?_)
  refine lv_dup C.1 C.2.1 dX11_init_654 rfl ?_
  refine lv_bipush (v := (107 : Int32)) C.1 C.2.1 dX11_init_655 (by decide) ?_
  refine lv_bipush (v := (32 : Int32)) C.1 C.2.1 dX11_init_657 (by decide) ?_
  refine i_wst C hw 0 rfl (by unfold vp_in; decide) (wst (i := 107) (x := (32 : Int32)) (by decide)) dX11_init_659 (fun H locs hw => ?_)
  refine lv_dup C.1 C.2.1 dX11_init_660 rfl ?_
  refine lv_bipush (v := (108 : Int32)) C.1 C.2.1 dX11_init_661 (by decide) ?_
  refine lv_bipush (v := (116 : Int32)) C.1 C.2.1 dX11_init_663 (by decide) ?_
  refine i_wst C hw 0 rfl (by unfold vp_in; decide) (wst (i := 108) (x := (116 : Int32)) (by decide)) dX11_init_665 (fun H locs hw => ?_)
  refine lv_dup C.1 C.2.1 dX11_init_666 rfl ?_
  refine lv_bipush (v := (109 : Int32)) C.1 C.2.1 dX11_init_667 (by decide) ?_
  refine lv_bipush (v := (119 : Int32)) C.1 C.2.1 dX11_init_669 (by decide) ?_
  refine i_wst C hw 0 rfl (by unfold vp_in; decide) (wst (i := 109) (x := (119 : Int32)) (by decide)) dX11_init_671 (fun H locs hw => ?_)
  refine lv_dup C.1 C.2.1 dX11_init_672 rfl ?_
  refine lv_bipush (v := (110 : Int32)) C.1 C.2.1 dX11_init_673 (by decide) ?_
  refine lv_bipush (v := (111 : Int32)) C.1 C.2.1 dX11_init_675 (by decide) ?_
  refine i_wst C hw 0 rfl (by unfold vp_in; decide) (wst (i := 110) (x := (111 : Int32)) (by decide)) dX11_init_677 (fun H locs hw => ?_)
  refine lv_dup C.1 C.2.1 dX11_init_678 rfl ?_
  refine lv_bipush (v := (111 : Int32)) C.1 C.2.1 dX11_init_679 (by decide) ?_
  refine lv_bipush (v := (32 : Int32)) C.1 C.2.1 dX11_init_681 (by decide) ?_
  refine i_wst C hw 0 rfl (by unfold vp_in; decide) (wst (i := 111) (x := (32 : Int32)) (by decide)) dX11_init_683 (fun H locs hw => ?_)
  refine i_putF (ci := 11) C hin hw (inC inW11) tyX11 tyX11_ok nmX11 0 rfl rfl 3 (by decide) (wc w_1465) rfl rfl (ty := .array .int) (by decide +kernel) rfl rfl (Nat.le_of_ble_eq_true rfl) (ws' := (a, .inr (11, [.ref q8, .int 0, .int 0, .ref q16, .int 0, .int 0, .int 0, .int 0, .int 0, .int 0, .int 0, .int 0, .int 0, .null, .null, .null, .null, .null, .null, .null, .int 0, .int 0, .int 0, .int 0, .null, .null, .null, .null, .null, .null, .null, .null, .null, .int 0, .int 0, .int 0, .int 0, .int 0, .int 0, .int 0, .int 0, .int 0, .int 0, .int 0, .int 0, .int 0, .null, .null, .null, .int 0, .int 0, .int 0, .int 0, .int 0, .null, .null, .null, .null, .null, .null, .null, .null, .null, .null, .null, .null, .int 0, .int 0, .int 0, .int 0, .null, .null, .int 0, .int 0])) :: (q16, .inl (cI, 112, .inl (wfl 112))) :: (q8, .inl (cI, 500, .inl (fun _ => 0))) :: []) rfl dX11_init_684 (fun H locs hw => ?_)
  refine lv_aload_n C.1 C.2.1 dX11_init_687 rfl (lv_at hl 0 rfl) ?_
  refine lv_iconst (v := (-1 : Int32)) C.1 C.2.1 dX11_init_688 (by decide) ?_
  refine wd_put (ci := 11) C hw (inC inW11) tyX11 tyX11_ok nmX11 0 rfl rfl 5 (by decide) (wc w_1467) rfl (ty := .int) (v := .int (-1 : Int32)) (by decide +kernel) rfl rfl (Nat.le_of_ble_eq_true rfl) (ws' := (a, .inr (11, [.ref q8, .int 0, .int 0, .ref q16, .int 0, .int (-1 : Int32), .int 0, .int 0, .int 0, .int 0, .int 0, .int 0, .int 0, .null, .null, .null, .null, .null, .null, .null, .int 0, .int 0, .int 0, .int 0, .null, .null, .null, .null, .null, .null, .null, .null, .null, .int 0, .int 0, .int 0, .int 0, .int 0, .int 0, .int 0, .int 0, .int 0, .int 0, .int 0, .int 0, .int 0, .null, .null, .null, .int 0, .int 0, .int 0, .int 0, .int 0, .null, .null, .null, .null, .null, .null, .null, .null, .null, .null, .null, .null, .int 0, .int 0, .int 0, .int 0, .null, .null, .int 0, .int 0])) :: (q16, .inl (cI, 112, .inl (wfl 112))) :: (q8, .inl (cI, 500, .inl (fun _ => 0))) :: []) rfl dX11_init_689 (fun H locs hw => ?_)
  refine lv_aload_n C.1 C.2.1 dX11_init_692 rfl (lv_at hl 0 rfl) ?_
  refine lv_bipush (v := (60 : Int32)) C.1 C.2.1 dX11_init_693 (by decide) ?_
  refine i_newa C hw (ty := .int) (wc w_214) rfl (fun _ _ h => h) 0 rfl (N' := 60) (a0 := (60, .inl (fun _ => 0))) (fun cA => by first | rfl | (rw [vp_cell_i]; rfl) | (rw [vp_cell_l]; rfl)) (by decide) (by decide) (by decide) (c1 := 3) (s1 := 672) rfl rfl (Nat.le_of_ble_eq_true rfl) (Nat.le_of_ble_eq_true rfl) dX11_init_695 (fun q695 H hw => ?_)
  refine i_putF (ci := 11) C hin hw (inC inW11) tyX11 tyX11_ok nmX11 0 rfl rfl 13 (by decide) (wc w_1475) rfl rfl (ty := .array .int) (by decide +kernel) rfl rfl (Nat.le_of_ble_eq_true rfl) (ws' := (a, .inr (11, [.ref q8, .int 0, .int 0, .ref q16, .int 0, .int (-1 : Int32), .int 0, .int 0, .int 0, .int 0, .int 0, .int 0, .int 0, .ref q695, .null, .null, .null, .null, .null, .null, .int 0, .int 0, .int 0, .int 0, .null, .null, .null, .null, .null, .null, .null, .null, .null, .int 0, .int 0, .int 0, .int 0, .int 0, .int 0, .int 0, .int 0, .int 0, .int 0, .int 0, .int 0, .int 0, .null, .null, .null, .int 0, .int 0, .int 0, .int 0, .int 0, .null, .null, .null, .null, .null, .null, .null, .null, .null, .null, .null, .null, .int 0, .int 0, .int 0, .int 0, .null, .null, .int 0, .int 0])) :: (q695, .inl (cI, 60, .inl (fun _ => 0))) :: (q16, .inl (cI, 112, .inl (wfl 112))) :: (q8, .inl (cI, 500, .inl (fun _ => 0))) :: []) rfl dX11_init_697 (fun H locs hw => ?_)
  refine lv_aload_n C.1 C.2.1 dX11_init_700 rfl (lv_at hl 0 rfl) ?_
  refine lv_bipush (v := (60 : Int32)) C.1 C.2.1 dX11_init_701 (by decide) ?_
  refine i_newa C hw (ty := .int) (wc w_214) rfl (fun _ _ h => h) 0 rfl (N' := 60) (a0 := (60, .inl (fun _ => 0))) (fun cA => by first | rfl | (rw [vp_cell_i]; rfl) | (rw [vp_cell_l]; rfl)) (by decide) (by decide) (by decide) (c1 := 4) (s1 := 732) rfl rfl (Nat.le_of_ble_eq_true rfl) (Nat.le_of_ble_eq_true rfl) dX11_init_703 (fun q703 H hw => ?_)
  refine i_putF (ci := 11) C hin hw (inC inW11) tyX11 tyX11_ok nmX11 0 rfl rfl 14 (by decide) (wc w_1476) rfl rfl (ty := .array .int) (by decide +kernel) rfl rfl (Nat.le_of_ble_eq_true rfl) (ws' := (a, .inr (11, [.ref q8, .int 0, .int 0, .ref q16, .int 0, .int (-1 : Int32), .int 0, .int 0, .int 0, .int 0, .int 0, .int 0, .int 0, .ref q695, .ref q703, .null, .null, .null, .null, .null, .int 0, .int 0, .int 0, .int 0, .null, .null, .null, .null, .null, .null, .null, .null, .null, .int 0, .int 0, .int 0, .int 0, .int 0, .int 0, .int 0, .int 0, .int 0, .int 0, .int 0, .int 0, .int 0, .null, .null, .null, .int 0, .int 0, .int 0, .int 0, .int 0, .null, .null, .null, .null, .null, .null, .null, .null, .null, .null, .null, .null, .int 0, .int 0, .int 0, .int 0, .null, .null, .int 0, .int 0])) :: (q703, .inl (cI, 60, .inl (fun _ => 0))) :: (q695, .inl (cI, 60, .inl (fun _ => 0))) :: (q16, .inl (cI, 112, .inl (wfl 112))) :: (q8, .inl (cI, 500, .inl (fun _ => 0))) :: []) rfl dX11_init_705 (fun H locs hw => ?_)
  refine lv_aload_n C.1 C.2.1 dX11_init_708 rfl (lv_at hl 0 rfl) ?_
  refine lv_sipush (v := (720 : Int32)) C.1 C.2.1 dX11_init_709 (by decide) ?_
  refine i_newa C hw (ty := .int) (wc w_214) rfl (fun _ _ h => h) 0 rfl (N' := 720) (a0 := (720, .inl (fun _ => 0))) (fun cA => by first | rfl | (rw [vp_cell_i]; rfl) | (rw [vp_cell_l]; rfl)) (by decide) (by decide) (by decide) (c1 := 5) (s1 := 1452) rfl rfl (Nat.le_of_ble_eq_true rfl) (Nat.le_of_ble_eq_true rfl) dX11_init_712 (fun q712 H hw => ?_)
  refine i_putF (ci := 11) C hin hw (inC inW11) tyX11 tyX11_ok nmX11 0 rfl rfl 15 (by decide) (wc w_1477) rfl rfl (ty := .array .int) (by decide +kernel) rfl rfl (Nat.le_of_ble_eq_true rfl) (ws' := (a, .inr (11, [.ref q8, .int 0, .int 0, .ref q16, .int 0, .int (-1 : Int32), .int 0, .int 0, .int 0, .int 0, .int 0, .int 0, .int 0, .ref q695, .ref q703, .ref q712, .null, .null, .null, .null, .int 0, .int 0, .int 0, .int 0, .null, .null, .null, .null, .null, .null, .null, .null, .null, .int 0, .int 0, .int 0, .int 0, .int 0, .int 0, .int 0, .int 0, .int 0, .int 0, .int 0, .int 0, .int 0, .null, .null, .null, .int 0, .int 0, .int 0, .int 0, .int 0, .null, .null, .null, .null, .null, .null, .null, .null, .null, .null, .null, .null, .int 0, .int 0, .int 0, .int 0, .null, .null, .int 0, .int 0])) :: (q712, .inl (cI, 720, .inl (fun _ => 0))) :: (q703, .inl (cI, 60, .inl (fun _ => 0))) :: (q695, .inl (cI, 60, .inl (fun _ => 0))) :: (q16, .inl (cI, 112, .inl (wfl 112))) :: (q8, .inl (cI, 500, .inl (fun _ => 0))) :: []) rfl dX11_init_714 (fun H locs hw => ?_)
  refine lv_aload_n C.1 C.2.1 dX11_init_717 rfl (lv_at hl 0 rfl) ?_
  refine lv_sipush (v := (720 : Int32)) C.1 C.2.1 dX11_init_718 (by decide) ?_
  refine i_newa C hw (ty := .int) (wc w_214) rfl (fun _ _ h => h) 0 rfl (N' := 720) (a0 := (720, .inl (fun _ => 0))) (fun cA => by first | rfl | (rw [vp_cell_i]; rfl) | (rw [vp_cell_l]; rfl)) (by decide) (by decide) (by decide) (c1 := 6) (s1 := 2172) rfl rfl (Nat.le_of_ble_eq_true rfl) (Nat.le_of_ble_eq_true rfl) dX11_init_721 (fun q721 H hw => ?_)
  refine i_putF (ci := 11) C hin hw (inC inW11) tyX11 tyX11_ok nmX11 0 rfl rfl 16 (by decide) (wc w_1478) rfl rfl (ty := .array .int) (by decide +kernel) rfl rfl (Nat.le_of_ble_eq_true rfl) (ws' := (a, .inr (11, [.ref q8, .int 0, .int 0, .ref q16, .int 0, .int (-1 : Int32), .int 0, .int 0, .int 0, .int 0, .int 0, .int 0, .int 0, .ref q695, .ref q703, .ref q712, .ref q721, .null, .null, .null, .int 0, .int 0, .int 0, .int 0, .null, .null, .null, .null, .null, .null, .null, .null, .null, .int 0, .int 0, .int 0, .int 0, .int 0, .int 0, .int 0, .int 0, .int 0, .int 0, .int 0, .int 0, .int 0, .null, .null, .null, .int 0, .int 0, .int 0, .int 0, .int 0, .null, .null, .null, .null, .null, .null, .null, .null, .null, .null, .null, .null, .int 0, .int 0, .int 0, .int 0, .null, .null, .int 0, .int 0])) :: (q721, .inl (cI, 720, .inl (fun _ => 0))) :: (q712, .inl (cI, 720, .inl (fun _ => 0))) :: (q703, .inl (cI, 60, .inl (fun _ => 0))) :: (q695, .inl (cI, 60, .inl (fun _ => 0))) :: (q16, .inl (cI, 112, .inl (wfl 112))) :: (q8, .inl (cI, 500, .inl (fun _ => 0))) :: []) rfl dX11_init_723 (fun H locs hw => ?_)
  refine lv_aload_n C.1 C.2.1 dX11_init_726 rfl (lv_at hl 0 rfl) ?_
  refine lv_sipush (v := (720 : Int32)) C.1 C.2.1 dX11_init_727 (by decide) ?_
  refine i_newa C hw (ty := .boolean) (wc w_1685) rfl (fun _ _ h => h) 1 rfl (N' := 720) (a0 := (720, .inl (fun _ => 0))) (fun cA => by first | rfl | (rw [vp_cell_i]; rfl) | (rw [vp_cell_l]; rfl)) (by decide) (by decide) (by decide) (c1 := 7) (s1 := 2892) rfl rfl (Nat.le_of_ble_eq_true rfl) (Nat.le_of_ble_eq_true rfl) dX11_init_730 (fun q730 H hw => ?_)
  refine i_putF (ci := 11) C hin hw (inC inW11) tyX11 tyX11_ok nmX11 0 rfl rfl 17 (by decide) (wc w_1479) rfl rfl (ty := .array .boolean) (by decide +kernel) rfl rfl (Nat.le_of_ble_eq_true rfl) (ws' := (a, .inr (11, [.ref q8, .int 0, .int 0, .ref q16, .int 0, .int (-1 : Int32), .int 0, .int 0, .int 0, .int 0, .int 0, .int 0, .int 0, .ref q695, .ref q703, .ref q712, .ref q721, .ref q730, .null, .null, .int 0, .int 0, .int 0, .int 0, .null, .null, .null, .null, .null, .null, .null, .null, .null, .int 0, .int 0, .int 0, .int 0, .int 0, .int 0, .int 0, .int 0, .int 0, .int 0, .int 0, .int 0, .int 0, .null, .null, .null, .int 0, .int 0, .int 0, .int 0, .int 0, .null, .null, .null, .null, .null, .null, .null, .null, .null, .null, .null, .null, .int 0, .int 0, .int 0, .int 0, .null, .null, .int 0, .int 0])) :: (q730, .inl (cZ, 720, .inl (fun _ => 0))) :: (q721, .inl (cI, 720, .inl (fun _ => 0))) :: (q712, .inl (cI, 720, .inl (fun _ => 0))) :: (q703, .inl (cI, 60, .inl (fun _ => 0))) :: (q695, .inl (cI, 60, .inl (fun _ => 0))) :: (q16, .inl (cI, 112, .inl (wfl 112))) :: (q8, .inl (cI, 500, .inl (fun _ => 0))) :: []) rfl dX11_init_732 (fun H locs hw => ?_)
  refine lv_aload_n C.1 C.2.1 dX11_init_735 rfl (lv_at hl 0 rfl) ?_
  refine lv_sipush (v := (720 : Int32)) C.1 C.2.1 dX11_init_736 (by decide) ?_
  refine i_newa C hw (ty := .int) (wc w_214) rfl (fun _ _ h => h) 0 rfl (N' := 720) (a0 := (720, .inl (fun _ => 0))) (fun cA => by first | rfl | (rw [vp_cell_i]; rfl) | (rw [vp_cell_l]; rfl)) (by decide) (by decide) (by decide) (c1 := 8) (s1 := 3612) rfl rfl (Nat.le_of_ble_eq_true rfl) (Nat.le_of_ble_eq_true rfl) dX11_init_739 (fun q739 H hw => ?_)
  refine i_putF (ci := 11) C hin hw (inC inW11) tyX11 tyX11_ok nmX11 0 rfl rfl 18 (by decide) (wc w_1480) rfl rfl (ty := .array .int) (by decide +kernel) rfl rfl (Nat.le_of_ble_eq_true rfl) (ws' := (a, .inr (11, [.ref q8, .int 0, .int 0, .ref q16, .int 0, .int (-1 : Int32), .int 0, .int 0, .int 0, .int 0, .int 0, .int 0, .int 0, .ref q695, .ref q703, .ref q712, .ref q721, .ref q730, .ref q739, .null, .int 0, .int 0, .int 0, .int 0, .null, .null, .null, .null, .null, .null, .null, .null, .null, .int 0, .int 0, .int 0, .int 0, .int 0, .int 0, .int 0, .int 0, .int 0, .int 0, .int 0, .int 0, .int 0, .null, .null, .null, .int 0, .int 0, .int 0, .int 0, .int 0, .null, .null, .null, .null, .null, .null, .null, .null, .null, .null, .null, .null, .int 0, .int 0, .int 0, .int 0, .null, .null, .int 0, .int 0])) :: (q739, .inl (cI, 720, .inl (fun _ => 0))) :: (q730, .inl (cZ, 720, .inl (fun _ => 0))) :: (q721, .inl (cI, 720, .inl (fun _ => 0))) :: (q712, .inl (cI, 720, .inl (fun _ => 0))) :: (q703, .inl (cI, 60, .inl (fun _ => 0))) :: (q695, .inl (cI, 60, .inl (fun _ => 0))) :: (q16, .inl (cI, 112, .inl (wfl 112))) :: (q8, .inl (cI, 500, .inl (fun _ => 0))) :: []) rfl dX11_init_741 (fun H locs hw => ?_)
  refine lv_aload_n C.1 C.2.1 dX11_init_744 rfl (lv_at hl 0 rfl) ?_
  refine lv_sipush (v := (720 : Int32)) C.1 C.2.1 dX11_init_745 (by decide) ?_
  refine i_newa C hw (ty := .int) (wc w_214) rfl (fun _ _ h => h) 0 rfl (N' := 720) (a0 := (720, .inl (fun _ => 0))) (fun cA => by first | rfl | (rw [vp_cell_i]; rfl) | (rw [vp_cell_l]; rfl)) (by decide) (by decide) (by decide) (c1 := 9) (s1 := 4332) rfl rfl (Nat.le_of_ble_eq_true rfl) (Nat.le_of_ble_eq_true rfl) dX11_init_748 (fun q748 H hw => ?_)
  refine i_putF (ci := 11) C hin hw (inC inW11) tyX11 tyX11_ok nmX11 0 rfl rfl 19 (by decide) (wc w_1481) rfl rfl (ty := .array .int) (by decide +kernel) rfl rfl (Nat.le_of_ble_eq_true rfl) (ws' := (a, .inr (11, [.ref q8, .int 0, .int 0, .ref q16, .int 0, .int (-1 : Int32), .int 0, .int 0, .int 0, .int 0, .int 0, .int 0, .int 0, .ref q695, .ref q703, .ref q712, .ref q721, .ref q730, .ref q739, .ref q748, .int 0, .int 0, .int 0, .int 0, .null, .null, .null, .null, .null, .null, .null, .null, .null, .int 0, .int 0, .int 0, .int 0, .int 0, .int 0, .int 0, .int 0, .int 0, .int 0, .int 0, .int 0, .int 0, .null, .null, .null, .int 0, .int 0, .int 0, .int 0, .int 0, .null, .null, .null, .null, .null, .null, .null, .null, .null, .null, .null, .null, .int 0, .int 0, .int 0, .int 0, .null, .null, .int 0, .int 0])) :: (q748, .inl (cI, 720, .inl (fun _ => 0))) :: (q739, .inl (cI, 720, .inl (fun _ => 0))) :: (q730, .inl (cZ, 720, .inl (fun _ => 0))) :: (q721, .inl (cI, 720, .inl (fun _ => 0))) :: (q712, .inl (cI, 720, .inl (fun _ => 0))) :: (q703, .inl (cI, 60, .inl (fun _ => 0))) :: (q695, .inl (cI, 60, .inl (fun _ => 0))) :: (q16, .inl (cI, 112, .inl (wfl 112))) :: (q8, .inl (cI, 500, .inl (fun _ => 0))) :: []) rfl dX11_init_750 (fun H locs hw => ?_)
  refine lv_aload_n C.1 C.2.1 dX11_init_753 rfl (lv_at hl 0 rfl) ?_
  refine lv_bipush (v := (40 : Int32)) C.1 C.2.1 dX11_init_754 (by decide) ?_
  refine i_newa C hw (ty := .int) (wc w_214) rfl (fun _ _ h => h) 0 rfl (N' := 40) (a0 := (40, .inl (fun _ => 0))) (fun cA => by first | rfl | (rw [vp_cell_i]; rfl) | (rw [vp_cell_l]; rfl)) (by decide) (by decide) (by decide) (c1 := 10) (s1 := 4372) rfl rfl (Nat.le_of_ble_eq_true rfl) (Nat.le_of_ble_eq_true rfl) dX11_init_756 (fun q756 H hw => ?_)
  refine i_putF (ci := 11) C hin hw (inC inW11) tyX11 tyX11_ok nmX11 0 rfl rfl 24 (by decide) (wc w_1486) rfl rfl (ty := .array .int) (by decide +kernel) rfl rfl (Nat.le_of_ble_eq_true rfl) (ws' := (a, .inr (11, [.ref q8, .int 0, .int 0, .ref q16, .int 0, .int (-1 : Int32), .int 0, .int 0, .int 0, .int 0, .int 0, .int 0, .int 0, .ref q695, .ref q703, .ref q712, .ref q721, .ref q730, .ref q739, .ref q748, .int 0, .int 0, .int 0, .int 0, .ref q756, .null, .null, .null, .null, .null, .null, .null, .null, .int 0, .int 0, .int 0, .int 0, .int 0, .int 0, .int 0, .int 0, .int 0, .int 0, .int 0, .int 0, .int 0, .null, .null, .null, .int 0, .int 0, .int 0, .int 0, .int 0, .null, .null, .null, .null, .null, .null, .null, .null, .null, .null, .null, .null, .int 0, .int 0, .int 0, .int 0, .null, .null, .int 0, .int 0])) :: (q756, .inl (cI, 40, .inl (fun _ => 0))) :: (q748, .inl (cI, 720, .inl (fun _ => 0))) :: (q739, .inl (cI, 720, .inl (fun _ => 0))) :: (q730, .inl (cZ, 720, .inl (fun _ => 0))) :: (q721, .inl (cI, 720, .inl (fun _ => 0))) :: (q712, .inl (cI, 720, .inl (fun _ => 0))) :: (q703, .inl (cI, 60, .inl (fun _ => 0))) :: (q695, .inl (cI, 60, .inl (fun _ => 0))) :: (q16, .inl (cI, 112, .inl (wfl 112))) :: (q8, .inl (cI, 500, .inl (fun _ => 0))) :: []) rfl dX11_init_758 (fun H locs hw => ?_)
  refine lv_aload_n C.1 C.2.1 dX11_init_761 rfl (lv_at hl 0 rfl) ?_
  refine lv_bipush (v := (48 : Int32)) C.1 C.2.1 dX11_init_762 (by decide) ?_
  refine i_newa C hw (ty := .int) (wc w_214) rfl (fun _ _ h => h) 0 rfl (N' := 48) (a0 := (48, .inl (fun _ => 0))) (fun cA => by first | rfl | (rw [vp_cell_i]; rfl) | (rw [vp_cell_l]; rfl)) (by decide) (by decide) (by decide) (c1 := 11) (s1 := 4420) rfl rfl (Nat.le_of_ble_eq_true rfl) (Nat.le_of_ble_eq_true rfl) dX11_init_764 (fun q764 H hw => ?_)
  refine i_putF (ci := 11) C hin hw (inC inW11) tyX11 tyX11_ok nmX11 0 rfl rfl 25 (by decide) (wc w_1487) rfl rfl (ty := .array .int) (by decide +kernel) rfl rfl (Nat.le_of_ble_eq_true rfl) (ws' := (a, .inr (11, [.ref q8, .int 0, .int 0, .ref q16, .int 0, .int (-1 : Int32), .int 0, .int 0, .int 0, .int 0, .int 0, .int 0, .int 0, .ref q695, .ref q703, .ref q712, .ref q721, .ref q730, .ref q739, .ref q748, .int 0, .int 0, .int 0, .int 0, .ref q756, .ref q764, .null, .null, .null, .null, .null, .null, .null, .int 0, .int 0, .int 0, .int 0, .int 0, .int 0, .int 0, .int 0, .int 0, .int 0, .int 0, .int 0, .int 0, .null, .null, .null, .int 0, .int 0, .int 0, .int 0, .int 0, .null, .null, .null, .null, .null, .null, .null, .null, .null, .null, .null, .null, .int 0, .int 0, .int 0, .int 0, .null, .null, .int 0, .int 0])) :: (q764, .inl (cI, 48, .inl (fun _ => 0))) :: (q756, .inl (cI, 40, .inl (fun _ => 0))) :: (q748, .inl (cI, 720, .inl (fun _ => 0))) :: (q739, .inl (cI, 720, .inl (fun _ => 0))) :: (q730, .inl (cZ, 720, .inl (fun _ => 0))) :: (q721, .inl (cI, 720, .inl (fun _ => 0))) :: (q712, .inl (cI, 720, .inl (fun _ => 0))) :: (q703, .inl (cI, 60, .inl (fun _ => 0))) :: (q695, .inl (cI, 60, .inl (fun _ => 0))) :: (q16, .inl (cI, 112, .inl (wfl 112))) :: (q8, .inl (cI, 500, .inl (fun _ => 0))) :: []) rfl dX11_init_766 (fun H locs hw => ?_)
  refine lv_aload_n C.1 C.2.1 dX11_init_769 rfl (lv_at hl 0 rfl) ?_
  refine lv_bipush (v := (48 : Int32)) C.1 C.2.1 dX11_init_770 (by decide) ?_
  refine i_newa C hw (ty := .int) (wc w_214) rfl (fun _ _ h => h) 0 rfl (N' := 48) (a0 := (48, .inl (fun _ => 0))) (fun cA => by first | rfl | (rw [vp_cell_i]; rfl) | (rw [vp_cell_l]; rfl)) (by decide) (by decide) (by decide) (c1 := 12) (s1 := 4468) rfl rfl (Nat.le_of_ble_eq_true rfl) (Nat.le_of_ble_eq_true rfl) dX11_init_772 (fun q772 H hw => ?_)
  refine i_putF (ci := 11) C hin hw (inC inW11) tyX11 tyX11_ok nmX11 0 rfl rfl 26 (by decide) (wc w_1488) rfl rfl (ty := .array .int) (by decide +kernel) rfl rfl (Nat.le_of_ble_eq_true rfl) (ws' := (a, .inr (11, [.ref q8, .int 0, .int 0, .ref q16, .int 0, .int (-1 : Int32), .int 0, .int 0, .int 0, .int 0, .int 0, .int 0, .int 0, .ref q695, .ref q703, .ref q712, .ref q721, .ref q730, .ref q739, .ref q748, .int 0, .int 0, .int 0, .int 0, .ref q756, .ref q764, .ref q772, .null, .null, .null, .null, .null, .null, .int 0, .int 0, .int 0, .int 0, .int 0, .int 0, .int 0, .int 0, .int 0, .int 0, .int 0, .int 0, .int 0, .null, .null, .null, .int 0, .int 0, .int 0, .int 0, .int 0, .null, .null, .null, .null, .null, .null, .null, .null, .null, .null, .null, .null, .int 0, .int 0, .int 0, .int 0, .null, .null, .int 0, .int 0])) :: (q772, .inl (cI, 48, .inl (fun _ => 0))) :: (q764, .inl (cI, 48, .inl (fun _ => 0))) :: (q756, .inl (cI, 40, .inl (fun _ => 0))) :: (q748, .inl (cI, 720, .inl (fun _ => 0))) :: (q739, .inl (cI, 720, .inl (fun _ => 0))) :: (q730, .inl (cZ, 720, .inl (fun _ => 0))) :: (q721, .inl (cI, 720, .inl (fun _ => 0))) :: (q712, .inl (cI, 720, .inl (fun _ => 0))) :: (q703, .inl (cI, 60, .inl (fun _ => 0))) :: (q695, .inl (cI, 60, .inl (fun _ => 0))) :: (q16, .inl (cI, 112, .inl (wfl 112))) :: (q8, .inl (cI, 500, .inl (fun _ => 0))) :: []) rfl dX11_init_774 (fun H locs hw => ?_)
  refine lv_aload_n C.1 C.2.1 dX11_init_777 rfl (lv_at hl 0 rfl) ?_
  refine lv_sipush (v := (128 : Int32)) C.1 C.2.1 dX11_init_778 (by decide) ?_
  refine i_newa C hw (ty := .int) (wc w_214) rfl (fun _ _ h => h) 0 rfl (N' := 128) (a0 := (128, .inl (fun _ => 0))) (fun cA => by first | rfl | (rw [vp_cell_i]; rfl) | (rw [vp_cell_l]; rfl)) (by decide) (by decide) (by decide) (c1 := 13) (s1 := 4596) rfl rfl (Nat.le_of_ble_eq_true rfl) (Nat.le_of_ble_eq_true rfl) dX11_init_781 (fun q781 H hw => ?_)
  refine i_putF (ci := 11) C hin hw (inC inW11) tyX11 tyX11_ok nmX11 0 rfl rfl 27 (by decide) (wc w_1489) rfl rfl (ty := .array .int) (by decide +kernel) rfl rfl (Nat.le_of_ble_eq_true rfl) (ws' := (a, .inr (11, [.ref q8, .int 0, .int 0, .ref q16, .int 0, .int (-1 : Int32), .int 0, .int 0, .int 0, .int 0, .int 0, .int 0, .int 0, .ref q695, .ref q703, .ref q712, .ref q721, .ref q730, .ref q739, .ref q748, .int 0, .int 0, .int 0, .int 0, .ref q756, .ref q764, .ref q772, .ref q781, .null, .null, .null, .null, .null, .int 0, .int 0, .int 0, .int 0, .int 0, .int 0, .int 0, .int 0, .int 0, .int 0, .int 0, .int 0, .int 0, .null, .null, .null, .int 0, .int 0, .int 0, .int 0, .int 0, .null, .null, .null, .null, .null, .null, .null, .null, .null, .null, .null, .null, .int 0, .int 0, .int 0, .int 0, .null, .null, .int 0, .int 0])) :: (q781, .inl (cI, 128, .inl (fun _ => 0))) :: (q772, .inl (cI, 48, .inl (fun _ => 0))) :: (q764, .inl (cI, 48, .inl (fun _ => 0))) :: (q756, .inl (cI, 40, .inl (fun _ => 0))) :: (q748, .inl (cI, 720, .inl (fun _ => 0))) :: (q739, .inl (cI, 720, .inl (fun _ => 0))) :: (q730, .inl (cZ, 720, .inl (fun _ => 0))) :: (q721, .inl (cI, 720, .inl (fun _ => 0))) :: (q712, .inl (cI, 720, .inl (fun _ => 0))) :: (q703, .inl (cI, 60, .inl (fun _ => 0))) :: (q695, .inl (cI, 60, .inl (fun _ => 0))) :: (q16, .inl (cI, 112, .inl (wfl 112))) :: (q8, .inl (cI, 500, .inl (fun _ => 0))) :: []) rfl dX11_init_783 (fun H locs hw => ?_)
  refine lv_aload_n C.1 C.2.1 dX11_init_786 rfl (lv_at hl 0 rfl) ?_
  refine lv_sipush (v := (128 : Int32)) C.1 C.2.1 dX11_init_787 (by decide) ?_
  refine i_newa C hw (ty := .int) (wc w_214) rfl (fun _ _ h => h) 0 rfl (N' := 128) (a0 := (128, .inl (fun _ => 0))) (fun cA => by first | rfl | (rw [vp_cell_i]; rfl) | (rw [vp_cell_l]; rfl)) (by decide) (by decide) (by decide) (c1 := 14) (s1 := 4724) rfl rfl (Nat.le_of_ble_eq_true rfl) (Nat.le_of_ble_eq_true rfl) dX11_init_790 (fun q790 H hw => ?_)
  refine i_putF (ci := 11) C hin hw (inC inW11) tyX11 tyX11_ok nmX11 0 rfl rfl 28 (by decide) (wc w_1490) rfl rfl (ty := .array .int) (by decide +kernel) rfl rfl (Nat.le_of_ble_eq_true rfl) (ws' := (a, .inr (11, [.ref q8, .int 0, .int 0, .ref q16, .int 0, .int (-1 : Int32), .int 0, .int 0, .int 0, .int 0, .int 0, .int 0, .int 0, .ref q695, .ref q703, .ref q712, .ref q721, .ref q730, .ref q739, .ref q748, .int 0, .int 0, .int 0, .int 0, .ref q756, .ref q764, .ref q772, .ref q781, .ref q790, .null, .null, .null, .null, .int 0, .int 0, .int 0, .int 0, .int 0, .int 0, .int 0, .int 0, .int 0, .int 0, .int 0, .int 0, .int 0, .null, .null, .null, .int 0, .int 0, .int 0, .int 0, .int 0, .null, .null, .null, .null, .null, .null, .null, .null, .null, .null, .null, .null, .int 0, .int 0, .int 0, .int 0, .null, .null, .int 0, .int 0])) :: (q790, .inl (cI, 128, .inl (fun _ => 0))) :: (q781, .inl (cI, 128, .inl (fun _ => 0))) :: (q772, .inl (cI, 48, .inl (fun _ => 0))) :: (q764, .inl (cI, 48, .inl (fun _ => 0))) :: (q756, .inl (cI, 40, .inl (fun _ => 0))) :: (q748, .inl (cI, 720, .inl (fun _ => 0))) :: (q739, .inl (cI, 720, .inl (fun _ => 0))) :: (q730, .inl (cZ, 720, .inl (fun _ => 0))) :: (q721, .inl (cI, 720, .inl (fun _ => 0))) :: (q712, .inl (cI, 720, .inl (fun _ => 0))) :: (q703, .inl (cI, 60, .inl (fun _ => 0))) :: (q695, .inl (cI, 60, .inl (fun _ => 0))) :: (q16, .inl (cI, 112, .inl (wfl 112))) :: (q8, .inl (cI, 500, .inl (fun _ => 0))) :: []) rfl dX11_init_792 (fun H locs hw => ?_)
  refine lv_aload_n C.1 C.2.1 dX11_init_795 rfl (lv_at hl 0 rfl) ?_
  refine lv_sipush (v := (128 : Int32)) C.1 C.2.1 dX11_init_796 (by decide) ?_
  refine i_newa C hw (ty := .int) (wc w_214) rfl (fun _ _ h => h) 0 rfl (N' := 128) (a0 := (128, .inl (fun _ => 0))) (fun cA => by first | rfl | (rw [vp_cell_i]; rfl) | (rw [vp_cell_l]; rfl)) (by decide) (by decide) (by decide) (c1 := 15) (s1 := 4852) rfl rfl (Nat.le_of_ble_eq_true rfl) (Nat.le_of_ble_eq_true rfl) dX11_init_799 (fun q799 H hw => ?_)
  refine i_putF (ci := 11) C hin hw (inC inW11) tyX11 tyX11_ok nmX11 0 rfl rfl 29 (by decide) (wc w_1491) rfl rfl (ty := .array .int) (by decide +kernel) rfl rfl (Nat.le_of_ble_eq_true rfl) (ws' := (a, .inr (11, [.ref q8, .int 0, .int 0, .ref q16, .int 0, .int (-1 : Int32), .int 0, .int 0, .int 0, .int 0, .int 0, .int 0, .int 0, .ref q695, .ref q703, .ref q712, .ref q721, .ref q730, .ref q739, .ref q748, .int 0, .int 0, .int 0, .int 0, .ref q756, .ref q764, .ref q772, .ref q781, .ref q790, .ref q799, .null, .null, .null, .int 0, .int 0, .int 0, .int 0, .int 0, .int 0, .int 0, .int 0, .int 0, .int 0, .int 0, .int 0, .int 0, .null, .null, .null, .int 0, .int 0, .int 0, .int 0, .int 0, .null, .null, .null, .null, .null, .null, .null, .null, .null, .null, .null, .null, .int 0, .int 0, .int 0, .int 0, .null, .null, .int 0, .int 0])) :: (q799, .inl (cI, 128, .inl (fun _ => 0))) :: (q790, .inl (cI, 128, .inl (fun _ => 0))) :: (q781, .inl (cI, 128, .inl (fun _ => 0))) :: (q772, .inl (cI, 48, .inl (fun _ => 0))) :: (q764, .inl (cI, 48, .inl (fun _ => 0))) :: (q756, .inl (cI, 40, .inl (fun _ => 0))) :: (q748, .inl (cI, 720, .inl (fun _ => 0))) :: (q739, .inl (cI, 720, .inl (fun _ => 0))) :: (q730, .inl (cZ, 720, .inl (fun _ => 0))) :: (q721, .inl (cI, 720, .inl (fun _ => 0))) :: (q712, .inl (cI, 720, .inl (fun _ => 0))) :: (q703, .inl (cI, 60, .inl (fun _ => 0))) :: (q695, .inl (cI, 60, .inl (fun _ => 0))) :: (q16, .inl (cI, 112, .inl (wfl 112))) :: (q8, .inl (cI, 500, .inl (fun _ => 0))) :: []) rfl dX11_init_801 (fun H locs hw => ?_)
  refine lv_aload_n C.1 C.2.1 dX11_init_804 rfl (lv_at hl 0 rfl) ?_
  refine lv_sipush (v := (128 : Int32)) C.1 C.2.1 dX11_init_805 (by decide) ?_
  refine i_newa C hw (ty := .int) (wc w_214) rfl (fun _ _ h => h) 0 rfl (N' := 128) (a0 := (128, .inl (fun _ => 0))) (fun cA => by first | rfl | (rw [vp_cell_i]; rfl) | (rw [vp_cell_l]; rfl)) (by decide) (by decide) (by decide) (c1 := 16) (s1 := 4980) rfl rfl (Nat.le_of_ble_eq_true rfl) (Nat.le_of_ble_eq_true rfl) dX11_init_808 (fun q808 H hw => ?_)
  refine i_putF (ci := 11) C hin hw (inC inW11) tyX11 tyX11_ok nmX11 0 rfl rfl 30 (by decide) (wc w_1492) rfl rfl (ty := .array .int) (by decide +kernel) rfl rfl (Nat.le_of_ble_eq_true rfl) (ws' := (a, .inr (11, [.ref q8, .int 0, .int 0, .ref q16, .int 0, .int (-1 : Int32), .int 0, .int 0, .int 0, .int 0, .int 0, .int 0, .int 0, .ref q695, .ref q703, .ref q712, .ref q721, .ref q730, .ref q739, .ref q748, .int 0, .int 0, .int 0, .int 0, .ref q756, .ref q764, .ref q772, .ref q781, .ref q790, .ref q799, .ref q808, .null, .null, .int 0, .int 0, .int 0, .int 0, .int 0, .int 0, .int 0, .int 0, .int 0, .int 0, .int 0, .int 0, .int 0, .null, .null, .null, .int 0, .int 0, .int 0, .int 0, .int 0, .null, .null, .null, .null, .null, .null, .null, .null, .null, .null, .null, .null, .int 0, .int 0, .int 0, .int 0, .null, .null, .int 0, .int 0])) :: (q808, .inl (cI, 128, .inl (fun _ => 0))) :: (q799, .inl (cI, 128, .inl (fun _ => 0))) :: (q790, .inl (cI, 128, .inl (fun _ => 0))) :: (q781, .inl (cI, 128, .inl (fun _ => 0))) :: (q772, .inl (cI, 48, .inl (fun _ => 0))) :: (q764, .inl (cI, 48, .inl (fun _ => 0))) :: (q756, .inl (cI, 40, .inl (fun _ => 0))) :: (q748, .inl (cI, 720, .inl (fun _ => 0))) :: (q739, .inl (cI, 720, .inl (fun _ => 0))) :: (q730, .inl (cZ, 720, .inl (fun _ => 0))) :: (q721, .inl (cI, 720, .inl (fun _ => 0))) :: (q712, .inl (cI, 720, .inl (fun _ => 0))) :: (q703, .inl (cI, 60, .inl (fun _ => 0))) :: (q695, .inl (cI, 60, .inl (fun _ => 0))) :: (q16, .inl (cI, 112, .inl (wfl 112))) :: (q8, .inl (cI, 500, .inl (fun _ => 0))) :: []) rfl dX11_init_810 (fun H locs hw => ?_)
  refine lv_aload_n C.1 C.2.1 dX11_init_813 rfl (lv_at hl 0 rfl) ?_
  refine lv_bipush (v := (80 : Int32)) C.1 C.2.1 dX11_init_814 (by decide) ?_
  refine i_newa C hw (ty := .int) (wc w_214) rfl (fun _ _ h => h) 0 rfl (N' := 80) (a0 := (80, .inl (fun _ => 0))) (fun cA => by first | rfl | (rw [vp_cell_i]; rfl) | (rw [vp_cell_l]; rfl)) (by decide) (by decide) (by decide) (c1 := 17) (s1 := 5060) rfl rfl (Nat.le_of_ble_eq_true rfl) (Nat.le_of_ble_eq_true rfl) dX11_init_816 (fun q816 H hw => ?_)
  refine i_putF (ci := 11) C hin hw (inC inW11) tyX11 tyX11_ok nmX11 0 rfl rfl 31 (by decide) (wc w_1493) rfl rfl (ty := .array .int) (by decide +kernel) rfl rfl (Nat.le_of_ble_eq_true rfl) (ws' := (a, .inr (11, [.ref q8, .int 0, .int 0, .ref q16, .int 0, .int (-1 : Int32), .int 0, .int 0, .int 0, .int 0, .int 0, .int 0, .int 0, .ref q695, .ref q703, .ref q712, .ref q721, .ref q730, .ref q739, .ref q748, .int 0, .int 0, .int 0, .int 0, .ref q756, .ref q764, .ref q772, .ref q781, .ref q790, .ref q799, .ref q808, .ref q816, .null, .int 0, .int 0, .int 0, .int 0, .int 0, .int 0, .int 0, .int 0, .int 0, .int 0, .int 0, .int 0, .int 0, .null, .null, .null, .int 0, .int 0, .int 0, .int 0, .int 0, .null, .null, .null, .null, .null, .null, .null, .null, .null, .null, .null, .null, .int 0, .int 0, .int 0, .int 0, .null, .null, .int 0, .int 0])) :: (q816, .inl (cI, 80, .inl (fun _ => 0))) :: (q808, .inl (cI, 128, .inl (fun _ => 0))) :: (q799, .inl (cI, 128, .inl (fun _ => 0))) :: (q790, .inl (cI, 128, .inl (fun _ => 0))) :: (q781, .inl (cI, 128, .inl (fun _ => 0))) :: (q772, .inl (cI, 48, .inl (fun _ => 0))) :: (q764, .inl (cI, 48, .inl (fun _ => 0))) :: (q756, .inl (cI, 40, .inl (fun _ => 0))) :: (q748, .inl (cI, 720, .inl (fun _ => 0))) :: (q739, .inl (cI, 720, .inl (fun _ => 0))) :: (q730, .inl (cZ, 720, .inl (fun _ => 0))) :: (q721, .inl (cI, 720, .inl (fun _ => 0))) :: (q712, .inl (cI, 720, .inl (fun _ => 0))) :: (q703, .inl (cI, 60, .inl (fun _ => 0))) :: (q695, .inl (cI, 60, .inl (fun _ => 0))) :: (q16, .inl (cI, 112, .inl (wfl 112))) :: (q8, .inl (cI, 500, .inl (fun _ => 0))) :: []) rfl dX11_init_818 (fun H locs hw => ?_)
  refine lv_aload_n C.1 C.2.1 dX11_init_821 rfl (lv_at hl 0 rfl) ?_
  refine lv_bipush (v := (80 : Int32)) C.1 C.2.1 dX11_init_822 (by decide) ?_
  refine i_newa C hw (ty := .int) (wc w_214) rfl (fun _ _ h => h) 0 rfl (N' := 80) (a0 := (80, .inl (fun _ => 0))) (fun cA => by first | rfl | (rw [vp_cell_i]; rfl) | (rw [vp_cell_l]; rfl)) (by decide) (by decide) (by decide) (c1 := 18) (s1 := 5140) rfl rfl (Nat.le_of_ble_eq_true rfl) (Nat.le_of_ble_eq_true rfl) dX11_init_824 (fun q824 H hw => ?_)
  refine i_putF (ci := 11) C hin hw (inC inW11) tyX11 tyX11_ok nmX11 0 rfl rfl 32 (by decide) (wc w_1494) rfl rfl (ty := .array .int) (by decide +kernel) rfl rfl (Nat.le_of_ble_eq_true rfl) (ws' := (a, .inr (11, [.ref q8, .int 0, .int 0, .ref q16, .int 0, .int (-1 : Int32), .int 0, .int 0, .int 0, .int 0, .int 0, .int 0, .int 0, .ref q695, .ref q703, .ref q712, .ref q721, .ref q730, .ref q739, .ref q748, .int 0, .int 0, .int 0, .int 0, .ref q756, .ref q764, .ref q772, .ref q781, .ref q790, .ref q799, .ref q808, .ref q816, .ref q824, .int 0, .int 0, .int 0, .int 0, .int 0, .int 0, .int 0, .int 0, .int 0, .int 0, .int 0, .int 0, .int 0, .null, .null, .null, .int 0, .int 0, .int 0, .int 0, .int 0, .null, .null, .null, .null, .null, .null, .null, .null, .null, .null, .null, .null, .int 0, .int 0, .int 0, .int 0, .null, .null, .int 0, .int 0])) :: (q824, .inl (cI, 80, .inl (fun _ => 0))) :: (q816, .inl (cI, 80, .inl (fun _ => 0))) :: (q808, .inl (cI, 128, .inl (fun _ => 0))) :: (q799, .inl (cI, 128, .inl (fun _ => 0))) :: (q790, .inl (cI, 128, .inl (fun _ => 0))) :: (q781, .inl (cI, 128, .inl (fun _ => 0))) :: (q772, .inl (cI, 48, .inl (fun _ => 0))) :: (q764, .inl (cI, 48, .inl (fun _ => 0))) :: (q756, .inl (cI, 40, .inl (fun _ => 0))) :: (q748, .inl (cI, 720, .inl (fun _ => 0))) :: (q739, .inl (cI, 720, .inl (fun _ => 0))) :: (q730, .inl (cZ, 720, .inl (fun _ => 0))) :: (q721, .inl (cI, 720, .inl (fun _ => 0))) :: (q712, .inl (cI, 720, .inl (fun _ => 0))) :: (q703, .inl (cI, 60, .inl (fun _ => 0))) :: (q695, .inl (cI, 60, .inl (fun _ => 0))) :: (q16, .inl (cI, 112, .inl (wfl 112))) :: (q8, .inl (cI, 500, .inl (fun _ => 0))) :: []) rfl dX11_init_826 (fun H locs hw => ?_)
  refine lv_aload_n C.1 C.2.1 dX11_init_829 rfl (lv_at hl 0 rfl) ?_
  refine lv_bipush (v := (36 : Int32)) C.1 C.2.1 dX11_init_830 (by decide) ?_
  refine i_newa C hw (ty := .int) (wc w_214) rfl (fun _ _ h => h) 0 rfl (N' := 36) (a0 := (36, .inl (fun _ => 0))) (fun cA => by first | rfl | (rw [vp_cell_i]; rfl) | (rw [vp_cell_l]; rfl)) (by decide) (by decide) (by decide) (c1 := 19) (s1 := 5176) rfl rfl (Nat.le_of_ble_eq_true rfl) (Nat.le_of_ble_eq_true rfl) dX11_init_832 (fun q832 H hw => ?_)
  refine i_putF (ci := 11) C hin hw (inC inW11) tyX11 tyX11_ok nmX11 0 rfl rfl 46 (by decide) (wc w_1508) rfl rfl (ty := .array .int) (by decide +kernel) rfl rfl (Nat.le_of_ble_eq_true rfl) (ws' := (a, .inr (11, [.ref q8, .int 0, .int 0, .ref q16, .int 0, .int (-1 : Int32), .int 0, .int 0, .int 0, .int 0, .int 0, .int 0, .int 0, .ref q695, .ref q703, .ref q712, .ref q721, .ref q730, .ref q739, .ref q748, .int 0, .int 0, .int 0, .int 0, .ref q756, .ref q764, .ref q772, .ref q781, .ref q790, .ref q799, .ref q808, .ref q816, .ref q824, .int 0, .int 0, .int 0, .int 0, .int 0, .int 0, .int 0, .int 0, .int 0, .int 0, .int 0, .int 0, .int 0, .ref q832, .null, .null, .int 0, .int 0, .int 0, .int 0, .int 0, .null, .null, .null, .null, .null, .null, .null, .null, .null, .null, .null, .null, .int 0, .int 0, .int 0, .int 0, .null, .null, .int 0, .int 0])) :: (q832, .inl (cI, 36, .inl (fun _ => 0))) :: (q824, .inl (cI, 80, .inl (fun _ => 0))) :: (q816, .inl (cI, 80, .inl (fun _ => 0))) :: (q808, .inl (cI, 128, .inl (fun _ => 0))) :: (q799, .inl (cI, 128, .inl (fun _ => 0))) :: (q790, .inl (cI, 128, .inl (fun _ => 0))) :: (q781, .inl (cI, 128, .inl (fun _ => 0))) :: (q772, .inl (cI, 48, .inl (fun _ => 0))) :: (q764, .inl (cI, 48, .inl (fun _ => 0))) :: (q756, .inl (cI, 40, .inl (fun _ => 0))) :: (q748, .inl (cI, 720, .inl (fun _ => 0))) :: (q739, .inl (cI, 720, .inl (fun _ => 0))) :: (q730, .inl (cZ, 720, .inl (fun _ => 0))) :: (q721, .inl (cI, 720, .inl (fun _ => 0))) :: (q712, .inl (cI, 720, .inl (fun _ => 0))) :: (q703, .inl (cI, 60, .inl (fun _ => 0))) :: (q695, .inl (cI, 60, .inl (fun _ => 0))) :: (q16, .inl (cI, 112, .inl (wfl 112))) :: (q8, .inl (cI, 500, .inl (fun _ => 0))) :: []) rfl dX11_init_834 (fun H locs hw => ?_)
  refine lv_aload_n C.1 C.2.1 dX11_init_837 rfl (lv_at hl 0 rfl) ?_
  refine lv_bipush (v := (36 : Int32)) C.1 C.2.1 dX11_init_838 (by decide) ?_
  refine i_newa C hw (ty := .int) (wc w_214) rfl (fun _ _ h => h) 0 rfl (N' := 36) (a0 := (36, .inl (fun _ => 0))) (fun cA => by first | rfl | (rw [vp_cell_i]; rfl) | (rw [vp_cell_l]; rfl)) (by decide) (by decide) (by decide) (c1 := 20) (s1 := 5212) rfl rfl (Nat.le_of_ble_eq_true rfl) (Nat.le_of_ble_eq_true rfl) dX11_init_840 (fun q840 H hw => ?_)
  refine i_putF (ci := 11) C hin hw (inC inW11) tyX11 tyX11_ok nmX11 0 rfl rfl 47 (by decide) (wc w_1509) rfl rfl (ty := .array .int) (by decide +kernel) rfl rfl (Nat.le_of_ble_eq_true rfl) (ws' := (a, .inr (11, [.ref q8, .int 0, .int 0, .ref q16, .int 0, .int (-1 : Int32), .int 0, .int 0, .int 0, .int 0, .int 0, .int 0, .int 0, .ref q695, .ref q703, .ref q712, .ref q721, .ref q730, .ref q739, .ref q748, .int 0, .int 0, .int 0, .int 0, .ref q756, .ref q764, .ref q772, .ref q781, .ref q790, .ref q799, .ref q808, .ref q816, .ref q824, .int 0, .int 0, .int 0, .int 0, .int 0, .int 0, .int 0, .int 0, .int 0, .int 0, .int 0, .int 0, .int 0, .ref q832, .ref q840, .null, .int 0, .int 0, .int 0, .int 0, .int 0, .null, .null, .null, .null, .null, .null, .null, .null, .null, .null, .null, .null, .int 0, .int 0, .int 0, .int 0, .null, .null, .int 0, .int 0])) :: (q840, .inl (cI, 36, .inl (fun _ => 0))) :: (q832, .inl (cI, 36, .inl (fun _ => 0))) :: (q824, .inl (cI, 80, .inl (fun _ => 0))) :: (q816, .inl (cI, 80, .inl (fun _ => 0))) :: (q808, .inl (cI, 128, .inl (fun _ => 0))) :: (q799, .inl (cI, 128, .inl (fun _ => 0))) :: (q790, .inl (cI, 128, .inl (fun _ => 0))) :: (q781, .inl (cI, 128, .inl (fun _ => 0))) :: (q772, .inl (cI, 48, .inl (fun _ => 0))) :: (q764, .inl (cI, 48, .inl (fun _ => 0))) :: (q756, .inl (cI, 40, .inl (fun _ => 0))) :: (q748, .inl (cI, 720, .inl (fun _ => 0))) :: (q739, .inl (cI, 720, .inl (fun _ => 0))) :: (q730, .inl (cZ, 720, .inl (fun _ => 0))) :: (q721, .inl (cI, 720, .inl (fun _ => 0))) :: (q712, .inl (cI, 720, .inl (fun _ => 0))) :: (q703, .inl (cI, 60, .inl (fun _ => 0))) :: (q695, .inl (cI, 60, .inl (fun _ => 0))) :: (q16, .inl (cI, 112, .inl (wfl 112))) :: (q8, .inl (cI, 500, .inl (fun _ => 0))) :: []) rfl dX11_init_842 (fun H locs hw => ?_)
  refine lv_aload_n C.1 C.2.1 dX11_init_845 rfl (lv_at hl 0 rfl) ?_
  refine lv_bipush (v := (36 : Int32)) C.1 C.2.1 dX11_init_846 (by decide) ?_
  refine i_newa C hw (ty := .int) (wc w_214) rfl (fun _ _ h => h) 0 rfl (N' := 36) (a0 := (36, .inl (fun _ => 0))) (fun cA => by first | rfl | (rw [vp_cell_i]; rfl) | (rw [vp_cell_l]; rfl)) (by decide) (by decide) (by decide) (c1 := 21) (s1 := 5248) rfl rfl (Nat.le_of_ble_eq_true rfl) (Nat.le_of_ble_eq_true rfl) dX11_init_848 (fun q848 H hw => ?_)
  refine i_putF (ci := 11) C hin hw (inC inW11) tyX11 tyX11_ok nmX11 0 rfl rfl 48 (by decide) (wc w_1510) rfl rfl (ty := .array .int) (by decide +kernel) rfl rfl (Nat.le_of_ble_eq_true rfl) (ws' := (a, .inr (11, [.ref q8, .int 0, .int 0, .ref q16, .int 0, .int (-1 : Int32), .int 0, .int 0, .int 0, .int 0, .int 0, .int 0, .int 0, .ref q695, .ref q703, .ref q712, .ref q721, .ref q730, .ref q739, .ref q748, .int 0, .int 0, .int 0, .int 0, .ref q756, .ref q764, .ref q772, .ref q781, .ref q790, .ref q799, .ref q808, .ref q816, .ref q824, .int 0, .int 0, .int 0, .int 0, .int 0, .int 0, .int 0, .int 0, .int 0, .int 0, .int 0, .int 0, .int 0, .ref q832, .ref q840, .ref q848, .int 0, .int 0, .int 0, .int 0, .int 0, .null, .null, .null, .null, .null, .null, .null, .null, .null, .null, .null, .null, .int 0, .int 0, .int 0, .int 0, .null, .null, .int 0, .int 0])) :: (q848, .inl (cI, 36, .inl (fun _ => 0))) :: (q840, .inl (cI, 36, .inl (fun _ => 0))) :: (q832, .inl (cI, 36, .inl (fun _ => 0))) :: (q824, .inl (cI, 80, .inl (fun _ => 0))) :: (q816, .inl (cI, 80, .inl (fun _ => 0))) :: (q808, .inl (cI, 128, .inl (fun _ => 0))) :: (q799, .inl (cI, 128, .inl (fun _ => 0))) :: (q790, .inl (cI, 128, .inl (fun _ => 0))) :: (q781, .inl (cI, 128, .inl (fun _ => 0))) :: (q772, .inl (cI, 48, .inl (fun _ => 0))) :: (q764, .inl (cI, 48, .inl (fun _ => 0))) :: (q756, .inl (cI, 40, .inl (fun _ => 0))) :: (q748, .inl (cI, 720, .inl (fun _ => 0))) :: (q739, .inl (cI, 720, .inl (fun _ => 0))) :: (q730, .inl (cZ, 720, .inl (fun _ => 0))) :: (q721, .inl (cI, 720, .inl (fun _ => 0))) :: (q712, .inl (cI, 720, .inl (fun _ => 0))) :: (q703, .inl (cI, 60, .inl (fun _ => 0))) :: (q695, .inl (cI, 60, .inl (fun _ => 0))) :: (q16, .inl (cI, 112, .inl (wfl 112))) :: (q8, .inl (cI, 500, .inl (fun _ => 0))) :: []) rfl dX11_init_850 (fun H locs hw => ?_)
  refine lv_aload_n C.1 C.2.1 dX11_init_853 rfl (lv_at hl 0 rfl) ?_
  refine lv_iconst (v := (-1 : Int32)) C.1 C.2.1 dX11_init_854 (by decide) ?_
  refine wd_put (ci := 11) C hw (inC inW11) tyX11 tyX11_ok nmX11 0 rfl rfl 51 (by decide) (wc w_1513) rfl (ty := .int) (v := .int (-1 : Int32)) (by decide +kernel) rfl rfl (Nat.le_of_ble_eq_true rfl) (ws' := (a, .inr (11, [.ref q8, .int 0, .int 0, .ref q16, .int 0, .int (-1 : Int32), .int 0, .int 0, .int 0, .int 0, .int 0, .int 0, .int 0, .ref q695, .ref q703, .ref q712, .ref q721, .ref q730, .ref q739, .ref q748, .int 0, .int 0, .int 0, .int 0, .ref q756, .ref q764, .ref q772, .ref q781, .ref q790, .ref q799, .ref q808, .ref q816, .ref q824, .int 0, .int 0, .int 0, .int 0, .int 0, .int 0, .int 0, .int 0, .int 0, .int 0, .int 0, .int 0, .int 0, .ref q832, .ref q840, .ref q848, .int 0, .int 0, .int (-1 : Int32), .int 0, .int 0, .null, .null, .null, .null, .null, .null, .null, .null, .null, .null, .null, .null, .int 0, .int 0, .int 0, .int 0, .null, .null, .int 0, .int 0])) :: (q848, .inl (cI, 36, .inl (fun _ => 0))) :: (q840, .inl (cI, 36, .inl (fun _ => 0))) :: (q832, .inl (cI, 36, .inl (fun _ => 0))) :: (q824, .inl (cI, 80, .inl (fun _ => 0))) :: (q816, .inl (cI, 80, .inl (fun _ => 0))) :: (q808, .inl (cI, 128, .inl (fun _ => 0))) :: (q799, .inl (cI, 128, .inl (fun _ => 0))) :: (q790, .inl (cI, 128, .inl (fun _ => 0))) :: (q781, .inl (cI, 128, .inl (fun _ => 0))) :: (q772, .inl (cI, 48, .inl (fun _ => 0))) :: (q764, .inl (cI, 48, .inl (fun _ => 0))) :: (q756, .inl (cI, 40, .inl (fun _ => 0))) :: (q748, .inl (cI, 720, .inl (fun _ => 0))) :: (q739, .inl (cI, 720, .inl (fun _ => 0))) :: (q730, .inl (cZ, 720, .inl (fun _ => 0))) :: (q721, .inl (cI, 720, .inl (fun _ => 0))) :: (q712, .inl (cI, 720, .inl (fun _ => 0))) :: (q703, .inl (cI, 60, .inl (fun _ => 0))) :: (q695, .inl (cI, 60, .inl (fun _ => 0))) :: (q16, .inl (cI, 112, .inl (wfl 112))) :: (q8, .inl (cI, 500, .inl (fun _ => 0))) :: []) rfl dX11_init_855 (fun H locs hw => ?_)
  refine lv_aload_n C.1 C.2.1 dX11_init_858 rfl (lv_at hl 0 rfl) ?_
  refine lv_iconst (v := (-1 : Int32)) C.1 C.2.1 dX11_init_859 (by decide) ?_
  refine wd_put (ci := 11) C hw (inC inW11) tyX11 tyX11_ok nmX11 0 rfl rfl 52 (by decide) (wc w_1514) rfl (ty := .int) (v := .int (-1 : Int32)) (by decide +kernel) rfl rfl (Nat.le_of_ble_eq_true rfl) (ws' := (a, .inr (11, [.ref q8, .int 0, .int 0, .ref q16, .int 0, .int (-1 : Int32), .int 0, .int 0, .int 0, .int 0, .int 0, .int 0, .int 0, .ref q695, .ref q703, .ref q712, .ref q721, .ref q730, .ref q739, .ref q748, .int 0, .int 0, .int 0, .int 0, .ref q756, .ref q764, .ref q772, .ref q781, .ref q790, .ref q799, .ref q808, .ref q816, .ref q824, .int 0, .int 0, .int 0, .int 0, .int 0, .int 0, .int 0, .int 0, .int 0, .int 0, .int 0, .int 0, .int 0, .ref q832, .ref q840, .ref q848, .int 0, .int 0, .int (-1 : Int32), .int (-1 : Int32), .int 0, .null, .null, .null, .null, .null, .null, .null, .null, .null, .null, .null, .null, .int 0, .int 0, .int 0, .int 0, .null, .null, .int 0, .int 0])) :: (q848, .inl (cI, 36, .inl (fun _ => 0))) :: (q840, .inl (cI, 36, .inl (fun _ => 0))) :: (q832, .inl (cI, 36, .inl (fun _ => 0))) :: (q824, .inl (cI, 80, .inl (fun _ => 0))) :: (q816, .inl (cI, 80, .inl (fun _ => 0))) :: (q808, .inl (cI, 128, .inl (fun _ => 0))) :: (q799, .inl (cI, 128, .inl (fun _ => 0))) :: (q790, .inl (cI, 128, .inl (fun _ => 0))) :: (q781, .inl (cI, 128, .inl (fun _ => 0))) :: (q772, .inl (cI, 48, .inl (fun _ => 0))) :: (q764, .inl (cI, 48, .inl (fun _ => 0))) :: (q756, .inl (cI, 40, .inl (fun _ => 0))) :: (q748, .inl (cI, 720, .inl (fun _ => 0))) :: (q739, .inl (cI, 720, .inl (fun _ => 0))) :: (q730, .inl (cZ, 720, .inl (fun _ => 0))) :: (q721, .inl (cI, 720, .inl (fun _ => 0))) :: (q712, .inl (cI, 720, .inl (fun _ => 0))) :: (q703, .inl (cI, 60, .inl (fun _ => 0))) :: (q695, .inl (cI, 60, .inl (fun _ => 0))) :: (q16, .inl (cI, 112, .inl (wfl 112))) :: (q8, .inl (cI, 500, .inl (fun _ => 0))) :: []) rfl dX11_init_860 (fun H locs hw => ?_)
  refine lv_aload_n C.1 C.2.1 dX11_init_863 rfl (lv_at hl 0 rfl) ?_
  refine lv_bipush (v := (36 : Int32)) C.1 C.2.1 dX11_init_864 (by decide) ?_
  refine i_newa C hw (ty := .int) (wc w_214) rfl (fun _ _ h => h) 0 rfl (N' := 36) (a0 := (36, .inl (fun _ => 0))) (fun cA => by first | rfl | (rw [vp_cell_i]; rfl) | (rw [vp_cell_l]; rfl)) (by decide) (by decide) (by decide) (c1 := 22) (s1 := 5284) rfl rfl (Nat.le_of_ble_eq_true rfl) (Nat.le_of_ble_eq_true rfl) dX11_init_866 (fun q866 H hw => ?_)
  refine i_putF (ci := 11) C hin hw (inC inW11) tyX11 tyX11_ok nmX11 0 rfl rfl 54 (by decide) (wc w_1516) rfl rfl (ty := .array .int) (by decide +kernel) rfl rfl (Nat.le_of_ble_eq_true rfl) (ws' := (a, .inr (11, [.ref q8, .int 0, .int 0, .ref q16, .int 0, .int (-1 : Int32), .int 0, .int 0, .int 0, .int 0, .int 0, .int 0, .int 0, .ref q695, .ref q703, .ref q712, .ref q721, .ref q730, .ref q739, .ref q748, .int 0, .int 0, .int 0, .int 0, .ref q756, .ref q764, .ref q772, .ref q781, .ref q790, .ref q799, .ref q808, .ref q816, .ref q824, .int 0, .int 0, .int 0, .int 0, .int 0, .int 0, .int 0, .int 0, .int 0, .int 0, .int 0, .int 0, .int 0, .ref q832, .ref q840, .ref q848, .int 0, .int 0, .int (-1 : Int32), .int (-1 : Int32), .int 0, .ref q866, .null, .null, .null, .null, .null, .null, .null, .null, .null, .null, .null, .int 0, .int 0, .int 0, .int 0, .null, .null, .int 0, .int 0])) :: (q866, .inl (cI, 36, .inl (fun _ => 0))) :: (q848, .inl (cI, 36, .inl (fun _ => 0))) :: (q840, .inl (cI, 36, .inl (fun _ => 0))) :: (q832, .inl (cI, 36, .inl (fun _ => 0))) :: (q824, .inl (cI, 80, .inl (fun _ => 0))) :: (q816, .inl (cI, 80, .inl (fun _ => 0))) :: (q808, .inl (cI, 128, .inl (fun _ => 0))) :: (q799, .inl (cI, 128, .inl (fun _ => 0))) :: (q790, .inl (cI, 128, .inl (fun _ => 0))) :: (q781, .inl (cI, 128, .inl (fun _ => 0))) :: (q772, .inl (cI, 48, .inl (fun _ => 0))) :: (q764, .inl (cI, 48, .inl (fun _ => 0))) :: (q756, .inl (cI, 40, .inl (fun _ => 0))) :: (q748, .inl (cI, 720, .inl (fun _ => 0))) :: (q739, .inl (cI, 720, .inl (fun _ => 0))) :: (q730, .inl (cZ, 720, .inl (fun _ => 0))) :: (q721, .inl (cI, 720, .inl (fun _ => 0))) :: (q712, .inl (cI, 720, .inl (fun _ => 0))) :: (q703, .inl (cI, 60, .inl (fun _ => 0))) :: (q695, .inl (cI, 60, .inl (fun _ => 0))) :: (q16, .inl (cI, 112, .inl (wfl 112))) :: (q8, .inl (cI, 500, .inl (fun _ => 0))) :: []) rfl dX11_init_868 (fun H locs hw => ?_)
  refine lv_aload_n C.1 C.2.1 dX11_init_871 rfl (lv_at hl 0 rfl) ?_
  refine lv_bipush (v := (36 : Int32)) C.1 C.2.1 dX11_init_872 (by decide) ?_
  refine i_newa C hw (ty := .int) (wc w_214) rfl (fun _ _ h => h) 0 rfl (N' := 36) (a0 := (36, .inl (fun _ => 0))) (fun cA => by first | rfl | (rw [vp_cell_i]; rfl) | (rw [vp_cell_l]; rfl)) (by decide) (by decide) (by decide) (c1 := 23) (s1 := 5320) rfl rfl (Nat.le_of_ble_eq_true rfl) (Nat.le_of_ble_eq_true rfl) dX11_init_874 (fun q874 H hw => ?_)
  refine i_putF (ci := 11) C hin hw (inC inW11) tyX11 tyX11_ok nmX11 0 rfl rfl 55 (by decide) (wc w_1517) rfl rfl (ty := .array .int) (by decide +kernel) rfl rfl (Nat.le_of_ble_eq_true rfl) (ws' := (a, .inr (11, [.ref q8, .int 0, .int 0, .ref q16, .int 0, .int (-1 : Int32), .int 0, .int 0, .int 0, .int 0, .int 0, .int 0, .int 0, .ref q695, .ref q703, .ref q712, .ref q721, .ref q730, .ref q739, .ref q748, .int 0, .int 0, .int 0, .int 0, .ref q756, .ref q764, .ref q772, .ref q781, .ref q790, .ref q799, .ref q808, .ref q816, .ref q824, .int 0, .int 0, .int 0, .int 0, .int 0, .int 0, .int 0, .int 0, .int 0, .int 0, .int 0, .int 0, .int 0, .ref q832, .ref q840, .ref q848, .int 0, .int 0, .int (-1 : Int32), .int (-1 : Int32), .int 0, .ref q866, .ref q874, .null, .null, .null, .null, .null, .null, .null, .null, .null, .null, .int 0, .int 0, .int 0, .int 0, .null, .null, .int 0, .int 0])) :: (q874, .inl (cI, 36, .inl (fun _ => 0))) :: (q866, .inl (cI, 36, .inl (fun _ => 0))) :: (q848, .inl (cI, 36, .inl (fun _ => 0))) :: (q840, .inl (cI, 36, .inl (fun _ => 0))) :: (q832, .inl (cI, 36, .inl (fun _ => 0))) :: (q824, .inl (cI, 80, .inl (fun _ => 0))) :: (q816, .inl (cI, 80, .inl (fun _ => 0))) :: (q808, .inl (cI, 128, .inl (fun _ => 0))) :: (q799, .inl (cI, 128, .inl (fun _ => 0))) :: (q790, .inl (cI, 128, .inl (fun _ => 0))) :: (q781, .inl (cI, 128, .inl (fun _ => 0))) :: (q772, .inl (cI, 48, .inl (fun _ => 0))) :: (q764, .inl (cI, 48, .inl (fun _ => 0))) :: (q756, .inl (cI, 40, .inl (fun _ => 0))) :: (q748, .inl (cI, 720, .inl (fun _ => 0))) :: (q739, .inl (cI, 720, .inl (fun _ => 0))) :: (q730, .inl (cZ, 720, .inl (fun _ => 0))) :: (q721, .inl (cI, 720, .inl (fun _ => 0))) :: (q712, .inl (cI, 720, .inl (fun _ => 0))) :: (q703, .inl (cI, 60, .inl (fun _ => 0))) :: (q695, .inl (cI, 60, .inl (fun _ => 0))) :: (q16, .inl (cI, 112, .inl (wfl 112))) :: (q8, .inl (cI, 500, .inl (fun _ => 0))) :: []) rfl dX11_init_876 (fun H locs hw => ?_)
  refine lv_aload_n C.1 C.2.1 dX11_init_879 rfl (lv_at hl 0 rfl) ?_
  refine lv_iconst (v := (4 : Int32)) C.1 C.2.1 dX11_init_880 (by decide) ?_
  refine i_newa C hw (ty := .boolean) (wc w_1685) rfl (fun _ _ h => h) 1 rfl (N' := 4) (a0 := (4, .inl (fun _ => 0))) (fun cA => by first | rfl | (rw [vp_cell_i]; rfl) | (rw [vp_cell_l]; rfl)) (by decide) (by decide) (by decide) (c1 := 24) (s1 := 5324) rfl rfl (Nat.le_of_ble_eq_true rfl) (Nat.le_of_ble_eq_true rfl) dX11_init_881 (fun q881 H hw => ?_)
  refine i_putF (ci := 11) C hin hw (inC inW11) tyX11 tyX11_ok nmX11 0 rfl rfl 56 (by decide) (wc w_1518) rfl rfl (ty := .array .boolean) (by decide +kernel) rfl rfl (Nat.le_of_ble_eq_true rfl) (ws' := (a, .inr (11, [.ref q8, .int 0, .int 0, .ref q16, .int 0, .int (-1 : Int32), .int 0, .int 0, .int 0, .int 0, .int 0, .int 0, .int 0, .ref q695, .ref q703, .ref q712, .ref q721, .ref q730, .ref q739, .ref q748, .int 0, .int 0, .int 0, .int 0, .ref q756, .ref q764, .ref q772, .ref q781, .ref q790, .ref q799, .ref q808, .ref q816, .ref q824, .int 0, .int 0, .int 0, .int 0, .int 0, .int 0, .int 0, .int 0, .int 0, .int 0, .int 0, .int 0, .int 0, .ref q832, .ref q840, .ref q848, .int 0, .int 0, .int (-1 : Int32), .int (-1 : Int32), .int 0, .ref q866, .ref q874, .ref q881, .null, .null, .null, .null, .null, .null, .null, .null, .null, .int 0, .int 0, .int 0, .int 0, .null, .null, .int 0, .int 0])) :: (q881, .inl (cZ, 4, .inl (fun _ => 0))) :: (q874, .inl (cI, 36, .inl (fun _ => 0))) :: (q866, .inl (cI, 36, .inl (fun _ => 0))) :: (q848, .inl (cI, 36, .inl (fun _ => 0))) :: (q840, .inl (cI, 36, .inl (fun _ => 0))) :: (q832, .inl (cI, 36, .inl (fun _ => 0))) :: (q824, .inl (cI, 80, .inl (fun _ => 0))) :: (q816, .inl (cI, 80, .inl (fun _ => 0))) :: (q808, .inl (cI, 128, .inl (fun _ => 0))) :: (q799, .inl (cI, 128, .inl (fun _ => 0))) :: (q790, .inl (cI, 128, .inl (fun _ => 0))) :: (q781, .inl (cI, 128, .inl (fun _ => 0))) :: (q772, .inl (cI, 48, .inl (fun _ => 0))) :: (q764, .inl (cI, 48, .inl (fun _ => 0))) :: (q756, .inl (cI, 40, .inl (fun _ => 0))) :: (q748, .inl (cI, 720, .inl (fun _ => 0))) :: (q739, .inl (cI, 720, .inl (fun _ => 0))) :: (q730, .inl (cZ, 720, .inl (fun _ => 0))) :: (q721, .inl (cI, 720, .inl (fun _ => 0))) :: (q712, .inl (cI, 720, .inl (fun _ => 0))) :: (q703, .inl (cI, 60, .inl (fun _ => 0))) :: (q695, .inl (cI, 60, .inl (fun _ => 0))) :: (q16, .inl (cI, 112, .inl (wfl 112))) :: (q8, .inl (cI, 500, .inl (fun _ => 0))) :: []) rfl dX11_init_883 (fun H locs hw => ?_)
  refine lv_aload_n C.1 C.2.1 dX11_init_886 rfl (lv_at hl 0 rfl) ?_
  refine lv_sipush (v := (840 : Int32)) C.1 C.2.1 dX11_init_887 (by decide) ?_
  refine i_newa C hw (ty := .int) (wc w_214) rfl (fun _ _ h => h) 0 rfl (N' := 840) (a0 := (840, .inl (fun _ => 0))) (fun cA => by first | rfl | (rw [vp_cell_i]; rfl) | (rw [vp_cell_l]; rfl)) (by decide) (by decide) (by decide) (c1 := 25) (s1 := 6164) rfl rfl (Nat.le_of_ble_eq_true rfl) (Nat.le_of_ble_eq_true rfl) dX11_init_890 (fun q890 H hw => ?_)
  refine i_putF (ci := 11) C hin hw (inC inW11) tyX11 tyX11_ok nmX11 0 rfl rfl 57 (by decide) (wc w_1519) rfl rfl (ty := .array .int) (by decide +kernel) rfl rfl (Nat.le_of_ble_eq_true rfl) (ws' := (a, .inr (11, [.ref q8, .int 0, .int 0, .ref q16, .int 0, .int (-1 : Int32), .int 0, .int 0, .int 0, .int 0, .int 0, .int 0, .int 0, .ref q695, .ref q703, .ref q712, .ref q721, .ref q730, .ref q739, .ref q748, .int 0, .int 0, .int 0, .int 0, .ref q756, .ref q764, .ref q772, .ref q781, .ref q790, .ref q799, .ref q808, .ref q816, .ref q824, .int 0, .int 0, .int 0, .int 0, .int 0, .int 0, .int 0, .int 0, .int 0, .int 0, .int 0, .int 0, .int 0, .ref q832, .ref q840, .ref q848, .int 0, .int 0, .int (-1 : Int32), .int (-1 : Int32), .int 0, .ref q866, .ref q874, .ref q881, .ref q890, .null, .null, .null, .null, .null, .null, .null, .null, .int 0, .int 0, .int 0, .int 0, .null, .null, .int 0, .int 0])) :: (q890, .inl (cI, 840, .inl (fun _ => 0))) :: (q881, .inl (cZ, 4, .inl (fun _ => 0))) :: (q874, .inl (cI, 36, .inl (fun _ => 0))) :: (q866, .inl (cI, 36, .inl (fun _ => 0))) :: (q848, .inl (cI, 36, .inl (fun _ => 0))) :: (q840, .inl (cI, 36, .inl (fun _ => 0))) :: (q832, .inl (cI, 36, .inl (fun _ => 0))) :: (q824, .inl (cI, 80, .inl (fun _ => 0))) :: (q816, .inl (cI, 80, .inl (fun _ => 0))) :: (q808, .inl (cI, 128, .inl (fun _ => 0))) :: (q799, .inl (cI, 128, .inl (fun _ => 0))) :: (q790, .inl (cI, 128, .inl (fun _ => 0))) :: (q781, .inl (cI, 128, .inl (fun _ => 0))) :: (q772, .inl (cI, 48, .inl (fun _ => 0))) :: (q764, .inl (cI, 48, .inl (fun _ => 0))) :: (q756, .inl (cI, 40, .inl (fun _ => 0))) :: (q748, .inl (cI, 720, .inl (fun _ => 0))) :: (q739, .inl (cI, 720, .inl (fun _ => 0))) :: (q730, .inl (cZ, 720, .inl (fun _ => 0))) :: (q721, .inl (cI, 720, .inl (fun _ => 0))) :: (q712, .inl (cI, 720, .inl (fun _ => 0))) :: (q703, .inl (cI, 60, .inl (fun _ => 0))) :: (q695, .inl (cI, 60, .inl (fun _ => 0))) :: (q16, .inl (cI, 112, .inl (wfl 112))) :: (q8, .inl (cI, 500, .inl (fun _ => 0))) :: []) rfl dX11_init_892 (fun H locs hw => ?_)
  refine lv_aload_n C.1 C.2.1 dX11_init_895 rfl (lv_at hl 0 rfl) ?_
  refine lv_bipush (v := (16 : Int32)) C.1 C.2.1 dX11_init_896 (by decide) ?_
  refine i_newa C hw (ty := .boolean) (wc w_1685) rfl (fun _ _ h => h) 1 rfl (N' := 16) (a0 := (16, .inl (fun _ => 0))) (fun cA => by first | rfl | (rw [vp_cell_i]; rfl) | (rw [vp_cell_l]; rfl)) (by decide) (by decide) (by decide) (c1 := 26) (s1 := 6180) rfl rfl (Nat.le_of_ble_eq_true rfl) (Nat.le_of_ble_eq_true rfl) dX11_init_898 (fun q898 H hw => ?_)
  refine i_putF (ci := 11) C hin hw (inC inW11) tyX11 tyX11_ok nmX11 0 rfl rfl 58 (by decide) (wc w_1520) rfl rfl (ty := .array .boolean) (by decide +kernel) rfl rfl (Nat.le_of_ble_eq_true rfl) (ws' := (a, .inr (11, [.ref q8, .int 0, .int 0, .ref q16, .int 0, .int (-1 : Int32), .int 0, .int 0, .int 0, .int 0, .int 0, .int 0, .int 0, .ref q695, .ref q703, .ref q712, .ref q721, .ref q730, .ref q739, .ref q748, .int 0, .int 0, .int 0, .int 0, .ref q756, .ref q764, .ref q772, .ref q781, .ref q790, .ref q799, .ref q808, .ref q816, .ref q824, .int 0, .int 0, .int 0, .int 0, .int 0, .int 0, .int 0, .int 0, .int 0, .int 0, .int 0, .int 0, .int 0, .ref q832, .ref q840, .ref q848, .int 0, .int 0, .int (-1 : Int32), .int (-1 : Int32), .int 0, .ref q866, .ref q874, .ref q881, .ref q890, .ref q898, .null, .null, .null, .null, .null, .null, .null, .int 0, .int 0, .int 0, .int 0, .null, .null, .int 0, .int 0])) :: (q898, .inl (cZ, 16, .inl (fun _ => 0))) :: (q890, .inl (cI, 840, .inl (fun _ => 0))) :: (q881, .inl (cZ, 4, .inl (fun _ => 0))) :: (q874, .inl (cI, 36, .inl (fun _ => 0))) :: (q866, .inl (cI, 36, .inl (fun _ => 0))) :: (q848, .inl (cI, 36, .inl (fun _ => 0))) :: (q840, .inl (cI, 36, .inl (fun _ => 0))) :: (q832, .inl (cI, 36, .inl (fun _ => 0))) :: (q824, .inl (cI, 80, .inl (fun _ => 0))) :: (q816, .inl (cI, 80, .inl (fun _ => 0))) :: (q808, .inl (cI, 128, .inl (fun _ => 0))) :: (q799, .inl (cI, 128, .inl (fun _ => 0))) :: (q790, .inl (cI, 128, .inl (fun _ => 0))) :: (q781, .inl (cI, 128, .inl (fun _ => 0))) :: (q772, .inl (cI, 48, .inl (fun _ => 0))) :: (q764, .inl (cI, 48, .inl (fun _ => 0))) :: (q756, .inl (cI, 40, .inl (fun _ => 0))) :: (q748, .inl (cI, 720, .inl (fun _ => 0))) :: (q739, .inl (cI, 720, .inl (fun _ => 0))) :: (q730, .inl (cZ, 720, .inl (fun _ => 0))) :: (q721, .inl (cI, 720, .inl (fun _ => 0))) :: (q712, .inl (cI, 720, .inl (fun _ => 0))) :: (q703, .inl (cI, 60, .inl (fun _ => 0))) :: (q695, .inl (cI, 60, .inl (fun _ => 0))) :: (q16, .inl (cI, 112, .inl (wfl 112))) :: (q8, .inl (cI, 500, .inl (fun _ => 0))) :: []) rfl dX11_init_900 (fun H locs hw => ?_)
  refine lv_aload_n C.1 C.2.1 dX11_init_903 rfl (lv_at hl 0 rfl) ?_
  refine lv_bipush (v := (16 : Int32)) C.1 C.2.1 dX11_init_904 (by decide) ?_
  refine i_newa C hw (ty := .int) (wc w_214) rfl (fun _ _ h => h) 0 rfl (N' := 16) (a0 := (16, .inl (fun _ => 0))) (fun cA => by first | rfl | (rw [vp_cell_i]; rfl) | (rw [vp_cell_l]; rfl)) (by decide) (by decide) (by decide) (c1 := 27) (s1 := 6196) rfl rfl (Nat.le_of_ble_eq_true rfl) (Nat.le_of_ble_eq_true rfl) dX11_init_906 (fun q906 H hw => ?_)
  refine i_putF (ci := 11) C hin hw (inC inW11) tyX11 tyX11_ok nmX11 0 rfl rfl 59 (by decide) (wc w_1521) rfl rfl (ty := .array .int) (by decide +kernel) rfl rfl (Nat.le_of_ble_eq_true rfl) (ws' := (a, .inr (11, [.ref q8, .int 0, .int 0, .ref q16, .int 0, .int (-1 : Int32), .int 0, .int 0, .int 0, .int 0, .int 0, .int 0, .int 0, .ref q695, .ref q703, .ref q712, .ref q721, .ref q730, .ref q739, .ref q748, .int 0, .int 0, .int 0, .int 0, .ref q756, .ref q764, .ref q772, .ref q781, .ref q790, .ref q799, .ref q808, .ref q816, .ref q824, .int 0, .int 0, .int 0, .int 0, .int 0, .int 0, .int 0, .int 0, .int 0, .int 0, .int 0, .int 0, .int 0, .ref q832, .ref q840, .ref q848, .int 0, .int 0, .int (-1 : Int32), .int (-1 : Int32), .int 0, .ref q866, .ref q874, .ref q881, .ref q890, .ref q898, .ref q906, .null, .null, .null, .null, .null, .null, .int 0, .int 0, .int 0, .int 0, .null, .null, .int 0, .int 0])) :: (q906, .inl (cI, 16, .inl (fun _ => 0))) :: (q898, .inl (cZ, 16, .inl (fun _ => 0))) :: (q890, .inl (cI, 840, .inl (fun _ => 0))) :: (q881, .inl (cZ, 4, .inl (fun _ => 0))) :: (q874, .inl (cI, 36, .inl (fun _ => 0))) :: (q866, .inl (cI, 36, .inl (fun _ => 0))) :: (q848, .inl (cI, 36, .inl (fun _ => 0))) :: (q840, .inl (cI, 36, .inl (fun _ => 0))) :: (q832, .inl (cI, 36, .inl (fun _ => 0))) :: (q824, .inl (cI, 80, .inl (fun _ => 0))) :: (q816, .inl (cI, 80, .inl (fun _ => 0))) :: (q808, .inl (cI, 128, .inl (fun _ => 0))) :: (q799, .inl (cI, 128, .inl (fun _ => 0))) :: (q790, .inl (cI, 128, .inl (fun _ => 0))) :: (q781, .inl (cI, 128, .inl (fun _ => 0))) :: (q772, .inl (cI, 48, .inl (fun _ => 0))) :: (q764, .inl (cI, 48, .inl (fun _ => 0))) :: (q756, .inl (cI, 40, .inl (fun _ => 0))) :: (q748, .inl (cI, 720, .inl (fun _ => 0))) :: (q739, .inl (cI, 720, .inl (fun _ => 0))) :: (q730, .inl (cZ, 720, .inl (fun _ => 0))) :: (q721, .inl (cI, 720, .inl (fun _ => 0))) :: (q712, .inl (cI, 720, .inl (fun _ => 0))) :: (q703, .inl (cI, 60, .inl (fun _ => 0))) :: (q695, .inl (cI, 60, .inl (fun _ => 0))) :: (q16, .inl (cI, 112, .inl (wfl 112))) :: (q8, .inl (cI, 500, .inl (fun _ => 0))) :: []) rfl dX11_init_908 (fun H locs hw => ?_)
  refine lv_aload_n C.1 C.2.1 dX11_init_911 rfl (lv_at hl 0 rfl) ?_
  refine lv_bipush (v := (16 : Int32)) C.1 C.2.1 dX11_init_912 (by decide) ?_
  refine i_newa C hw (ty := .int) (wc w_214) rfl (fun _ _ h => h) 0 rfl (N' := 16) (a0 := (16, .inl (fun _ => 0))) (fun cA => by first | rfl | (rw [vp_cell_i]; rfl) | (rw [vp_cell_l]; rfl)) (by decide) (by decide) (by decide) (c1 := 28) (s1 := 6212) rfl rfl (Nat.le_of_ble_eq_true rfl) (Nat.le_of_ble_eq_true rfl) dX11_init_914 (fun q914 H hw => ?_)
  refine i_putF (ci := 11) C hin hw (inC inW11) tyX11 tyX11_ok nmX11 0 rfl rfl 60 (by decide) (wc w_1522) rfl rfl (ty := .array .int) (by decide +kernel) rfl rfl (Nat.le_of_ble_eq_true rfl) (ws' := (a, .inr (11, [.ref q8, .int 0, .int 0, .ref q16, .int 0, .int (-1 : Int32), .int 0, .int 0, .int 0, .int 0, .int 0, .int 0, .int 0, .ref q695, .ref q703, .ref q712, .ref q721, .ref q730, .ref q739, .ref q748, .int 0, .int 0, .int 0, .int 0, .ref q756, .ref q764, .ref q772, .ref q781, .ref q790, .ref q799, .ref q808, .ref q816, .ref q824, .int 0, .int 0, .int 0, .int 0, .int 0, .int 0, .int 0, .int 0, .int 0, .int 0, .int 0, .int 0, .int 0, .ref q832, .ref q840, .ref q848, .int 0, .int 0, .int (-1 : Int32), .int (-1 : Int32), .int 0, .ref q866, .ref q874, .ref q881, .ref q890, .ref q898, .ref q906, .ref q914, .null, .null, .null, .null, .null, .int 0, .int 0, .int 0, .int 0, .null, .null, .int 0, .int 0])) :: (q914, .inl (cI, 16, .inl (fun _ => 0))) :: (q906, .inl (cI, 16, .inl (fun _ => 0))) :: (q898, .inl (cZ, 16, .inl (fun _ => 0))) :: (q890, .inl (cI, 840, .inl (fun _ => 0))) :: (q881, .inl (cZ, 4, .inl (fun _ => 0))) :: (q874, .inl (cI, 36, .inl (fun _ => 0))) :: (q866, .inl (cI, 36, .inl (fun _ => 0))) :: (q848, .inl (cI, 36, .inl (fun _ => 0))) :: (q840, .inl (cI, 36, .inl (fun _ => 0))) :: (q832, .inl (cI, 36, .inl (fun _ => 0))) :: (q824, .inl (cI, 80, .inl (fun _ => 0))) :: (q816, .inl (cI, 80, .inl (fun _ => 0))) :: (q808, .inl (cI, 128, .inl (fun _ => 0))) :: (q799, .inl (cI, 128, .inl (fun _ => 0))) :: (q790, .inl (cI, 128, .inl (fun _ => 0))) :: (q781, .inl (cI, 128, .inl (fun _ => 0))) :: (q772, .inl (cI, 48, .inl (fun _ => 0))) :: (q764, .inl (cI, 48, .inl (fun _ => 0))) :: (q756, .inl (cI, 40, .inl (fun _ => 0))) :: (q748, .inl (cI, 720, .inl (fun _ => 0))) :: (q739, .inl (cI, 720, .inl (fun _ => 0))) :: (q730, .inl (cZ, 720, .inl (fun _ => 0))) :: (q721, .inl (cI, 720, .inl (fun _ => 0))) :: (q712, .inl (cI, 720, .inl (fun _ => 0))) :: (q703, .inl (cI, 60, .inl (fun _ => 0))) :: (q695, .inl (cI, 60, .inl (fun _ => 0))) :: (q16, .inl (cI, 112, .inl (wfl 112))) :: (q8, .inl (cI, 500, .inl (fun _ => 0))) :: []) rfl dX11_init_916 (fun H locs hw => ?_)
  refine lv_aload_n C.1 C.2.1 dX11_init_919 rfl (lv_at hl 0 rfl) ?_
  refine lv_bipush (v := (16 : Int32)) C.1 C.2.1 dX11_init_920 (by decide) ?_
  refine i_newa C hw (ty := .int) (wc w_214) rfl (fun _ _ h => h) 0 rfl (N' := 16) (a0 := (16, .inl (fun _ => 0))) (fun cA => by first | rfl | (rw [vp_cell_i]; rfl) | (rw [vp_cell_l]; rfl)) (by decide) (by decide) (by decide) (c1 := 29) (s1 := 6228) rfl rfl (Nat.le_of_ble_eq_true rfl) (Nat.le_of_ble_eq_true rfl) dX11_init_922 (fun q922 H hw => ?_)
  refine i_putF (ci := 11) C hin hw (inC inW11) tyX11 tyX11_ok nmX11 0 rfl rfl 61 (by decide) (wc w_1523) rfl rfl (ty := .array .int) (by decide +kernel) rfl rfl (Nat.le_of_ble_eq_true rfl) (ws' := (a, .inr (11, [.ref q8, .int 0, .int 0, .ref q16, .int 0, .int (-1 : Int32), .int 0, .int 0, .int 0, .int 0, .int 0, .int 0, .int 0, .ref q695, .ref q703, .ref q712, .ref q721, .ref q730, .ref q739, .ref q748, .int 0, .int 0, .int 0, .int 0, .ref q756, .ref q764, .ref q772, .ref q781, .ref q790, .ref q799, .ref q808, .ref q816, .ref q824, .int 0, .int 0, .int 0, .int 0, .int 0, .int 0, .int 0, .int 0, .int 0, .int 0, .int 0, .int 0, .int 0, .ref q832, .ref q840, .ref q848, .int 0, .int 0, .int (-1 : Int32), .int (-1 : Int32), .int 0, .ref q866, .ref q874, .ref q881, .ref q890, .ref q898, .ref q906, .ref q914, .ref q922, .null, .null, .null, .null, .int 0, .int 0, .int 0, .int 0, .null, .null, .int 0, .int 0])) :: (q922, .inl (cI, 16, .inl (fun _ => 0))) :: (q914, .inl (cI, 16, .inl (fun _ => 0))) :: (q906, .inl (cI, 16, .inl (fun _ => 0))) :: (q898, .inl (cZ, 16, .inl (fun _ => 0))) :: (q890, .inl (cI, 840, .inl (fun _ => 0))) :: (q881, .inl (cZ, 4, .inl (fun _ => 0))) :: (q874, .inl (cI, 36, .inl (fun _ => 0))) :: (q866, .inl (cI, 36, .inl (fun _ => 0))) :: (q848, .inl (cI, 36, .inl (fun _ => 0))) :: (q840, .inl (cI, 36, .inl (fun _ => 0))) :: (q832, .inl (cI, 36, .inl (fun _ => 0))) :: (q824, .inl (cI, 80, .inl (fun _ => 0))) :: (q816, .inl (cI, 80, .inl (fun _ => 0))) :: (q808, .inl (cI, 128, .inl (fun _ => 0))) :: (q799, .inl (cI, 128, .inl (fun _ => 0))) :: (q790, .inl (cI, 128, .inl (fun _ => 0))) :: (q781, .inl (cI, 128, .inl (fun _ => 0))) :: (q772, .inl (cI, 48, .inl (fun _ => 0))) :: (q764, .inl (cI, 48, .inl (fun _ => 0))) :: (q756, .inl (cI, 40, .inl (fun _ => 0))) :: (q748, .inl (cI, 720, .inl (fun _ => 0))) :: (q739, .inl (cI, 720, .inl (fun _ => 0))) :: (q730, .inl (cZ, 720, .inl (fun _ => 0))) :: (q721, .inl (cI, 720, .inl (fun _ => 0))) :: (q712, .inl (cI, 720, .inl (fun _ => 0))) :: (q703, .inl (cI, 60, .inl (fun _ => 0))) :: (q695, .inl (cI, 60, .inl (fun _ => 0))) :: (q16, .inl (cI, 112, .inl (wfl 112))) :: (q8, .inl (cI, 500, .inl (fun _ => 0))) :: []) rfl dX11_init_924 (fun H locs hw => ?_)
  refine lv_aload_n C.1 C.2.1 dX11_init_927 rfl (lv_at hl 0 rfl) ?_
  refine lv_bipush (v := (16 : Int32)) C.1 C.2.1 dX11_init_928 (by decide) ?_
  refine i_newa C hw (ty := .int) (wc w_214) rfl (fun _ _ h => h) 0 rfl (N' := 16) (a0 := (16, .inl (fun _ => 0))) (fun cA => by first | rfl | (rw [vp_cell_i]; rfl) | (rw [vp_cell_l]; rfl)) (by decide) (by decide) (by decide) (c1 := 30) (s1 := 6244) rfl rfl (Nat.le_of_ble_eq_true rfl) (Nat.le_of_ble_eq_true rfl) dX11_init_930 (fun q930 H hw => ?_)
  refine i_putF (ci := 11) C hin hw (inC inW11) tyX11 tyX11_ok nmX11 0 rfl rfl 62 (by decide) (wc w_1524) rfl rfl (ty := .array .int) (by decide +kernel) rfl rfl (Nat.le_of_ble_eq_true rfl) (ws' := (a, .inr (11, [.ref q8, .int 0, .int 0, .ref q16, .int 0, .int (-1 : Int32), .int 0, .int 0, .int 0, .int 0, .int 0, .int 0, .int 0, .ref q695, .ref q703, .ref q712, .ref q721, .ref q730, .ref q739, .ref q748, .int 0, .int 0, .int 0, .int 0, .ref q756, .ref q764, .ref q772, .ref q781, .ref q790, .ref q799, .ref q808, .ref q816, .ref q824, .int 0, .int 0, .int 0, .int 0, .int 0, .int 0, .int 0, .int 0, .int 0, .int 0, .int 0, .int 0, .int 0, .ref q832, .ref q840, .ref q848, .int 0, .int 0, .int (-1 : Int32), .int (-1 : Int32), .int 0, .ref q866, .ref q874, .ref q881, .ref q890, .ref q898, .ref q906, .ref q914, .ref q922, .ref q930, .null, .null, .null, .int 0, .int 0, .int 0, .int 0, .null, .null, .int 0, .int 0])) :: (q930, .inl (cI, 16, .inl (fun _ => 0))) :: (q922, .inl (cI, 16, .inl (fun _ => 0))) :: (q914, .inl (cI, 16, .inl (fun _ => 0))) :: (q906, .inl (cI, 16, .inl (fun _ => 0))) :: (q898, .inl (cZ, 16, .inl (fun _ => 0))) :: (q890, .inl (cI, 840, .inl (fun _ => 0))) :: (q881, .inl (cZ, 4, .inl (fun _ => 0))) :: (q874, .inl (cI, 36, .inl (fun _ => 0))) :: (q866, .inl (cI, 36, .inl (fun _ => 0))) :: (q848, .inl (cI, 36, .inl (fun _ => 0))) :: (q840, .inl (cI, 36, .inl (fun _ => 0))) :: (q832, .inl (cI, 36, .inl (fun _ => 0))) :: (q824, .inl (cI, 80, .inl (fun _ => 0))) :: (q816, .inl (cI, 80, .inl (fun _ => 0))) :: (q808, .inl (cI, 128, .inl (fun _ => 0))) :: (q799, .inl (cI, 128, .inl (fun _ => 0))) :: (q790, .inl (cI, 128, .inl (fun _ => 0))) :: (q781, .inl (cI, 128, .inl (fun _ => 0))) :: (q772, .inl (cI, 48, .inl (fun _ => 0))) :: (q764, .inl (cI, 48, .inl (fun _ => 0))) :: (q756, .inl (cI, 40, .inl (fun _ => 0))) :: (q748, .inl (cI, 720, .inl (fun _ => 0))) :: (q739, .inl (cI, 720, .inl (fun _ => 0))) :: (q730, .inl (cZ, 720, .inl (fun _ => 0))) :: (q721, .inl (cI, 720, .inl (fun _ => 0))) :: (q712, .inl (cI, 720, .inl (fun _ => 0))) :: (q703, .inl (cI, 60, .inl (fun _ => 0))) :: (q695, .inl (cI, 60, .inl (fun _ => 0))) :: (q16, .inl (cI, 112, .inl (wfl 112))) :: (q8, .inl (cI, 500, .inl (fun _ => 0))) :: []) rfl dX11_init_932 (fun H locs hw => ?_)
  refine lv_aload_n C.1 C.2.1 dX11_init_935 rfl (lv_at hl 0 rfl) ?_
  refine lv_bipush (v := (16 : Int32)) C.1 C.2.1 dX11_init_936 (by decide) ?_
  refine i_newa C hw (ty := .int) (wc w_214) rfl (fun _ _ h => h) 0 rfl (N' := 16) (a0 := (16, .inl (fun _ => 0))) (fun cA => by first | rfl | (rw [vp_cell_i]; rfl) | (rw [vp_cell_l]; rfl)) (by decide) (by decide) (by decide) (c1 := 31) (s1 := 6260) rfl rfl (Nat.le_of_ble_eq_true rfl) (Nat.le_of_ble_eq_true rfl) dX11_init_938 (fun q938 H hw => ?_)
  refine i_putF (ci := 11) C hin hw (inC inW11) tyX11 tyX11_ok nmX11 0 rfl rfl 63 (by decide) (wc w_1525) rfl rfl (ty := .array .int) (by decide +kernel) rfl rfl (Nat.le_of_ble_eq_true rfl) (ws' := (a, .inr (11, [.ref q8, .int 0, .int 0, .ref q16, .int 0, .int (-1 : Int32), .int 0, .int 0, .int 0, .int 0, .int 0, .int 0, .int 0, .ref q695, .ref q703, .ref q712, .ref q721, .ref q730, .ref q739, .ref q748, .int 0, .int 0, .int 0, .int 0, .ref q756, .ref q764, .ref q772, .ref q781, .ref q790, .ref q799, .ref q808, .ref q816, .ref q824, .int 0, .int 0, .int 0, .int 0, .int 0, .int 0, .int 0, .int 0, .int 0, .int 0, .int 0, .int 0, .int 0, .ref q832, .ref q840, .ref q848, .int 0, .int 0, .int (-1 : Int32), .int (-1 : Int32), .int 0, .ref q866, .ref q874, .ref q881, .ref q890, .ref q898, .ref q906, .ref q914, .ref q922, .ref q930, .ref q938, .null, .null, .int 0, .int 0, .int 0, .int 0, .null, .null, .int 0, .int 0])) :: (q938, .inl (cI, 16, .inl (fun _ => 0))) :: (q930, .inl (cI, 16, .inl (fun _ => 0))) :: (q922, .inl (cI, 16, .inl (fun _ => 0))) :: (q914, .inl (cI, 16, .inl (fun _ => 0))) :: (q906, .inl (cI, 16, .inl (fun _ => 0))) :: (q898, .inl (cZ, 16, .inl (fun _ => 0))) :: (q890, .inl (cI, 840, .inl (fun _ => 0))) :: (q881, .inl (cZ, 4, .inl (fun _ => 0))) :: (q874, .inl (cI, 36, .inl (fun _ => 0))) :: (q866, .inl (cI, 36, .inl (fun _ => 0))) :: (q848, .inl (cI, 36, .inl (fun _ => 0))) :: (q840, .inl (cI, 36, .inl (fun _ => 0))) :: (q832, .inl (cI, 36, .inl (fun _ => 0))) :: (q824, .inl (cI, 80, .inl (fun _ => 0))) :: (q816, .inl (cI, 80, .inl (fun _ => 0))) :: (q808, .inl (cI, 128, .inl (fun _ => 0))) :: (q799, .inl (cI, 128, .inl (fun _ => 0))) :: (q790, .inl (cI, 128, .inl (fun _ => 0))) :: (q781, .inl (cI, 128, .inl (fun _ => 0))) :: (q772, .inl (cI, 48, .inl (fun _ => 0))) :: (q764, .inl (cI, 48, .inl (fun _ => 0))) :: (q756, .inl (cI, 40, .inl (fun _ => 0))) :: (q748, .inl (cI, 720, .inl (fun _ => 0))) :: (q739, .inl (cI, 720, .inl (fun _ => 0))) :: (q730, .inl (cZ, 720, .inl (fun _ => 0))) :: (q721, .inl (cI, 720, .inl (fun _ => 0))) :: (q712, .inl (cI, 720, .inl (fun _ => 0))) :: (q703, .inl (cI, 60, .inl (fun _ => 0))) :: (q695, .inl (cI, 60, .inl (fun _ => 0))) :: (q16, .inl (cI, 112, .inl (wfl 112))) :: (q8, .inl (cI, 500, .inl (fun _ => 0))) :: []) rfl dX11_init_940 (fun H locs hw => ?_)
  refine lv_aload_n C.1 C.2.1 dX11_init_943 rfl (lv_at hl 0 rfl) ?_
  refine lv_bipush (v := (100 : Int32)) C.1 C.2.1 dX11_init_944 (by decide) ?_
  refine i_newa C hw (ty := .int) (wc w_214) rfl (fun _ _ h => h) 0 rfl (N' := 100) (a0 := (100, .inl (fun _ => 0))) (fun cA => by first | rfl | (rw [vp_cell_i]; rfl) | (rw [vp_cell_l]; rfl)) (by decide) (by decide) (by decide) (c1 := 32) (s1 := 6360) rfl rfl (Nat.le_of_ble_eq_true rfl) (Nat.le_of_ble_eq_true rfl) dX11_init_946 (fun q946 H hw => ?_)
  refine i_putF (ci := 11) C hin hw (inC inW11) tyX11 tyX11_ok nmX11 0 rfl rfl 64 (by decide) (wc w_1526) rfl rfl (ty := .array .int) (by decide +kernel) rfl rfl (Nat.le_of_ble_eq_true rfl) (ws' := (a, .inr (11, [.ref q8, .int 0, .int 0, .ref q16, .int 0, .int (-1 : Int32), .int 0, .int 0, .int 0, .int 0, .int 0, .int 0, .int 0, .ref q695, .ref q703, .ref q712, .ref q721, .ref q730, .ref q739, .ref q748, .int 0, .int 0, .int 0, .int 0, .ref q756, .ref q764, .ref q772, .ref q781, .ref q790, .ref q799, .ref q808, .ref q816, .ref q824, .int 0, .int 0, .int 0, .int 0, .int 0, .int 0, .int 0, .int 0, .int 0, .int 0, .int 0, .int 0, .int 0, .ref q832, .ref q840, .ref q848, .int 0, .int 0, .int (-1 : Int32), .int (-1 : Int32), .int 0, .ref q866, .ref q874, .ref q881, .ref q890, .ref q898, .ref q906, .ref q914, .ref q922, .ref q930, .ref q938, .ref q946, .null, .int 0, .int 0, .int 0, .int 0, .null, .null, .int 0, .int 0])) :: (q946, .inl (cI, 100, .inl (fun _ => 0))) :: (q938, .inl (cI, 16, .inl (fun _ => 0))) :: (q930, .inl (cI, 16, .inl (fun _ => 0))) :: (q922, .inl (cI, 16, .inl (fun _ => 0))) :: (q914, .inl (cI, 16, .inl (fun _ => 0))) :: (q906, .inl (cI, 16, .inl (fun _ => 0))) :: (q898, .inl (cZ, 16, .inl (fun _ => 0))) :: (q890, .inl (cI, 840, .inl (fun _ => 0))) :: (q881, .inl (cZ, 4, .inl (fun _ => 0))) :: (q874, .inl (cI, 36, .inl (fun _ => 0))) :: (q866, .inl (cI, 36, .inl (fun _ => 0))) :: (q848, .inl (cI, 36, .inl (fun _ => 0))) :: (q840, .inl (cI, 36, .inl (fun _ => 0))) :: (q832, .inl (cI, 36, .inl (fun _ => 0))) :: (q824, .inl (cI, 80, .inl (fun _ => 0))) :: (q816, .inl (cI, 80, .inl (fun _ => 0))) :: (q808, .inl (cI, 128, .inl (fun _ => 0))) :: (q799, .inl (cI, 128, .inl (fun _ => 0))) :: (q790, .inl (cI, 128, .inl (fun _ => 0))) :: (q781, .inl (cI, 128, .inl (fun _ => 0))) :: (q772, .inl (cI, 48, .inl (fun _ => 0))) :: (q764, .inl (cI, 48, .inl (fun _ => 0))) :: (q756, .inl (cI, 40, .inl (fun _ => 0))) :: (q748, .inl (cI, 720, .inl (fun _ => 0))) :: (q739, .inl (cI, 720, .inl (fun _ => 0))) :: (q730, .inl (cZ, 720, .inl (fun _ => 0))) :: (q721, .inl (cI, 720, .inl (fun _ => 0))) :: (q712, .inl (cI, 720, .inl (fun _ => 0))) :: (q703, .inl (cI, 60, .inl (fun _ => 0))) :: (q695, .inl (cI, 60, .inl (fun _ => 0))) :: (q16, .inl (cI, 112, .inl (wfl 112))) :: (q8, .inl (cI, 500, .inl (fun _ => 0))) :: []) rfl dX11_init_948 (fun H locs hw => ?_)
  refine lv_aload_n C.1 C.2.1 dX11_init_951 rfl (lv_at hl 0 rfl) ?_
  refine lv_bipush (v := (64 : Int32)) C.1 C.2.1 dX11_init_952 (by decide) ?_
  refine i_newa C hw (ty := .boolean) (wc w_1685) rfl (fun _ _ h => h) 1 rfl (N' := 64) (a0 := (64, .inl (fun _ => 0))) (fun cA => by first | rfl | (rw [vp_cell_i]; rfl) | (rw [vp_cell_l]; rfl)) (by decide) (by decide) (by decide) (c1 := 33) (s1 := 6424) rfl rfl (Nat.le_of_ble_eq_true rfl) (Nat.le_of_ble_eq_true rfl) dX11_init_954 (fun q954 H hw => ?_)
  refine i_putF (ci := 11) C hin hw (inC inW11) tyX11 tyX11_ok nmX11 0 rfl rfl 65 (by decide) (wc w_1527) rfl rfl (ty := .array .boolean) (by decide +kernel) rfl rfl (Nat.le_of_ble_eq_true rfl) (ws' := (a, .inr (11, [.ref q8, .int 0, .int 0, .ref q16, .int 0, .int (-1 : Int32), .int 0, .int 0, .int 0, .int 0, .int 0, .int 0, .int 0, .ref q695, .ref q703, .ref q712, .ref q721, .ref q730, .ref q739, .ref q748, .int 0, .int 0, .int 0, .int 0, .ref q756, .ref q764, .ref q772, .ref q781, .ref q790, .ref q799, .ref q808, .ref q816, .ref q824, .int 0, .int 0, .int 0, .int 0, .int 0, .int 0, .int 0, .int 0, .int 0, .int 0, .int 0, .int 0, .int 0, .ref q832, .ref q840, .ref q848, .int 0, .int 0, .int (-1 : Int32), .int (-1 : Int32), .int 0, .ref q866, .ref q874, .ref q881, .ref q890, .ref q898, .ref q906, .ref q914, .ref q922, .ref q930, .ref q938, .ref q946, .ref q954, .int 0, .int 0, .int 0, .int 0, .null, .null, .int 0, .int 0])) :: (q954, .inl (cZ, 64, .inl (fun _ => 0))) :: (q946, .inl (cI, 100, .inl (fun _ => 0))) :: (q938, .inl (cI, 16, .inl (fun _ => 0))) :: (q930, .inl (cI, 16, .inl (fun _ => 0))) :: (q922, .inl (cI, 16, .inl (fun _ => 0))) :: (q914, .inl (cI, 16, .inl (fun _ => 0))) :: (q906, .inl (cI, 16, .inl (fun _ => 0))) :: (q898, .inl (cZ, 16, .inl (fun _ => 0))) :: (q890, .inl (cI, 840, .inl (fun _ => 0))) :: (q881, .inl (cZ, 4, .inl (fun _ => 0))) :: (q874, .inl (cI, 36, .inl (fun _ => 0))) :: (q866, .inl (cI, 36, .inl (fun _ => 0))) :: (q848, .inl (cI, 36, .inl (fun _ => 0))) :: (q840, .inl (cI, 36, .inl (fun _ => 0))) :: (q832, .inl (cI, 36, .inl (fun _ => 0))) :: (q824, .inl (cI, 80, .inl (fun _ => 0))) :: (q816, .inl (cI, 80, .inl (fun _ => 0))) :: (q808, .inl (cI, 128, .inl (fun _ => 0))) :: (q799, .inl (cI, 128, .inl (fun _ => 0))) :: (q790, .inl (cI, 128, .inl (fun _ => 0))) :: (q781, .inl (cI, 128, .inl (fun _ => 0))) :: (q772, .inl (cI, 48, .inl (fun _ => 0))) :: (q764, .inl (cI, 48, .inl (fun _ => 0))) :: (q756, .inl (cI, 40, .inl (fun _ => 0))) :: (q748, .inl (cI, 720, .inl (fun _ => 0))) :: (q739, .inl (cI, 720, .inl (fun _ => 0))) :: (q730, .inl (cZ, 720, .inl (fun _ => 0))) :: (q721, .inl (cI, 720, .inl (fun _ => 0))) :: (q712, .inl (cI, 720, .inl (fun _ => 0))) :: (q703, .inl (cI, 60, .inl (fun _ => 0))) :: (q695, .inl (cI, 60, .inl (fun _ => 0))) :: (q16, .inl (cI, 112, .inl (wfl 112))) :: (q8, .inl (cI, 500, .inl (fun _ => 0))) :: []) rfl dX11_init_956 (fun H locs hw => ?_)
  refine lv_aload_n C.1 C.2.1 dX11_init_959 rfl (lv_at hl 0 rfl) ?_
  refine lv_bipush (v := (36 : Int32)) C.1 C.2.1 dX11_init_960 (by decide) ?_
  refine i_newa C hw (ty := .int) (wc w_214) rfl (fun _ _ h => h) 0 rfl (N' := 36) (a0 := (36, .inl (fun _ => 0))) (fun cA => by first | rfl | (rw [vp_cell_i]; rfl) | (rw [vp_cell_l]; rfl)) (by decide) (by decide) (by decide) (c1 := 34) (s1 := 6460) rfl rfl (Nat.le_of_ble_eq_true rfl) (Nat.le_of_ble_eq_true rfl) dX11_init_962 (fun q962 H hw => ?_)
  refine i_putF (ci := 11) C hin hw (inC inW11) tyX11 tyX11_ok nmX11 0 rfl rfl 70 (by decide) (wc w_1532) rfl rfl (ty := .array .int) (by decide +kernel) rfl rfl (Nat.le_of_ble_eq_true rfl) (ws' := (a, .inr (11, [.ref q8, .int 0, .int 0, .ref q16, .int 0, .int (-1 : Int32), .int 0, .int 0, .int 0, .int 0, .int 0, .int 0, .int 0, .ref q695, .ref q703, .ref q712, .ref q721, .ref q730, .ref q739, .ref q748, .int 0, .int 0, .int 0, .int 0, .ref q756, .ref q764, .ref q772, .ref q781, .ref q790, .ref q799, .ref q808, .ref q816, .ref q824, .int 0, .int 0, .int 0, .int 0, .int 0, .int 0, .int 0, .int 0, .int 0, .int 0, .int 0, .int 0, .int 0, .ref q832, .ref q840, .ref q848, .int 0, .int 0, .int (-1 : Int32), .int (-1 : Int32), .int 0, .ref q866, .ref q874, .ref q881, .ref q890, .ref q898, .ref q906, .ref q914, .ref q922, .ref q930, .ref q938, .ref q946, .ref q954, .int 0, .int 0, .int 0, .int 0, .ref q962, .null, .int 0, .int 0])) :: (q962, .inl (cI, 36, .inl (fun _ => 0))) :: (q954, .inl (cZ, 64, .inl (fun _ => 0))) :: (q946, .inl (cI, 100, .inl (fun _ => 0))) :: (q938, .inl (cI, 16, .inl (fun _ => 0))) :: (q930, .inl (cI, 16, .inl (fun _ => 0))) :: (q922, .inl (cI, 16, .inl (fun _ => 0))) :: (q914, .inl (cI, 16, .inl (fun _ => 0))) :: (q906, .inl (cI, 16, .inl (fun _ => 0))) :: (q898, .inl (cZ, 16, .inl (fun _ => 0))) :: (q890, .inl (cI, 840, .inl (fun _ => 0))) :: (q881, .inl (cZ, 4, .inl (fun _ => 0))) :: (q874, .inl (cI, 36, .inl (fun _ => 0))) :: (q866, .inl (cI, 36, .inl (fun _ => 0))) :: (q848, .inl (cI, 36, .inl (fun _ => 0))) :: (q840, .inl (cI, 36, .inl (fun _ => 0))) :: (q832, .inl (cI, 36, .inl (fun _ => 0))) :: (q824, .inl (cI, 80, .inl (fun _ => 0))) :: (q816, .inl (cI, 80, .inl (fun _ => 0))) :: (q808, .inl (cI, 128, .inl (fun _ => 0))) :: (q799, .inl (cI, 128, .inl (fun _ => 0))) :: (q790, .inl (cI, 128, .inl (fun _ => 0))) :: (q781, .inl (cI, 128, .inl (fun _ => 0))) :: (q772, .inl (cI, 48, .inl (fun _ => 0))) :: (q764, .inl (cI, 48, .inl (fun _ => 0))) :: (q756, .inl (cI, 40, .inl (fun _ => 0))) :: (q748, .inl (cI, 720, .inl (fun _ => 0))) :: (q739, .inl (cI, 720, .inl (fun _ => 0))) :: (q730, .inl (cZ, 720, .inl (fun _ => 0))) :: (q721, .inl (cI, 720, .inl (fun _ => 0))) :: (q712, .inl (cI, 720, .inl (fun _ => 0))) :: (q703, .inl (cI, 60, .inl (fun _ => 0))) :: (q695, .inl (cI, 60, .inl (fun _ => 0))) :: (q16, .inl (cI, 112, .inl (wfl 112))) :: (q8, .inl (cI, 500, .inl (fun _ => 0))) :: []) rfl dX11_init_964 (fun H locs hw => ?_)
  refine lv_aload_n C.1 C.2.1 dX11_init_967 rfl (lv_at hl 0 rfl) ?_
  refine lv_sipush (v := (500 : Int32)) C.1 C.2.1 dX11_init_968 (by decide) ?_
  refine i_newa C hw (ty := .int) (wc w_214) rfl (fun _ _ h => h) 0 rfl (N' := 500) (a0 := (500, .inl (fun _ => 0))) (fun cA => by first | rfl | (rw [vp_cell_i]; rfl) | (rw [vp_cell_l]; rfl)) (by decide) (by decide) (by decide) (c1 := 35) (s1 := 6960) rfl rfl (Nat.le_of_ble_eq_true rfl) (Nat.le_of_ble_eq_true rfl) dX11_init_971 (fun q971 H hw => ?_)
  refine i_putF (ci := 11) C hin hw (inC inW11) tyX11 tyX11_ok nmX11 0 rfl rfl 71 (by decide) (wc w_1533) rfl rfl (ty := .array .int) (by decide +kernel) rfl rfl (Nat.le_of_ble_eq_true rfl) (ws' := (a, .inr (11, [.ref q8, .int 0, .int 0, .ref q16, .int 0, .int (-1 : Int32), .int 0, .int 0, .int 0, .int 0, .int 0, .int 0, .int 0, .ref q695, .ref q703, .ref q712, .ref q721, .ref q730, .ref q739, .ref q748, .int 0, .int 0, .int 0, .int 0, .ref q756, .ref q764, .ref q772, .ref q781, .ref q790, .ref q799, .ref q808, .ref q816, .ref q824, .int 0, .int 0, .int 0, .int 0, .int 0, .int 0, .int 0, .int 0, .int 0, .int 0, .int 0, .int 0, .int 0, .ref q832, .ref q840, .ref q848, .int 0, .int 0, .int (-1 : Int32), .int (-1 : Int32), .int 0, .ref q866, .ref q874, .ref q881, .ref q890, .ref q898, .ref q906, .ref q914, .ref q922, .ref q930, .ref q938, .ref q946, .ref q954, .int 0, .int 0, .int 0, .int 0, .ref q962, .ref q971, .int 0, .int 0])) :: (q971, .inl (cI, 500, .inl (fun _ => 0))) :: (q962, .inl (cI, 36, .inl (fun _ => 0))) :: (q954, .inl (cZ, 64, .inl (fun _ => 0))) :: (q946, .inl (cI, 100, .inl (fun _ => 0))) :: (q938, .inl (cI, 16, .inl (fun _ => 0))) :: (q930, .inl (cI, 16, .inl (fun _ => 0))) :: (q922, .inl (cI, 16, .inl (fun _ => 0))) :: (q914, .inl (cI, 16, .inl (fun _ => 0))) :: (q906, .inl (cI, 16, .inl (fun _ => 0))) :: (q898, .inl (cZ, 16, .inl (fun _ => 0))) :: (q890, .inl (cI, 840, .inl (fun _ => 0))) :: (q881, .inl (cZ, 4, .inl (fun _ => 0))) :: (q874, .inl (cI, 36, .inl (fun _ => 0))) :: (q866, .inl (cI, 36, .inl (fun _ => 0))) :: (q848, .inl (cI, 36, .inl (fun _ => 0))) :: (q840, .inl (cI, 36, .inl (fun _ => 0))) :: (q832, .inl (cI, 36, .inl (fun _ => 0))) :: (q824, .inl (cI, 80, .inl (fun _ => 0))) :: (q816, .inl (cI, 80, .inl (fun _ => 0))) :: (q808, .inl (cI, 128, .inl (fun _ => 0))) :: (q799, .inl (cI, 128, .inl (fun _ => 0))) :: (q790, .inl (cI, 128, .inl (fun _ => 0))) :: (q781, .inl (cI, 128, .inl (fun _ => 0))) :: (q772, .inl (cI, 48, .inl (fun _ => 0))) :: (q764, .inl (cI, 48, .inl (fun _ => 0))) :: (q756, .inl (cI, 40, .inl (fun _ => 0))) :: (q748, .inl (cI, 720, .inl (fun _ => 0))) :: (q739, .inl (cI, 720, .inl (fun _ => 0))) :: (q730, .inl (cZ, 720, .inl (fun _ => 0))) :: (q721, .inl (cI, 720, .inl (fun _ => 0))) :: (q712, .inl (cI, 720, .inl (fun _ => 0))) :: (q703, .inl (cI, 60, .inl (fun _ => 0))) :: (q695, .inl (cI, 60, .inl (fun _ => 0))) :: (q16, .inl (cI, 112, .inl (wfl 112))) :: (q8, .inl (cI, 500, .inl (fun _ => 0))) :: []) rfl dX11_init_973 (fun H locs hw => ?_)
  refine lv_aload_n C.1 C.2.1 dX11_init_976 rfl (lv_at hl 0 rfl) ?_
  refine lv_iconst (v := (5 : Int32)) C.1 C.2.1 dX11_init_977 (by decide) ?_
  refine lv_iconst (v := (5 : Int32)) C.1 C.2.1 dX11_init_978 (by decide) ?_
  have hw : Wd D A s (T0 cI cZ cL cF cM) (mW a (fun k => [q8, 0, 0, q16, 0, 0, 0, 0, 0, 0, 0, 0, 0, q695, q703, q712, q721, q730, q739, q748, 0, 0, 0, 0, q756, q764, q772, q781, q790, q799, q808, q816, q824, 0, 0, 0, 0, 0, 0, 0, 0, 0, 0, 0, 0, 0, q832, q840, q848, 0, 0, 0, 0, 0, q866, q874, q881, q890, q898, q906, q914, q922, q930, q938, q946, q954, 0, 0, 0, 0, q962, q971, 0, 0].getD k 0) cI cZ mf0 mg0) _ _ := hw.perm [0, 35, 34, 33, 32, 31, 30, 29, 28, 27, 26, 25, 24, 23, 22, 21, 20, 19, 18, 17, 16, 15, 14, 13, 12, 11, 10, 9, 8, 7, 6, 5, 4, 3, 2, 1] (by decide) rfl
  refine wd_Vv C hw (List.range 36) [] [0, 1] (ctX11_begins l D a (fun k => [q8, 0, 0, q16, 0, 0, 0, 0, 0, 0, 0, 0, 0, q695, q703, q712, q721, q730, q739, q748, 0, 0, 0, 0, q756, q764, q772, q781, q790, q799, q808, q816, q824, 0, 0, 0, 0, 0, 0, 0, 0, 0, 0, 0, 0, 0, q832, q840, q848, 0, 0, 0, 0, 0, q866, q874, q881, q890, q898, q906, q914, q922, q930, q938, q946, q954, 0, 0, 0, 0, q962, q971, 0, 0].getD k 0) cI cZ mf0 mg0 5 5 hb) rfl (wr := []) rfl (by decide) rfl (fun i h => by cases h) rfl (cwV 2 C.2.2.2.2 (gd_V w_1446 w_1448 w_52 w_125 w_1449) rfl rfl rfl cdX11_begins ⟨Nat.le_of_ble_eq_true rfl, Nat.le_of_ble_eq_true rfl⟩) (ci := 11) (q0 := 0) rfl rfl rfl hl.1 (Nat.le_of_ble_eq_true rfl) dX11_init_979 ⟨Nat.le_of_ble_eq_true rfl, Nat.le_of_ble_eq_true rfl⟩ (fun u H locs hk hw => ?_) rfl
  exact hR _ _ ((fun k => [q8, 0, 0, q16, 0, 0, 0, 0, 0, 0, 0, 0, 0, q695, q703, q712, q721, q730, q739, q748, 0, 0, 0, 0, q756, q764, q772, q781, q790, q799, q808, q816, q824, 0, 0, 0, 0, 0, 0, 0, 0, 0, 0, 0, 0, 0, q832, q840, q848, 0, 0, 0, 0, 0, q866, q874, q881, q890, q898, q906, q914, q922, q930, q938, q946, q954, 0, 0, 0, 0, q962, q971, 0, 0].getD k 0), u.1, u.2) _ _ dX11_init_982 hk hw
