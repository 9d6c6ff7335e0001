abbrev T0 (cI cZ cL cF cM : ClassId) : List (ClassId × FieldType) := [(cI, .int), (cZ, .boolean), (cL, .long), (cF, .object RX1), (cM, .object RX3)]
abbrev bX0 (cI cZ cL cF cM : ClassId) (a : Nat) (u : Nat → Nat) : va_W := (a, .inr (0, [.int 0, .int 0, .int 0, .int 0, .int 0, .int 0, .int 0])) :: []
abbrev iX0_rm : Room := { frames := 1, cells := 0, slots := 0, locals := 12 }
set_option maxHeartbeats 4000000 in
set_option maxRecDepth 100000 in
theorem iX0 (l : Launch) (D : va_G) (cI cZ cL cF cM : ClassId) (a : Nat) : Cn 0 0 l yX0_init wsX0_init iX0_rm [.ref a] D (T0 cI cZ cL cF cM) [(a, .inr (0, [.int 0, .int 0, .int 0, .int 0, .int 0, .int 0, .int 0]))] (fun u : Nat → Nat => bX0 cI cZ cL cF cM a u) (fun _ => True) := by
  refine Cn_of (cc := cX0_init) (maxL := 1) (by decide) rfl (Nat.le_of_ble_eq_true rfl) ?_
  intro p e s m below meth c A Q C hin hw hR ls hl
  have hin : meth.name = "<init>" := hin
  have hl : lv_has ls 1 [(0, .ref a)] := hl
  refine lv_aload_n C.1 C.2.1 dX0_init_0 rfl (lv_at hl 0 rfl) ?_
  refine W.objInit C.1 C.2.1 C.2.2.2.1 (C.2.2.2.2 _ (wc w_438)) (C.2.2.2.2 _ (wc w_144)) (C.2.2.2.2 _ (wc w_145)) rfl (by rw [C.2.2.1]; exact hl.1) rfl dX0_init_1 (Nat.le_of_ble_eq_true rfl) (Nat.le_of_ble_eq_true rfl) ?_
  refine W.eq (g2 := F0 m 4 ls []) rfl ?_
  have hw : Wd D A s (T0 cI cZ cL cF cM) (bX0 cI cZ cL cF cM a (fun _ => 0)) _ _ := hw
  exact hR _ _ (fun _ => 0) _ _ dX0_init_4 trivial hw
abbrev bX4 (cI cZ cL cF cM : ClassId) (a : Nat) (u : Nat → Nat) : va_W := (a, .inr (4, [.int 0, .int 0, .int 0, .ref (u 2), .ref (u 1), .ref (u 0)])) :: ((u 0), .inl (cI, 24, .inl (fun _ => 0))) :: ((u 1), .inl (cI, 24, .inl (fun _ => 0))) :: ((u 2), .inl (cI, 64, .inl (fun _ => 0))) :: []
abbrev iX4_rm : Room := { frames := 1, cells := 3, slots := 112, locals := 12 }
set_option maxHeartbeats 4000000 in
set_option maxRecDepth 100000 in
theorem iX4 (l : Launch) (D : va_G) (cI cZ cL cF cM : ClassId) (a : Nat) : Cn 3 112 l yX4_init wsX4_init iX4_rm [.ref a] D (T0 cI cZ cL cF cM) [(a, .inr (4, [.int 0, .int 0, .int 0, .null, .null, .null]))] (fun u : Nat → Nat => bX4 cI cZ cL cF cM a u) (fun _ => True) := by
  refine Cn_of (cc := cX4_init) (maxL := 1) (by decide) rfl (Nat.le_of_ble_eq_true rfl) ?_
  intro p e s m below meth c A Q C hin hw hR ls hl
  have hin : meth.name = "<init>" := hin
  have hl : lv_has ls 1 [(0, .ref a)] := hl
  refine lv_aload_n C.1 C.2.1 dX4_init_0 rfl (lv_at hl 0 rfl) ?_
  refine W.objInit C.1 C.2.1 C.2.2.2.1 (C.2.2.2.2 _ (wc w_277)) (C.2.2.2.2 _ (wc w_144)) (C.2.2.2.2 _ (wc w_145)) rfl (by rw [C.2.2.1]; exact hl.1) rfl dX4_init_1 (Nat.le_of_ble_eq_true rfl) (Nat.le_of_ble_eq_true rfl) ?_
  refine W.eq (g2 := F0 m 4 ls []) rfl ?_
  refine lv_aload_n C.1 C.2.1 dX4_init_4 rfl (lv_at hl 0 rfl) ?_
  refine lv_bipush (v := (64 : Int32)) C.1 C.2.1 dX4_init_5 (by decide) ?_
  refine i_newa C hw (ty := .int) (wc w_214) rfl (fun _ _ h => h) 0 rfl (N' := 64) (a0 := (64, .inl (fun _ => 0))) (fun cA => by first | rfl | (rw [vp_cell_i]; rfl) | (rw [vp_cell_l]; rfl)) (by decide) (by decide) (by decide) (c1 := 1) (s1 := 64) rfl rfl (Nat.le_of_ble_eq_true rfl) (Nat.le_of_ble_eq_true rfl) dX4_init_7 (fun q7 H hw => ?_)
  refine i_putF (ci := 4) C hin hw (inC inW4) tyX4 tyX4_ok nmX4 0 rfl rfl 3 (by decide) (wc w_288) rfl rfl (ty := .array .int) (by decide +kernel) rfl rfl (Nat.le_of_ble_eq_true rfl) (ws' := (a, .inr (4, [.int 0, .int 0, .int 0, .ref q7, .null, .null])) :: (q7, .inl (cI, 64, .inl (fun _ => 0))) :: []) rfl dX4_init_9 (fun H locs hw => ?_)
  refine lv_aload_n C.1 C.2.1 dX4_init_12 rfl (lv_at hl 0 rfl) ?_
  refine lv_bipush (v := (24 : Int32)) C.1 C.2.1 dX4_init_13 (by decide) ?_
  refine i_newa C hw (ty := .int) (wc w_214) rfl (fun _ _ h => h) 0 rfl (N' := 24) (a0 := (24, .inl (fun _ => 0))) (fun cA => by first | rfl | (rw [vp_cell_i]; rfl) | (rw [vp_cell_l]; rfl)) (by decide) (by decide) (by decide) (c1 := 2) (s1 := 88) rfl rfl (Nat.le_of_ble_eq_true rfl) (Nat.le_of_ble_eq_true rfl) dX4_init_15 (fun q15 H hw => ?_)
  refine i_putF (ci := 4) C hin hw (inC inW4) tyX4 tyX4_ok nmX4 0 rfl rfl 4 (by decide) (wc w_290) rfl rfl (ty := .array .int) (by decide +kernel) rfl rfl (Nat.le_of_ble_eq_true rfl) (ws' := (a, .inr (4, [.int 0, .int 0, .int 0, .ref q7, .ref q15, .null])) :: (q15, .inl (cI, 24, .inl (fun _ => 0))) :: (q7, .inl (cI, 64, .inl (fun _ => 0))) :: []) rfl dX4_init_17 (fun H locs hw => ?_)
  refine lv_aload_n C.1 C.2.1 dX4_init_20 rfl (lv_at hl 0 rfl) ?_
  refine lv_bipush (v := (24 : Int32)) C.1 C.2.1 dX4_init_21 (by decide) ?_
  refine i_newa C hw (ty := .int) (wc w_214) rfl (fun _ _ h => h) 0 rfl (N' := 24) (a0 := (24, .inl (fun _ => 0))) (fun cA => by first | rfl | (rw [vp_cell_i]; rfl) | (rw [vp_cell_l]; rfl)) (by decide) (by decide) (by decide) (c1 := 3) (s1 := 112) rfl rfl (Nat.le_of_ble_eq_true rfl) (Nat.le_of_ble_eq_true rfl) dX4_init_23 (fun q23 H hw => ?_)
  refine i_putF (ci := 4) C hin hw (inC inW4) tyX4 tyX4_ok nmX4 0 rfl rfl 5 (by decide) (wc w_292) rfl rfl (ty := .array .int) (by decide +kernel) rfl rfl (Nat.le_of_ble_eq_true rfl) (ws' := (a, .inr (4, [.int 0, .int 0, .int 0, .ref q7, .ref q15, .ref q23])) :: (q23, .inl (cI, 24, .inl (fun _ => 0))) :: (q15, .inl (cI, 24, .inl (fun _ => 0))) :: (q7, .inl (cI, 64, .inl (fun _ => 0))) :: []) rfl dX4_init_25 (fun H locs hw => ?_)
  have hw : Wd D A s (T0 cI cZ cL cF cM) (bX4 cI cZ cL cF cM a (fun j => [q23, q15, q7].getD j 0)) _ _ := hw
  exact hR _ _ (fun j => [q23, q15, q7].getD j 0) _ _ dX4_init_28 trivial hw
abbrev bX6 (cI cZ cL cF cM : ClassId) (a : Nat) (u : Nat → Nat) : va_W := (a, .inr (6, [.int 0, .ref (u 5), .ref (u 4), .ref (u 3), .ref (u 2), .ref (u 1), .ref (u 0)])) :: ((u 0), .inl (cI, 30, .inl (fun _ => 0))) :: ((u 1), .inl (cI, 30, .inl (fun _ => 0))) :: ((u 2), .inl (cI, 30, .inl (fun _ => 0))) :: ((u 3), .inl (cI, 30, .inl (fun _ => 0))) :: ((u 4), .inl (cI, 30, .inl (fun _ => 0))) :: ((u 5), .inl (cI, 360, .inl (fun _ => 0))) :: []
abbrev iX6_rm : Room := { frames := 1, cells := 6, slots := 510, locals := 12 }
set_option maxHeartbeats 4000000 in
set_option maxRecDepth 100000 in
theorem iX6 (l : Launch) (D : va_G) (cI cZ cL cF cM : ClassId) (a : Nat) : Cn 6 510 l yX6_init wsX6_init iX6_rm [.ref a] D (T0 cI cZ cL cF cM) [(a, .inr (6, [.int 0, .null, .null, .null, .null, .null, .null]))] (fun u : Nat → Nat => bX6 cI cZ cL cF cM a u) (fun _ => True) := by
  refine Cn_of (cc := cX6_init) (maxL := 1) (by decide) rfl (Nat.le_of_ble_eq_true rfl) ?_
  intro p e s m below meth c A Q C hin hw hR ls hl
  have hin : meth.name = "<init>" := hin
  have hl : lv_has ls 1 [(0, .ref a)] := hl
  refine lv_aload_n C.1 C.2.1 dX6_init_0 rfl (lv_at hl 0 rfl) ?_
  refine W.objInit C.1 C.2.1 C.2.2.2.1 (C.2.2.2.2 _ (wc w_226)) (C.2.2.2.2 _ (wc w_144)) (C.2.2.2.2 _ (wc w_145)) rfl (by rw [C.2.2.1]; exact hl.1) rfl dX6_init_1 (Nat.le_of_ble_eq_true rfl) (Nat.le_of_ble_eq_true rfl) ?_
  refine W.eq (g2 := F0 m 4 ls []) rfl ?_
  refine lv_aload_n C.1 C.2.1 dX6_init_4 rfl (lv_at hl 0 rfl) ?_
  refine lv_sipush (v := (360 : Int32)) C.1 C.2.1 dX6_init_5 (by decide) ?_
  refine i_newa C hw (ty := .int) (wc w_214) rfl (fun _ _ h => h) 0 rfl (N' := 360) (a0 := (360, .inl (fun _ => 0))) (fun cA => by first | rfl | (rw [vp_cell_i]; rfl) | (rw [vp_cell_l]; rfl)) (by decide) (by decide) (by decide) (c1 := 1) (s1 := 360) rfl rfl (Nat.le_of_ble_eq_true rfl) (Nat.le_of_ble_eq_true rfl) dX6_init_8 (fun q8 H hw => ?_)
  refine i_putF (ci := 6) C hin hw (inC inW6) tyX6 tyX6_ok nmX6 0 rfl rfl 1 (by decide) (wc w_230) rfl rfl (ty := .array .int) (by decide +kernel) rfl rfl (Nat.le_of_ble_eq_true rfl) (ws' := (a, .inr (6, [.int 0, .ref q8, .null, .null, .null, .null, .null])) :: (q8, .inl (cI, 360, .inl (fun _ => 0))) :: []) rfl dX6_init_10 (fun H locs hw => ?_)
  refine lv_aload_n C.1 C.2.1 dX6_init_13 rfl (lv_at hl 0 rfl) ?_
  refine lv_bipush (v := (30 : Int32)) C.1 C.2.1 dX6_init_14 (by decide) ?_
  refine i_newa C hw (ty := .int) (wc w_214) rfl (fun _ _ h => h) 0 rfl (N' := 30) (a0 := (30, .inl (fun _ => 0))) (fun cA => by first | rfl | (rw [vp_cell_i]; rfl) | (rw [vp_cell_l]; rfl)) (by decide) (by decide) (by decide) (c1 := 2) (s1 := 390) rfl rfl (Nat.le_of_ble_eq_true rfl) (Nat.le_of_ble_eq_true rfl) dX6_init_16 (fun q16 H hw => ?_)
  refine i_putF (ci := 6) C hin hw (inC inW6) tyX6 tyX6_ok nmX6 0 rfl rfl 2 (by decide) (wc w_232) rfl rfl (ty := .array .int) (by decide +kernel) rfl rfl (Nat.le_of_ble_eq_true rfl) (ws' := (a, .inr (6, [.int 0, .ref q8, .ref q16, .null, .null, .null, .null])) :: (q16, .inl (cI, 30, .inl (fun _ => 0))) :: (q8, .inl (cI, 360, .inl (fun _ => 0))) :: []) rfl dX6_init_18 (fun H locs hw => ?_)
  refine lv_aload_n C.1 C.2.1 dX6_init_21 rfl (lv_at hl 0 rfl) ?_
  refine lv_bipush (v := (30 : Int32)) C.1 C.2.1 dX6_init_22 (by decide) ?_
  refine i_newa C hw (ty := .int) (wc w_214) rfl (fun _ _ h => h) 0 rfl (N' := 30) (a0 := (30, .inl (fun _ => 0))) (fun cA => by first | rfl | (rw [vp_cell_i]; rfl) | (rw [vp_cell_l]; rfl)) (by decide) (by decide) (by decide) (c1 := 3) (s1 := 420) rfl rfl (Nat.le_of_ble_eq_true rfl) (Nat.le_of_ble_eq_true rfl) dX6_init_24 (fun q24 H hw => ?_)
  refine i_putF (ci := 6) C hin hw (inC inW6) tyX6 tyX6_ok nmX6 0 rfl rfl 3 (by decide) (wc w_234) rfl rfl (ty := .array .int) (by decide +kernel) rfl rfl (Nat.le_of_ble_eq_true rfl) (ws' := (a, .inr (6, [.int 0, .ref q8, .ref q16, .ref q24, .null, .null, .null])) :: (q24, .inl (cI, 30, .inl (fun _ => 0))) :: (q16, .inl (cI, 30, .inl (fun _ => 0))) :: (q8, .inl (cI, 360, .inl (fun _ => 0))) :: []) rfl dX6_init_26 (fun H locs hw => ?_)
  refine lv_aload_n C.1 C.2.1 dX6_init_29 rfl (lv_at hl 0 rfl) ?_
  refine lv_bipush (v := (30 : Int32)) C.1 C.2.1 dX6_init_30 (by decide) ?_
  refine i_newa C hw (ty := .int) (wc w_214) rfl (fun _ _ h => h) 0 rfl (N' := 30) (a0 := (30, .inl (fun _ => 0))) (fun cA => by first | rfl | (rw [vp_cell_i]; rfl) | (rw [vp_cell_l]; rfl)) (by decide) (by decide) (by decide) (c1 := 4) (s1 := 450) rfl rfl (Nat.le_of_ble_eq_true rfl) (Nat.le_of_ble_eq_true rfl) dX6_init_32 (fun q32 H hw => ?_)
  refine i_putF (ci := 6) C hin hw (inC inW6) tyX6 tyX6_ok nmX6 0 rfl rfl 4 (by decide) (wc w_235) rfl rfl (ty := .array .int) (by decide +kernel) rfl rfl (Nat.le_of_ble_eq_true rfl) (ws' := (a, .inr (6, [.int 0, .ref q8, .ref q16, .ref q24, .ref q32, .null, .null])) :: (q32, .inl (cI, 30, .inl (fun _ => 0))) :: (q24, .inl (cI, 30, .inl (fun _ => 0))) :: (q16, .inl (cI, 30, .inl (fun _ => 0))) :: (q8, .inl (cI, 360, .inl (fun _ => 0))) :: []) rfl dX6_init_34 (fun H locs hw => ?_)
  refine lv_aload_n C.1 C.2.1 dX6_init_37 rfl (lv_at hl 0 rfl) ?_
  refine lv_bipush (v := (30 : Int32)) C.1 C.2.1 dX6_init_38 (by decide) ?_
  refine i_newa C hw (ty := .int) (wc w_214) rfl (fun _ _ h => h) 0 rfl (N' := 30) (a0 := (30, .inl (fun _ => 0))) (fun cA => by first | rfl | (rw [vp_cell_i]; rfl) | (rw [vp_cell_l]; rfl)) (by decide) (by decide) (by decide) (c1 := 5) (s1 := 480) rfl rfl (Nat.le_of_ble_eq_true rfl) (Nat.le_of_ble_eq_true rfl) dX6_init_40 (fun q40 H hw => ?_)
  refine i_putF (ci := 6) C hin hw (inC inW6) tyX6 tyX6_ok nmX6 0 rfl rfl 5 (by decide) (wc w_236) rfl rfl (ty := .array .int) (by decide +kernel) rfl rfl (Nat.le_of_ble_eq_true rfl) (ws' := (a, .inr (6, [.int 0, .ref q8, .ref q16, .ref q24, .ref q32, .ref q40, .null])) :: (q40, .inl (cI, 30, .inl (fun _ => 0))) :: (q32, .inl (cI, 30, .inl (fun _ => 0))) :: (q24, .inl (cI, 30, .inl (fun _ => 0))) :: (q16, .inl (cI, 30, .inl (fun _ => 0))) :: (q8, .inl (cI, 360, .inl (fun _ => 0))) :: []) rfl dX6_init_42 (fun H locs hw => ?_)
  refine lv_aload_n C.1 C.2.1 dX6_init_45 rfl (lv_at hl 0 rfl) ?_
  refine lv_bipush (v := (30 : Int32)) C.1 C.2.1 dX6_init_46 (by decide) ?_
  refine i_newa C hw (ty := .int) (wc w_214) rfl (fun _ _ h => h) 0 rfl (N' := 30) (a0 := (30, .inl (fun _ => 0))) (fun cA => by first | rfl | (rw [vp_cell_i]; rfl) | (rw [vp_cell_l]; rfl)) (by decide) (by decide) (by decide) (c1 := 6) (s1 := 510) rfl rfl (Nat.le_of_ble_eq_true rfl) (Nat.le_of_ble_eq_true rfl) dX6_init_48 (fun q48 H hw => ?_)
  refine i_putF (ci := 6) C hin hw (inC inW6) tyX6 tyX6_ok nmX6 0 rfl rfl 6 (by decide) (wc w_237) rfl rfl (ty := .array .int) (by decide +kernel) rfl rfl (Nat.le_of_ble_eq_true rfl) (ws' := (a, .inr (6, [.int 0, .ref q8, .ref q16, .ref q24, .ref q32, .ref q40, .ref q48])) :: (q48, .inl (cI, 30, .inl (fun _ => 0))) :: (q40, .inl (cI, 30, .inl (fun _ => 0))) :: (q32, .inl (cI, 30, .inl (fun _ => 0))) :: (q24, .inl (cI, 30, .inl (fun _ => 0))) :: (q16, .inl (cI, 30, .inl (fun _ => 0))) :: (q8, .inl (cI, 360, .inl (fun _ => 0))) :: []) rfl dX6_init_50 (fun H locs hw => ?_)
  have hw : Wd D A s (T0 cI cZ cL cF cM) (bX6 cI cZ cL cF cM a (fun j => [q48, q40, q32, q24, q16, q8].getD j 0)) _ _ := hw
  exact hR _ _ (fun j => [q48, q40, q32, q24, q16, q8].getD j 0) _ _ dX6_init_53 trivial hw
abbrev bX9 (cI cZ cL cF cM : ClassId) (a : Nat) (u : Nat → Nat) : va_W := (a, .inr (9, [.int 0, .int 0, .int (-1 : Int32), .int 0, .int 0, .int 0, .int (-1 : Int32), .ref (u 4), .ref (u 3), .ref (u 2), .ref (u 1), .ref (u 0), .int 0, .int 0, .int 0, .int 0])) :: ((u 0), .inl (cI, 501, .inl (fun _ => 0))) :: ((u 1), .inl (cI, 501, .inl (fun _ => 0))) :: ((u 2), .inl (cI, 501, .inl (fun _ => 0))) :: ((u 3), .inl (cI, 501, .inl (fun _ => 0))) :: ((u 4), .inl (cI, 500, .inl (fun _ => 0))) :: []
abbrev iX9_rm : Room := { frames := 1, cells := 5, slots := 2504, locals := 12 }
set_option maxHeartbeats 4000000 in
set_option maxRecDepth 100000 in
theorem iX9 (l : Launch) (D : va_G) (cI cZ cL cF cM : ClassId) (a : Nat) : Cn 5 2504 l yX9_init wsX9_init iX9_rm [.ref a] D (T0 cI cZ cL cF cM) [(a, .inr (9, [.int 0, .int 0, .int 0, .int 0, .int 0, .int 0, .int 0, .null, .null, .null, .null, .null, .int 0, .int 0, .int 0, .int 0]))] (fun u : Nat → Nat => bX9 cI cZ cL cF cM a u) (fun _ => True) := by
  refine Cn_of (cc := cX9_init) (maxL := 1) (by decide) rfl (Nat.le_of_ble_eq_true rfl) ?_
  intro p e s m below meth c A Q C hin hw hR ls hl
  have hin : meth.name = "<init>" := hin
  have hl : lv_has ls 1 [(0, .ref a)] := hl
  refine lv_aload_n C.1 C.2.1 dX9_init_0 rfl (lv_at hl 0 rfl) ?_
  refine W.objInit C.1 C.2.1 C.2.2.2.1 (C.2.2.2.2 _ (wc w_151)) (C.2.2.2.2 _ (wc w_144)) (C.2.2.2.2 _ (wc w_145)) rfl (by rw [C.2.2.1]; exact hl.1) rfl dX9_init_1 (Nat.le_of_ble_eq_true rfl) (Nat.le_of_ble_eq_true rfl) ?_
  refine W.eq (g2 := F0 m 4 ls []) rfl ?_
  refine lv_aload_n C.1 C.2.1 dX9_init_4 rfl (lv_at hl 0 rfl) ?_
  refine lv_iconst (v := (-1 : Int32)) C.1 C.2.1 dX9_init_5 (by decide) ?_
  refine wd_put (ci := 9) C hw (inC inW9) tyX9 tyX9_ok nmX9 0 rfl rfl 2 (by decide) (wc w_158) rfl (ty := .int) (v := .int (-1 : Int32)) (by decide +kernel) rfl rfl (Nat.le_of_ble_eq_true rfl) (ws' := (a, .inr (9, [.int 0, .int 0, .int (-1 : Int32), .int 0, .int 0, .int 0, .int 0, .null, .null, .null, .null, .null, .int 0, .int 0, .int 0, .int 0])) :: []) rfl dX9_init_6 (fun H locs hw => ?_)
  refine lv_aload_n C.1 C.2.1 dX9_init_9 rfl (lv_at hl 0 rfl) ?_
  refine lv_iconst (v := (-1 : Int32)) C.1 C.2.1 dX9_init_10 (by decide) ?_
  refine wd_put (ci := 9) C hw (inC inW9) tyX9 tyX9_ok nmX9 0 rfl rfl 6 (by decide) (wc w_169) rfl (ty := .int) (v := .int (-1 : Int32)) (by decide +kernel) rfl rfl (Nat.le_of_ble_eq_true rfl) (ws' := (a, .inr (9, [.int 0, .int 0, .int (-1 : Int32), .int 0, .int 0, .int 0, .int (-1 : Int32), .null, .null, .null, .null, .null, .int 0, .int 0, .int 0, .int 0])) :: []) rfl dX9_init_11 (fun H locs hw => ?_)
  refine lv_aload_n C.1 C.2.1 dX9_init_14 rfl (lv_at hl 0 rfl) ?_
  refine lv_sipush (v := (500 : Int32)) C.1 C.2.1 dX9_init_15 (by decide) ?_
  refine i_newa C hw (ty := .int) (wc w_214) rfl (fun _ _ h => h) 0 rfl (N' := 500) (a0 := (500, .inl (fun _ => 0))) (fun cA => by first | rfl | (rw [vp_cell_i]; rfl) | (rw [vp_cell_l]; rfl)) (by decide) (by decide) (by decide) (c1 := 1) (s1 := 500) rfl rfl (Nat.le_of_ble_eq_true rfl) (Nat.le_of_ble_eq_true rfl) dX9_init_18 (fun q18 H hw => ?_)
  refine i_putF (ci := 9) C hin hw (inC inW9) tyX9 tyX9_ok nmX9 0 rfl rfl 7 (by decide) (wc w_172) rfl rfl (ty := .array .int) (by decide +kernel) rfl rfl (Nat.le_of_ble_eq_true rfl) (ws' := (a, .inr (9, [.int 0, .int 0, .int (-1 : Int32), .int 0, .int 0, .int 0, .int (-1 : Int32), .ref q18, .null, .null, .null, .null, .int 0, .int 0, .int 0, .int 0])) :: (q18, .inl (cI, 500, .inl (fun _ => 0))) :: []) rfl dX9_init_20 (fun H locs hw => ?_)
  refine lv_aload_n C.1 C.2.1 dX9_init_23 rfl (lv_at hl 0 rfl) ?_
  refine lv_sipush (v := (501 : Int32)) C.1 C.2.1 dX9_init_24 (by decide) ?_
  refine i_newa C hw (ty := .int) (wc w_214) rfl (fun _ _ h => h) 0 rfl (N' := 501) (a0 := (501, .inl (fun _ => 0))) (fun cA => by first | rfl | (rw [vp_cell_i]; rfl) | (rw [vp_cell_l]; rfl)) (by decide) (by decide) (by decide) (c1 := 2) (s1 := 1001) rfl rfl (Nat.le_of_ble_eq_true rfl) (Nat.le_of_ble_eq_true rfl) dX9_init_27 (fun q27 H hw => ?_)
  refine i_putF (ci := 9) C hin hw (inC inW9) tyX9 tyX9_ok nmX9 0 rfl rfl 8 (by decide) (wc w_173) rfl rfl (ty := .array .int) (by decide +kernel) rfl rfl (Nat.le_of_ble_eq_true rfl) (ws' := (a, .inr (9, [.int 0, .int 0, .int (-1 : Int32), .int 0, .int 0, .int 0, .int (-1 : Int32), .ref q18, .ref q27, .null, .null, .null, .int 0, .int 0, .int 0, .int 0])) :: (q27, .inl (cI, 501, .inl (fun _ => 0))) :: (q18, .inl (cI, 500, .inl (fun _ => 0))) :: []) rfl dX9_init_29 (fun H locs hw => ?_)
  refine lv_aload_n C.1 C.2.1 dX9_init_32 rfl (lv_at hl 0 rfl) ?_
  refine lv_sipush (v := (501 : Int32)) C.1 C.2.1 dX9_init_33 (by decide) ?_
  refine i_newa C hw (ty := .int) (wc w_214) rfl (fun _ _ h => h) 0 rfl (N' := 501) (a0 := (501, .inl (fun _ => 0))) (fun cA => by first | rfl | (rw [vp_cell_i]; rfl) | (rw [vp_cell_l]; rfl)) (by decide) (by decide) (by decide) (c1 := 3) (s1 := 1502) rfl rfl (Nat.le_of_ble_eq_true rfl) (Nat.le_of_ble_eq_true rfl) dX9_init_36 (fun q36 H hw => ?_)
  refine i_putF (ci := 9) C hin hw (inC inW9) tyX9 tyX9_ok nmX9 0 rfl rfl 9 (by decide) (wc w_174) rfl rfl (ty := .array .int) (by decide +kernel) rfl rfl (Nat.le_of_ble_eq_true rfl) (ws' := (a, .inr (9, [.int 0, .int 0, .int (-1 : Int32), .int 0, .int 0, .int 0, .int (-1 : Int32), .ref q18, .ref q27, .ref q36, .null, .null, .int 0, .int 0, .int 0, .int 0])) :: (q36, .inl (cI, 501, .inl (fun _ => 0))) :: (q27, .inl (cI, 501, .inl (fun _ => 0))) :: (q18, .inl (cI, 500, .inl (fun _ => 0))) :: []) rfl dX9_init_38 (fun H locs hw => ?_)
  refine lv_aload_n C.1 C.2.1 dX9_init_41 rfl (lv_at hl 0 rfl) ?_
  refine lv_sipush (v := (501 : Int32)) C.1 C.2.1 dX9_init_42 (by decide) ?_
  refine i_newa C hw (ty := .int) (wc w_214) rfl (fun _ _ h => h) 0 rfl (N' := 501) (a0 := (501, .inl (fun _ => 0))) (fun cA => by first | rfl | (rw [vp_cell_i]; rfl) | (rw [vp_cell_l]; rfl)) (by decide) (by decide) (by decide) (c1 := 4) (s1 := 2003) rfl rfl (Nat.le_of_ble_eq_true rfl) (Nat.le_of_ble_eq_true rfl) dX9_init_45 (fun q45 H hw => ?_)
  refine i_putF (ci := 9) C hin hw (inC inW9) tyX9 tyX9_ok nmX9 0 rfl rfl 10 (by decide) (wc w_175) rfl rfl (ty := .array .int) (by decide +kernel) rfl rfl (Nat.le_of_ble_eq_true rfl) (ws' := (a, .inr (9, [.int 0, .int 0, .int (-1 : Int32), .int 0, .int 0, .int 0, .int (-1 : Int32), .ref q18, .ref q27, .ref q36, .ref q45, .null, .int 0, .int 0, .int 0, .int 0])) :: (q45, .inl (cI, 501, .inl (fun _ => 0))) :: (q36, .inl (cI, 501, .inl (fun _ => 0))) :: (q27, .inl (cI, 501, .inl (fun _ => 0))) :: (q18, .inl (cI, 500, .inl (fun _ => 0))) :: []) rfl dX9_init_47 (fun H locs hw => ?_)
  refine lv_aload_n C.1 C.2.1 dX9_init_50 rfl (lv_at hl 0 rfl) ?_
  refine lv_sipush (v := (501 : Int32)) C.1 C.2.1 dX9_init_51 (by decide) ?_
  refine i_newa C hw (ty := .int) (wc w_214) rfl (fun _ _ h => h) 0 rfl (N' := 501) (a0 := (501, .inl (fun _ => 0))) (fun cA => by first | rfl | (rw [vp_cell_i]; rfl) | (rw [vp_cell_l]; rfl)) (by decide) (by decide) (by decide) (c1 := 5) (s1 := 2504) rfl rfl (Nat.le_of_ble_eq_true rfl) (Nat.le_of_ble_eq_true rfl) dX9_init_54 (fun q54 H hw => ?_)
  refine i_putF (ci := 9) C hin hw (inC inW9) tyX9 tyX9_ok nmX9 0 rfl rfl 11 (by decide) (wc w_176) rfl rfl (ty := .array .int) (by decide +kernel) rfl rfl (Nat.le_of_ble_eq_true rfl) (ws' := (a, .inr (9, [.int 0, .int 0, .int (-1 : Int32), .int 0, .int 0, .int 0, .int (-1 : Int32), .ref q18, .ref q27, .ref q36, .ref q45, .ref q54, .int 0, .int 0, .int 0, .int 0])) :: (q54, .inl (cI, 501, .inl (fun _ => 0))) :: (q45, .inl (cI, 501, .inl (fun _ => 0))) :: (q36, .inl (cI, 501, .inl (fun _ => 0))) :: (q27, .inl (cI, 501, .inl (fun _ => 0))) :: (q18, .inl (cI, 500, .inl (fun _ => 0))) :: []) rfl dX9_init_56 (fun H locs hw => ?_)
  have hw : Wd D A s (T0 cI cZ cL cF cM) (bX9 cI cZ cL cF cM a (fun j => [q54, q45, q36, q27, q18].getD j 0)) _ _ := hw
  exact hR _ _ (fun j => [q54, q45, q36, q27, q18].getD j 0) _ _ dX9_init_59 trivial hw
abbrev bX3 (cI cZ cL cF cM : ClassId) (a : Nat) (u : Nat → Nat) : va_W := (a, .inr (3, [.int 0, .int 0, .int 0, .int 0, .long 0, .long 0, .int (-1 : Int32), .int 0, .int 0, .ref (u 0)])) :: ((u 0), .inl (cL, 3, .inr (.inl (fun _ => 0)))) :: []
abbrev iX3_rm : Room := { frames := 1, cells := 1, slots := 3, locals := 12 }
set_option maxHeartbeats 4000000 in
set_option maxRecDepth 100000 in
theorem iX3 (l : Launch) (D : va_G) (cI cZ cL cF cM : ClassId) (a : Nat) : Cn 1 3 l yX3_init wsX3_init iX3_rm [.ref a] D (T0 cI cZ cL cF cM) [(a, .inr (3, [.int 0, .int 0, .int 0, .int 0, .long 0, .long 0, .int 0, .int 0, .int 0, .null]))] (fun u : Nat → Nat => bX3 cI cZ cL cF cM a u) (fun _ => True) := by
  refine Cn_of (cc := cX3_init) (maxL := 1) (by decide) rfl (Nat.le_of_ble_eq_true rfl) ?_
  intro p e s m below meth c A Q C hin hw hR ls hl
  have hin : meth.name = "<init>" := hin
  have hl : lv_has ls 1 [(0, .ref a)] := hl
  refine lv_aload_n C.1 C.2.1 dX3_init_0 rfl (lv_at hl 0 rfl) ?_
  refine W.objInit C.1 C.2.1 C.2.2.2.1 (C.2.2.2.2 _ (wc w_391)) (C.2.2.2.2 _ (wc w_144)) (C.2.2.2.2 _ (wc w_145)) rfl (by rw [C.2.2.1]; exact hl.1) rfl dX3_init_1 (Nat.le_of_ble_eq_true rfl) (Nat.le_of_ble_eq_true rfl) ?_
  refine W.eq (g2 := F0 m 4 ls []) rfl ?_
  refine lv_aload_n C.1 C.2.1 dX3_init_4 rfl (lv_at hl 0 rfl) ?_
  refine lv_iconst (v := (-1 : Int32)) C.1 C.2.1 dX3_init_5 (by decide) ?_
  refine wd_put (ci := 3) C hw (inC inW3) tyX3 tyX3_ok nmX3 0 rfl rfl 6 (by decide) (wc w_405) rfl (ty := .int) (v := .int (-1 : Int32)) (by decide +kernel) rfl rfl (Nat.le_of_ble_eq_true rfl) (ws' := (a, .inr (3, [.int 0, .int 0, .int 0, .int 0, .long 0, .long 0, .int (-1 : Int32), .int 0, .int 0, .null])) :: []) rfl dX3_init_6 (fun H locs hw => ?_)
  refine lv_aload_n C.1 C.2.1 dX3_init_9 rfl (lv_at hl 0 rfl) ?_
  refine lv_iconst (v := (3 : Int32)) C.1 C.2.1 dX3_init_10 (by decide) ?_
  refine i_newa C hw (ty := .long) (wc w_385) rfl (fun _ _ h => h) 2 rfl (N' := 3) (a0 := (3, .inr (.inl (fun _ => 0)))) (fun cA => by first | rfl | (rw [vp_cell_i]; rfl) | (rw [vp_cell_l]; rfl)) (by decide) (by decide) (by decide) (c1 := 1) (s1 := 3) rfl rfl (Nat.le_of_ble_eq_true rfl) (Nat.le_of_ble_eq_true rfl) dX3_init_11 (fun q11 H hw => ?_)
  refine i_putF (ci := 3) C hin hw (inC inW3) tyX3 tyX3_ok nmX3 0 rfl rfl 9 (by decide) (wc w_411) rfl rfl (ty := .array .long) (by decide +kernel) rfl rfl (Nat.le_of_ble_eq_true rfl) (ws' := (a, .inr (3, [.int 0, .int 0, .int 0, .int 0, .long 0, .long 0, .int (-1 : Int32), .int 0, .int 0, .ref q11])) :: (q11, .inl (cL, 3, .inr (.inl (fun _ => 0)))) :: []) rfl dX3_init_13 (fun H locs hw => ?_)
  have hw : Wd D A s (T0 cI cZ cL cF cM) (bX3 cI cZ cL cF cM a (fun j => [q11].getD j 0)) _ _ := hw
  exact hR _ _ (fun j => [q11].getD j 0) _ _ dX3_init_16 trivial hw
abbrev iclr_rm : Room := { frames := 1, cells := 0, slots := 0, locals := 12 }
set_option maxHeartbeats 4000000 in
set_option maxRecDepth 100000 in
theorem iclr (l : Launch) (D : va_G) (cI cZ cL cF cM : ClassId) (a q1 q2 q3 : Nat) : Cn 0 0 l yX1_clearWalls wsX1_clearWalls iclr_rm [.ref a] D (T0 cI cZ cL cF cM) [(a, .inr (1, [.int (5 : Int32), .int (5 : Int32), .int (25 : Int32), .int (24 : Int32), .ref q1, .ref q2, .ref q3])), (q3, .inl (cL, 4, .inr (.inl (vp_updL (vp_updL (vp_updL (vp_updL (fun _ => 0) 0 (31 : Int64)) 1 (17318416 : Int64)) 2 (32505856 : Int64)) 3 (1082401 : Int64))))), (q2, .inl (cI, 4, .inl (upd (upd (upd (upd (fun _ => 0) 0 (-5 : Int32)) 1 (1 : Int32)) 2 (5 : Int32)) 3 (-1 : Int32)))), (q1, .inl (cL, 4, .inr (.inl (fun _ => 0))))] (fun u : Unit => [(a, .inr (1, [.int (5 : Int32), .int (5 : Int32), .int (25 : Int32), .int (24 : Int32), .ref q1, .ref q2, .ref q3])), (q3, .inl (cL, 4, .inr (.inl (vp_updL (vp_updL (vp_updL (vp_updL (fun _ => 0) 0 (31 : Int64)) 1 (17318416 : Int64)) 2 (32505856 : Int64)) 3 (1082401 : Int64))))), (q2, .inl (cI, 4, .inl (upd (upd (upd (upd (fun _ => 0) 0 (-5 : Int32)) 1 (1 : Int32)) 2 (5 : Int32)) 3 (-1 : Int32)))), (q1, .inl (cL, 4, .inr (.inl (vp_updL (vp_updL (vp_updL (vp_updL (fun _ => 0) 0 (31 : Int64)) 1 (17318416 : Int64)) 2 (32505856 : Int64)) 3 (1082401 : Int64)))))]) (fun _ => True) := by
  refine Cn_of (cc := cX1_clearWalls) (maxL := 2) (by decide) rfl (Nat.le_of_ble_eq_true rfl) ?_
  intro p e s m below meth c A Q C hin hw hR ls hl
  have hl : lv_has ls 2 [(0, .ref a)] := hl
  refine lv_iconst (v := (0 : Int32)) C.1 C.2.1 dX1_clearWalls_0 (by decide) ?_
  refine lv_istore_n (lv' := [(1, .int (0 : Int32)), (0, .ref a)]) C.1 C.2.1 dX1_clearWalls_1 rfl hl (by decide) rfl (fun ls hl => ?_)
  refine lv_iload_n C.1 C.2.1 dX1_clearWalls_2 rfl (lv_at hl 0 rfl) ?_
  refine lv_iconst (v := (4 : Int32)) C.1 C.2.1 dX1_clearWalls_3 (by decide) ?_
  refine lv_icmp_ge (tgt := 25) C.1 C.2.1 dX1_clearWalls_4 (by decide) (fun c_ => False.elim (by revert c_; decide)) (fun _ => ?_)
  refine lv_aload_n C.1 C.2.1 dX1_clearWalls_7 rfl (lv_at hl 1 rfl) ?_
  refine wd_get (ci := 1) C hw (inC inW1) 0 rfl rfl 4 (by decide) (wc w_365) (v := .ref q1) rfl dX1_clearWalls_8 ?_
  refine lv_iload_n C.1 C.2.1 dX1_clearWalls_11 rfl (lv_at hl 0 rfl) ?_
  refine lv_aload_n C.1 C.2.1 dX1_clearWalls_12 rfl (lv_at hl 1 rfl) ?_
  refine wd_get (ci := 1) C hw (inC inW1) 0 rfl rfl 6 (by decide) (wc w_369) (v := .ref q3) rfl dX1_clearWalls_13 ?_
  refine lv_iload_n C.1 C.2.1 dX1_clearWalls_16 rfl (lv_at hl 0 rfl) ?_
  refine wd_lal C hw 1 2 (f := (vp_updL (vp_updL (vp_updL (vp_updL (fun _ => 0) 0 (31 : Int64)) 1 (17318416 : Int64)) 2 (32505856 : Int64)) 3 (1082401 : Int64))) rfl rfl (by unfold vp_in; decide) dX1_clearWalls_17 ?_
  refine wd_las C hw 3 2 rfl rfl (by unfold vp_in; decide) (ws' := (a, .inr (1, [.int (5 : Int32), .int (5 : Int32), .int (25 : Int32), .int (24 : Int32), .ref q1, .ref q2, .ref q3])) :: (q3, .inl (cL, 4, .inr (.inl (vp_updL (vp_updL (vp_updL (vp_updL (fun _ => 0) 0 (31 : Int64)) 1 (17318416 : Int64)) 2 (32505856 : Int64)) 3 (1082401 : Int64))))) :: (q2, .inl (cI, 4, .inl (upd (upd (upd (upd (fun _ => 0) 0 (-5 : Int32)) 1 (1 : Int32)) 2 (5 : Int32)) 3 (-1 : Int32)))) :: (q1, .inl (cL, 4, .inr (.inl (vp_updL (fun _ => 0) 0 (31 : Int64))))) :: []) rfl dX1_clearWalls_18 (fun H locs hw => ?_)
  refine lv_iinc (v := (1 : Int32)) (lv' := [(1, .int (1 : Int32)), (0, .ref a)]) C.1 C.2.1 dX1_clearWalls_19 hl (k := 0) rfl (by decide) (by decide) rfl (fun ls hl => ?_)
  refine lv_goto (tgt := 2) C.1 C.2.1 dX1_clearWalls_22 (by decide) ?_
  refine lv_iload_n C.1 C.2.1 dX1_clearWalls_2 rfl (lv_at hl 0 rfl) ?_
  refine lv_iconst (v := (4 : Int32)) C.1 C.2.1 dX1_clearWalls_3 (by decide) ?_
  refine lv_icmp_ge (tgt := 25) C.1 C.2.1 dX1_clearWalls_4 (by decide) (fun c_ => False.elim (by revert c_; decide)) (fun _ => ?_)
  refine lv_aload_n C.1 C.2.1 dX1_clearWalls_7 rfl (lv_at hl 1 rfl) ?_
  refine wd_get (ci := 1) C hw (inC inW1) 0 rfl rfl 4 (by decide) (wc w_365) (v := .ref q1) rfl dX1_clearWalls_8 ?_
  refine lv_iload_n C.1 C.2.1 dX1_clearWalls_11 rfl (lv_at hl 0 rfl) ?_
  refine lv_aload_n C.1 C.2.1 dX1_clearWalls_12 rfl (lv_at hl 1 rfl) ?_
  refine wd_get (ci := 1) C hw (inC inW1) 0 rfl rfl 6 (by decide) (wc w_369) (v := .ref q3) rfl dX1_clearWalls_13 ?_
  refine lv_iload_n C.1 C.2.1 dX1_clearWalls_16 rfl (lv_at hl 0 rfl) ?_
  refine wd_lal C hw 1 2 (f := (vp_updL (vp_updL (vp_updL (vp_updL (fun _ => 0) 0 (31 : Int64)) 1 (17318416 : Int64)) 2 (32505856 : Int64)) 3 (1082401 : Int64))) rfl rfl (by unfold vp_in; decide) dX1_clearWalls_17 ?_
  refine wd_las C hw 3 2 rfl rfl (by unfold vp_in; decide) (ws' := (a, .inr (1, [.int (5 : Int32), .int (5 : Int32), .int (25 : Int32), .int (24 : Int32), .ref q1, .ref q2, .ref q3])) :: (q3, .inl (cL, 4, .inr (.inl (vp_updL (vp_updL (vp_updL (vp_updL (fun _ => 0) 0 (31 : Int64)) 1 (17318416 : Int64)) 2 (32505856 : Int64)) 3 (1082401 : Int64))))) :: (q2, .inl (cI, 4, .inl (upd (upd (upd (upd (fun _ => 0) 0 (-5 : Int32)) 1 (1 : Int32)) 2 (5 : Int32)) 3 (-1 : Int32)))) :: (q1, .inl (cL, 4, .inr (.inl (vp_updL (vp_updL (fun _ => 0) 0 (31 : Int64)) 1 (17318416 : Int64))))) :: []) rfl dX1_clearWalls_18 (fun H locs hw => ?_)
  refine lv_iinc (v := (2 : Int32)) (lv' := [(1, .int (2 : Int32)), (0, .ref a)]) C.1 C.2.1 dX1_clearWalls_19 hl (k := 0) rfl (by decide) (by decide) rfl (fun ls hl => ?_)
  refine lv_goto (tgt := 2) C.1 C.2.1 dX1_clearWalls_22 (by decide) ?_
  refine lv_iload_n C.1 C.2.1 dX1_clearWalls_2 rfl (lv_at hl 0 rfl) ?_
  refine lv_iconst (v := (4 : Int32)) C.1 C.2.1 dX1_clearWalls_3 (by decide) ?_
  refine lv_icmp_ge (tgt := 25) C.1 C.2.1 dX1_clearWalls_4 (by decide) (fun c_ => False.elim (by revert c_; decide)) (fun _ => ?_)
  refine lv_aload_n C.1 C.2.1 dX1_clearWalls_7 rfl (lv_at hl 1 rfl) ?_
  refine wd_get (ci := 1) C hw (inC inW1) 0 rfl rfl 4 (by decide) (wc w_365) (v := .ref q1) rfl dX1_clearWalls_8 ?_
  refine lv_iload_n C.1 C.2.1 dX1_clearWalls_11 rfl (lv_at hl 0 rfl) ?_
  refine lv_aload_n C.1 C.2.1 dX1_clearWalls_12 rfl (lv_at hl 1 rfl) ?_
  refine wd_get (ci := 1) C hw (inC inW1) 0 rfl rfl 6 (by decide) (wc w_369) (v := .ref q3) rfl dX1_clearWalls_13 ?_
  refine lv_iload_n C.1 C.2.1 dX1_clearWalls_16 rfl (lv_at hl 0 rfl) ?_
  refine wd_lal C hw 1 2 (f := (vp_updL (vp_updL (vp_updL (vp_updL (fun _ => 0) 0 (31 : Int64)) 1 (17318416 : Int64)) 2 (32505856 : Int64)) 3 (1082401 : Int64))) rfl rfl (by unfold vp_in; decide) dX1_clearWalls_17 ?_
  refine wd_las C hw 3 2 rfl rfl (by unfold vp_in; decide) (ws' := (a, .inr (1, [.int (5 : Int32), .int (5 : Int32), .int (25 : Int32), .int (24 : Int32), .ref q1, .ref q2, .ref q3])) :: (q3, .inl (cL, 4, .inr (.inl (vp_updL (vp_updL (vp_updL (vp_updL (fun _ => 0) 0 (31 : Int64)) 1 (17318416 : Int64)) 2 (32505856 : Int64)) 3 (1082401 : Int64))))) :: (q2, .inl (cI, 4, .inl (upd (upd (upd (upd (fun _ => 0) 0 (-5 : Int32)) 1 (1 : Int32)) 2 (5 : Int32)) 3 (-1 : Int32)))) :: (q1, .inl (cL, 4, .inr (.inl (vp_updL (vp_updL (vp_updL (fun _ => 0) 0 (31 : Int64)) 1 (17318416 : Int64)) 2 (32505856 : Int64))))) :: []) rfl dX1_clearWalls_18 (fun H locs hw => ?_)
  refine lv_iinc (v := (3 : Int32)) (lv' := [(1, .int (3 : Int32)), (0, .ref a)]) C.1 C.2.1 dX1_clearWalls_19 hl (k := 0) rfl (by decide) (by decide) rfl (fun ls hl => ?_)
  refine lv_goto (tgt := 2) C.1 C.2.1 dX1_clearWalls_22 (by decide) ?_
  refine lv_iload_n C.1 C.2.1 dX1_clearWalls_2 rfl (lv_at hl 0 rfl) ?_
  refine lv_iconst (v := (4 : Int32)) C.1 C.2.1 dX1_clearWalls_3 (by decide) ?_
  refine lv_icmp_ge (tgt := 25) C.1 C.2.1 dX1_clearWalls_4 (by decide) (fun c_ => False.elim (by revert c_; decide)) (fun _ => ?_)
  refine lv_aload_n C.1 C.2.1 dX1_clearWalls_7 rfl (lv_at hl 1 rfl) ?_
  refine wd_get (ci := 1) C hw (inC inW1) 0 rfl rfl 4 (by decide) (wc w_365) (v := .ref q1) rfl dX1_clearWalls_8 ?_
  refine lv_iload_n C.1 C.2.1 dX1_clearWalls_11 rfl (lv_at hl 0 rfl) ?_
  refine lv_aload_n C.1 C.2.1 dX1_clearWalls_12 rfl (lv_at hl 1 rfl) ?_
  refine wd_get (ci := 1) C hw (inC inW1) 0 rfl rfl 6 (by decide) (wc w_369) (v := .ref q3) rfl dX1_clearWalls_13 ?_
  refine lv_iload_n C.1 C.2.1 dX1_clearWalls_16 rfl (lv_at hl 0 rfl) ?_
  refine wd_lal C hw 1 2 (f := (vp_updL (vp_updL (vp_updL (vp_updL (fun _ => 0) 0 (31 : Int64)) 1 (17318416 : Int64)) 2 (32505856 : Int64)) 3 (1082401 : Int64))) rfl rfl (by unfold vp_in; decide) dX1_clearWalls_17 ?_
  refine wd_las C hw 3 2 rfl rfl (by unfold vp_in; decide) (ws' := (a, .inr (1, [.int (5 : Int32), .int (5 : Int32), .int (25 : Int32), .int (24 : Int32), .ref q1, .ref q2, .ref q3])) :: (q3, .inl (cL, 4, .inr (.inl (vp_updL (vp_updL (vp_updL (vp_updL (fun _ => 0) 0 (31 : Int64)) 1 (17318416 : Int64)) 2 (32505856 : Int64)) 3 (1082401 : Int64))))) :: (q2, .inl (cI, 4, .inl (upd (upd (upd (upd (fun _ => 0) 0 (-5 : Int32)) 1 (1 : Int32)) 2 (5 : Int32)) 3 (-1 : Int32)))) :: (q1, .inl (cL, 4, .inr (.inl (vp_updL (vp_updL (vp_updL (vp_updL (fun _ => 0) 0 (31 : Int64)) 1 (17318416 : Int64)) 2 (32505856 : Int64)) 3 (1082401 : Int64))))) :: []) rfl dX1_clearWalls_18 (fun H locs hw => ?_)
  refine lv_iinc (v := (4 : Int32)) (lv' := [(1, .int (4 : Int32)), (0, .ref a)]) C.1 C.2.1 dX1_clearWalls_19 hl (k := 0) rfl (by decide) (by decide) rfl (fun ls hl => ?_)
  refine lv_goto (tgt := 2) C.1 C.2.1 dX1_clearWalls_22 (by decide) ?_
  refine lv_iload_n C.1 C.2.1 dX1_clearWalls_2 rfl (lv_at hl 0 rfl) ?_
  refine lv_iconst (v := (4 : Int32)) C.1 C.2.1 dX1_clearWalls_3 (by decide) ?_
  refine lv_icmp_ge (tgt := 25) C.1 C.2.1 dX1_clearWalls_4 (by decide) (fun _ => ?_) (fun c_ => False.elim (by revert c_; decide))
  exact hR _ _ () _ _ dX1_clearWalls_25 trivial hw
abbrev ilay_rm : Room := { frames := 2, cells := 0, slots := 0, locals := 33 }
set_option maxHeartbeats 4000000 in
set_option maxRecDepth 100000 in
theorem ilay (l : Launch) (D : va_G) (cI cZ cL cF cM : ClassId) (a q1 q2 q3 : Nat) : Cn 0 0 l yX1_lay wsX1_lay ilay_rm [.ref a, .int 5, .int 5] D (T0 cI cZ cL cF cM) [(a, .inr (1, [.int 0, .int 0, .int 0, .int 0, .ref q1, .ref q2, .ref q3])), (q3, .inl (cL, 4, .inr (.inl (fun _ => 0)))), (q2, .inl (cI, 4, .inl (fun _ => 0))), (q1, .inl (cL, 4, .inr (.inl (fun _ => 0))))] (fun u : Unit => [(a, .inr (1, [.int (5 : Int32), .int (5 : Int32), .int (25 : Int32), .int (24 : Int32), .ref q1, .ref q2, .ref q3])), (q3, .inl (cL, 4, .inr (.inl (vp_updL (vp_updL (vp_updL (vp_updL (fun _ => 0) 0 (31 : Int64)) 1 (17318416 : Int64)) 2 (32505856 : Int64)) 3 (1082401 : Int64))))), (q2, .inl (cI, 4, .inl (upd (upd (upd (upd (fun _ => 0) 0 (-5 : Int32)) 1 (1 : Int32)) 2 (5 : Int32)) 3 (-1 : Int32)))), (q1, .inl (cL, 4, .inr (.inl (vp_updL (vp_updL (vp_updL (vp_updL (fun _ => 0) 0 (31 : Int64)) 1 (17318416 : Int64)) 2 (32505856 : Int64)) 3 (1082401 : Int64)))))]) (fun _ => True) := by
  refine Cn_of (cc := cX1_lay) (maxL := 6) (by decide) rfl (Nat.le_of_ble_eq_true rfl) ?_
  intro p e s m below meth c A Q C hin hw hR ls hl
  have hl : lv_has ls 6 [(0, .ref a), (1, .int (5 : Int32)), (2, .int (5 : Int32))] := hl
  refine lv_aload_n C.1 C.2.1 dX1_lay_0 rfl (lv_at hl 0 rfl) ?_
  refine lv_iload_n C.1 C.2.1 dX1_lay_1 rfl (lv_at hl 1 rfl) ?_
  refine wd_put (ci := 1) C hw (inC inW1) tyX1 tyX1_ok nmX1 0 rfl rfl 0 (by decide) (wc w_356) rfl (ty := .int) (v := .int (5 : Int32)) (by decide +kernel) rfl rfl (Nat.le_of_ble_eq_true rfl) (ws' := (a, .inr (1, [.int (5 : Int32), .int 0, .int 0, .int 0, .ref q1, .ref q2, .ref q3])) :: (q3, .inl (cL, 4, .inr (.inl (fun _ => 0)))) :: (q2, .inl (cI, 4, .inl (fun _ => 0))) :: (q1, .inl (cL, 4, .inr (.inl (fun _ => 0)))) :: []) rfl dX1_lay_2 (fun H locs hw => ?_)
  refine lv_aload_n C.1 C.2.1 dX1_lay_5 rfl (lv_at hl 0 rfl) ?_
  refine lv_iload_n C.1 C.2.1 dX1_lay_6 rfl (lv_at hl 2 rfl) ?_
  refine wd_put (ci := 1) C hw (inC inW1) tyX1 tyX1_ok nmX1 0 rfl rfl 1 (by decide) (wc w_357) rfl (ty := .int) (v := .int (5 : Int32)) (by decide +kernel) rfl rfl (Nat.le_of_ble_eq_true rfl) (ws' := (a, .inr (1, [.int (5 : Int32), .int (5 : Int32), .int 0, .int 0, .ref q1, .ref q2, .ref q3])) :: (q3, .inl (cL, 4, .inr (.inl (fun _ => 0)))) :: (q2, .inl (cI, 4, .inl (fun _ => 0))) :: (q1, .inl (cL, 4, .inr (.inl (fun _ => 0)))) :: []) rfl dX1_lay_7 (fun H locs hw => ?_)
  refine lv_aload_n C.1 C.2.1 dX1_lay_10 rfl (lv_at hl 0 rfl) ?_
  refine lv_iload_n C.1 C.2.1 dX1_lay_11 rfl (lv_at hl 1 rfl) ?_
  refine lv_iload_n C.1 C.2.1 dX1_lay_12 rfl (lv_at hl 2 rfl) ?_
  refine lv_imul C.1 C.2.1 dX1_lay_13 ?_
  refine wd_put (ci := 1) C hw (inC inW1) tyX1 tyX1_ok nmX1 0 rfl rfl 2 (by decide) (wc w_358) rfl (ty := .int) (v := .int (25 : Int32)) (by decide +kernel) rfl rfl (Nat.le_of_ble_eq_true rfl) (ws' := (a, .inr (1, [.int (5 : Int32), .int (5 : Int32), .int (25 : Int32), .int 0, .ref q1, .ref q2, .ref q3])) :: (q3, .inl (cL, 4, .inr (.inl (fun _ => 0)))) :: (q2, .inl (cI, 4, .inl (fun _ => 0))) :: (q1, .inl (cL, 4, .inr (.inl (fun _ => 0)))) :: []) rfl dX1_lay_14 (fun H locs hw => ?_)
  refine lv_aload_n C.1 C.2.1 dX1_lay_17 rfl (lv_at hl 0 rfl) ?_
  refine lv_aload_n C.1 C.2.1 dX1_lay_18 rfl (lv_at hl 0 rfl) ?_
  refine wd_get (ci := 1) C hw (inC inW1) 0 rfl rfl 2 (by decide) (wc w_358) (v := .int (25 : Int32)) rfl dX1_lay_19 ?_
  refine lv_iconst (v := (1 : Int32)) C.1 C.2.1 dX1_lay_22 (by decide) ?_
  refine lv_isub C.1 C.2.1 dX1_lay_23 ?_
  refine wd_put (ci := 1) C hw (inC inW1) tyX1 tyX1_ok nmX1 0 rfl rfl 3 (by decide) (wc w_361) rfl (ty := .int) (v := .int (24 : Int32)) (by decide +kernel) rfl rfl (Nat.le_of_ble_eq_true rfl) (ws' := (a, .inr (1, [.int (5 : Int32), .int (5 : Int32), .int (25 : Int32), .int (24 : Int32), .ref q1, .ref q2, .ref q3])) :: (q3, .inl (cL, 4, .inr (.inl (fun _ => 0)))) :: (q2, .inl (cI, 4, .inl (fun _ => 0))) :: (q1, .inl (cL, 4, .inr (.inl (fun _ => 0)))) :: []) rfl dX1_lay_24 (fun H locs hw => ?_)
  refine lv_lconst (v := (0 : Int64)) C.1 C.2.1 dX1_lay_27 (by decide) ?_
  refine lv_lstore_n (lv' := [(3, .long (0 : Int64)), (0, .ref a), (1, .int (5 : Int32)), (2, .int (5 : Int32))]) C.1 C.2.1 dX1_lay_28 rfl hl (by decide) rfl (fun ls hl => ?_)
  refine lv_iconst (v := (0 : Int32)) C.1 C.2.1 dX1_lay_29 (by decide) ?_
  refine lv_istore (lv' := [(5, .int (0 : Int32)), (3, .long (0 : Int64)), (0, .ref a), (1, .int (5 : Int32)), (2, .int (5 : Int32))]) C.1 C.2.1 dX1_lay_30 hl (by decide) rfl (fun ls hl => ?_)
  refine lv_iload C.1 C.2.1 dX1_lay_32 (lv_at hl 0 rfl) ?_
  refine lv_iload_n C.1 C.2.1 dX1_lay_34 rfl (lv_at hl 4 rfl) ?_
  refine lv_icmp_ge (tgt := 53) C.1 C.2.1 dX1_lay_35 (by decide) (fun c_ => False.elim (by revert c_; decide)) (fun _ => ?_)
  refine lv_lload_n C.1 C.2.1 dX1_lay_38 rfl (lv_at hl 1 rfl) ?_
  refine lv_lconst (v := (1 : Int64)) C.1 C.2.1 dX1_lay_39 (by decide) ?_
  refine lv_iload C.1 C.2.1 dX1_lay_40 (lv_at hl 0 rfl) ?_
  refine lv_iload_n C.1 C.2.1 dX1_lay_42 rfl (lv_at hl 3 rfl) ?_
  refine lv_imul C.1 C.2.1 dX1_lay_43 ?_
  refine lv_lshl (v := jlshl (1 : Int64) ((0 : Int32) * (5 : Int32))) C.1 C.2.1 dX1_lay_44 rfl ?_
  refine lv_lor C.1 C.2.1 dX1_lay_45 ?_
  refine lv_lstore_n (lv' := [(3, .long (1 : Int64)), (5, .int (0 : Int32)), (0, .ref a), (1, .int (5 : Int32)), (2, .int (5 : Int32))]) C.1 C.2.1 dX1_lay_46 rfl hl (by decide) rfl (fun ls hl => ?_)
  refine lv_iinc (v := (1 : Int32)) (lv' := [(5, .int (1 : Int32)), (3, .long (1 : Int64)), (0, .ref a), (1, .int (5 : Int32)), (2, .int (5 : Int32))]) C.1 C.2.1 dX1_lay_47 hl (k := 1) rfl (by decide) (by decide) rfl (fun ls hl => ?_)
  refine lv_goto (tgt := 32) C.1 C.2.1 dX1_lay_50 (by decide) ?_
  refine lv_iload C.1 C.2.1 dX1_lay_32 (lv_at hl 0 rfl) ?_
  refine lv_iload_n C.1 C.2.1 dX1_lay_34 rfl (lv_at hl 4 rfl) ?_
  refine lv_icmp_ge (tgt := 53) C.1 C.2.1 dX1_lay_35 (by decide) (fun c_ => False.elim (by revert c_; decide)) (fun _ => ?_)
  refine lv_lload_n C.1 C.2.1 dX1_lay_38 rfl (lv_at hl 1 rfl) ?_
  refine lv_lconst (v := (1 : Int64)) C.1 C.2.1 dX1_lay_39 (by decide) ?_
  refine lv_iload C.1 C.2.1 dX1_lay_40 (lv_at hl 0 rfl) ?_
  refine lv_iload_n C.1 C.2.1 dX1_lay_42 rfl (lv_at hl 3 rfl) ?_
  refine lv_imul C.1 C.2.1 dX1_lay_43 ?_
  refine lv_lshl (v := jlshl (1 : Int64) ((1 : Int32) * (5 : Int32))) C.1 C.2.1 dX1_lay_44 rfl ?_
  refine lv_lor C.1 C.2.1 dX1_lay_45 ?_
  refine lv_lstore_n (lv' := [(3, .long (33 : Int64)), (5, .int (1 : Int32)), (0, .ref a), (1, .int (5 : Int32)), (2, .int (5 : Int32))]) C.1 C.2.1 dX1_lay_46 rfl hl (by decide) rfl (fun ls hl => ?_)
  refine lv_iinc (v := (2 : Int32)) (lv' := [(5, .int (2 : Int32)), (3, .long (33 : Int64)), (0, .ref a), (1, .int (5 : Int32)), (2, .int (5 : Int32))]) C.1 C.2.1 dX1_lay_47 hl (k := 1) rfl (by decide) (by decide) rfl (fun ls hl => ?_)
  refine lv_goto (tgt := 32) C.1 C.2.1 dX1_lay_50 (by decide) ?_
  refine lv_iload C.1 C.2.1 dX1_lay_32 (lv_at hl 0 rfl) ?_
  refine lv_iload_n C.1 C.2.1 dX1_lay_34 rfl (lv_at hl 4 rfl) ?_
  refine lv_icmp_ge (tgt := 53) C.1 C.2.1 dX1_lay_35 (by decide) (fun c_ => False.elim (by revert c_; decide)) (fun _ => ?_)
  refine lv_lload_n C.1 C.2.1 dX1_lay_38 rfl (lv_at hl 1 rfl) ?_
  refine lv_lconst (v := (1 : Int64)) C.1 C.2.1 dX1_lay_39 (by decide) ?_
  refine lv_iload C.1 C.2.1 dX1_lay_40 (lv_at hl 0 rfl) ?_
  refine lv_iload_n C.1 C.2.1 dX1_lay_42 rfl (lv_at hl 3 rfl) ?_
  refine lv_imul C.1 C.2.1 dX1_lay_43 ?_
  refine lv_lshl (v := jlshl (1 : Int64) ((2 : Int32) * (5 : Int32))) C.1 C.2.1 dX1_lay_44 rfl ?_
  refine lv_lor C.1 C.2.1 dX1_lay_45 ?_
  refine lv_lstore_n (lv' := [(3, .long (1057 : Int64)), (5, .int (2 : Int32)), (0, .ref a), (1, .int (5 : Int32)), (2, .int (5 : Int32))]) C.1 C.2.1 dX1_lay_46 rfl hl (by decide) rfl (fun ls hl => ?_)
  refine lv_iinc (v := (3 : Int32)) (lv' := [(5, .int (3 : Int32)), (3, .long (1057 : Int64)), (0, .ref a), (1, .int (5 : Int32)), (2, .int (5 : Int32))]) C.1 C.2.1 dX1_lay_47 hl (k := 1) rfl (by decide) (by decide) rfl (fun ls hl => ?_)
  refine lv_goto (tgt := 32) C.1 C.2.1 dX1_lay_50 (by decide) ?_
  refine lv_iload C.1 C.2.1 dX1_lay_32 (lv_at hl 0 rfl) ?_
  refine lv_iload_n C.1 C.2.1 dX1_lay_34 rfl (lv_at hl 4 rfl) ?_
  refine lv_icmp_ge (tgt := 53) C.1 C.2.1 dX1_lay_35 (by decide) (fun c_ => False.elim (by revert c_; decide)) (fun _ => ?_)
  refine lv_lload_n C.1 C.2.1 dX1_lay_38 rfl (lv_at hl 1 rfl) ?_
  refine lv_lconst (v := (1 : Int64)) C.1 C.2.1 dX1_lay_39 (by decide) ?_
  refine lv_iload C.1 C.2.1 dX1_lay_40 (lv_at hl 0 rfl) ?_
  refine lv_iload_n C.1 C.2.1 dX1_lay_42 rfl (lv_at hl 3 rfl) ?_
  refine lv_imul C.1 C.2.1 dX1_lay_43 ?_
  refine lv_lshl (v := jlshl (1 : Int64) ((3 : Int32) * (5 : Int32))) C.1 C.2.1 dX1_lay_44 rfl ?_
  refine lv_lor C.1 C.2.1 dX1_lay_45 ?_
  refine lv_lstore_n (lv' := [(3, .long (33825 : Int64)), (5, .int (3 : Int32)), (0, .ref a), (1, .int (5 : Int32)), (2, .int (5 : Int32))]) C.1 C.2.1 dX1_lay_46 rfl hl (by decide) rfl (fun ls hl => ?_)
  refine lv_iinc (v := (4 : Int32)) (lv' := [(5, .int (4 : Int32)), (3, .long (33825 : Int64)), (0, .ref a), (1, .int (5 : Int32)), (2, .int (5 : Int32))]) C.1 C.2.1 dX1_lay_47 hl (k := 1) rfl (by decide) (by decide) rfl (fun ls hl => ?_)
  refine lv_goto (tgt := 32) C.1 C.2.1 dX1_lay_50 (by decide) ?_
  refine lv_iload C.1 C.2.1 dX1_lay_32 (lv_at hl 0 rfl) ?_
  refine lv_iload_n C.1 C.2.1 dX1_lay_34 rfl (lv_at hl 4 rfl) ?_
  refine lv_icmp_ge (tgt := 53) C.1 C.2.1 dX1_lay_35 (by decide) (fun c_ => False.elim (by revert c_; decide)) (fun _ => ?_)
  refine lv_lload_n C.1 C.2.1 dX1_lay_38 rfl (lv_at hl 1 rfl) ?_
  refine lv_lconst (v := (1 : Int64)) C.1 C.2.1 dX1_lay_39 (by decide) ?_
  refine lv_iload C.1 C.2.1 dX1_lay_40 (lv_at hl 0 rfl) ?_
  refine lv_iload_n C.1 C.2.1 dX1_lay_42 rfl (lv_at hl 3 rfl) ?_
  refine lv_imul C.1 C.2.1 dX1_lay_43 ?_
  refine lv_lshl (v := jlshl (1 : Int64) ((4 : Int32) * (5 : Int32))) C.1 C.2.1 dX1_lay_44 rfl ?_
  refine lv_lor C.1 C.2.1 dX1_lay_45 ?_
  refine lv_lstore_n (lv' := [(3, .long (1082401 : Int64)), (5, .int (4 : Int32)), (0, .ref a), (1, .int (5 : Int32)), (2, .int (5 : Int32))]) C.1 C.2.1 dX1_lay_46 rfl hl (by decide) rfl (fun ls hl => ?_)
  refine lv_iinc (v := (5 : Int32)) (lv' := [(5, .int (5 : Int32)), (3, .long (1082401 : Int64)), (0, .ref a), (1, .int (5 : Int32)), (2, .int (5 : Int32))]) C.1 C.2.1 dX1_lay_47 hl (k := 1) rfl (by decide) (by decide) rfl (fun ls hl => ?_)
  refine lv_goto (tgt := 32) C.1 C.2.1 dX1_lay_50 (by decide) ?_
  refine lv_iload C.1 C.2.1 dX1_lay_32 (lv_at hl 0 rfl) ?_
  refine lv_iload_n C.1 C.2.1 dX1_lay_34 rfl (lv_at hl 4 rfl) ?_
  refine lv_icmp_ge (tgt := 53) C.1 C.2.1 dX1_lay_35 (by decide) (fun _ => ?_) (fun c_ => False.elim (by revert c_; decide))
  refine lv_aload_n C.1 C.2.1 dX1_lay_53 rfl (lv_at hl 2 rfl) ?_
  refine wd_get (ci := 1) C hw (inC inW1) 0 rfl rfl 6 (by decide) (wc w_369) (v := .ref q3) rfl dX1_lay_54 ?_
  refine lv_iconst (v := (0 : Int32)) C.1 C.2.1 dX1_lay_57 (by decide) ?_
  refine lv_lconst (v := (1 : Int64)) C.1 C.2.1 dX1_lay_58 (by decide) ?_
  refine lv_iload_n C.1 C.2.1 dX1_lay_59 rfl (lv_at hl 3 rfl) ?_
  refine lv_lshl (v := jlshl (1 : Int64) (5 : Int32)) C.1 C.2.1 dX1_lay_60 rfl ?_
  refine lv_lconst (v := (1 : Int64)) C.1 C.2.1 dX1_lay_61 (by decide) ?_
  refine lv_lsub C.1 C.2.1 dX1_lay_62 ?_
  refine wd_las C hw 1 2 rfl rfl (by unfold vp_in; decide) (ws' := (a, .inr (1, [.int (5 : Int32), .int (5 : Int32), .int (25 : Int32), .int (24 : Int32), .ref q1, .ref q2, .ref q3])) :: (q3, .inl (cL, 4, .inr (.inl (vp_updL (fun _ => 0) 0 (31 : Int64))))) :: (q2, .inl (cI, 4, .inl (fun _ => 0))) :: (q1, .inl (cL, 4, .inr (.inl (fun _ => 0)))) :: []) rfl dX1_lay_63 (fun H locs hw => ?_)
  refine lv_aload_n C.1 C.2.1 dX1_lay_64 rfl (lv_at hl 2 rfl) ?_
  refine wd_get (ci := 1) C hw (inC inW1) 0 rfl rfl 6 (by decide) (wc w_369) (v := .ref q3) rfl dX1_lay_65 ?_
  refine lv_iconst (v := (1 : Int32)) C.1 C.2.1 dX1_lay_68 (by decide) ?_
  refine lv_lload_n C.1 C.2.1 dX1_lay_69 rfl (lv_at hl 1 rfl) ?_
  refine lv_iload_n C.1 C.2.1 dX1_lay_70 rfl (lv_at hl 3 rfl) ?_
  refine lv_iconst (v := (1 : Int32)) C.1 C.2.1 dX1_lay_71 (by decide) ?_
  refine lv_isub C.1 C.2.1 dX1_lay_72 ?_
  refine lv_lshl (v := jlshl (1082401 : Int64) ((5 : Int32) - (1 : Int32))) C.1 C.2.1 dX1_lay_73 rfl ?_
  refine wd_las C hw 1 2 rfl rfl (by unfold vp_in; decide) (ws' := (a, .inr (1, [.int (5 : Int32), .int (5 : Int32), .int (25 : Int32), .int (24 : Int32), .ref q1, .ref q2, .ref q3])) :: (q3, .inl (cL, 4, .inr (.inl (vp_updL (vp_updL (fun _ => 0) 0 (31 : Int64)) 1 (17318416 : Int64))))) :: (q2, .inl (cI, 4, .inl (fun _ => 0))) :: (q1, .inl (cL, 4, .inr (.inl (fun _ => 0)))) :: []) rfl dX1_lay_74 (fun H locs hw => ?_)
  refine lv_aload_n C.1 C.2.1 dX1_lay_75 rfl (lv_at hl 2 rfl) ?_
  refine wd_get (ci := 1) C hw (inC inW1) 0 rfl rfl 6 (by decide) (wc w_369) (v := .ref q3) rfl dX1_lay_76 ?_
  refine lv_iconst (v := (2 : Int32)) C.1 C.2.1 dX1_lay_79 (by decide) ?_
  refine lv_aload_n C.1 C.2.1 dX1_lay_80 rfl (lv_at hl 2 rfl) ?_
  refine wd_get (ci := 1) C hw (inC inW1) 0 rfl rfl 6 (by decide) (wc w_369) (v := .ref q3) rfl dX1_lay_81 ?_
  refine lv_iconst (v := (0 : Int32)) C.1 C.2.1 dX1_lay_84 (by decide) ?_
  refine wd_lal C hw 1 2 (f := (vp_updL (vp_updL (fun _ => 0) 0 (31 : Int64)) 1 (17318416 : Int64))) rfl rfl (by unfold vp_in; decide) dX1_lay_85 ?_
  refine lv_aload_n C.1 C.2.1 dX1_lay_86 rfl (lv_at hl 2 rfl) ?_
  refine wd_get (ci := 1) C hw (inC inW1) 0 rfl rfl 2 (by decide) (wc w_358) (v := .int (25 : Int32)) rfl dX1_lay_87 ?_
  refine lv_iload_n C.1 C.2.1 dX1_lay_90 rfl (lv_at hl 3 rfl) ?_
  refine lv_isub C.1 C.2.1 dX1_lay_91 ?_
  refine lv_lshl (v := jlshl ((vp_updL (vp_updL (fun _ => 0) 0 (31 : Int64)) 1 (17318416 : Int64)) ((0 : Int32)).toNatClampNeg) ((25 : Int32) - (5 : Int32))) C.1 C.2.1 dX1_lay_92 rfl ?_
  refine wd_las C hw 1 2 rfl rfl (by unfold vp_in; decide) (ws' := (a, .inr (1, [.int (5 : Int32), .int (5 : Int32), .int (25 : Int32), .int (24 : Int32), .ref q1, .ref q2, .ref q3])) :: (q3, .inl (cL, 4, .inr (.inl (vp_updL (vp_updL (vp_updL (fun _ => 0) 0 (31 : Int64)) 1 (17318416 : Int64)) 2 (32505856 : Int64))))) :: (q2, .inl (cI, 4, .inl (fun _ => 0))) :: (q1, .inl (cL, 4, .inr (.inl (fun _ => 0)))) :: []) rfl dX1_lay_93 (fun H locs hw => ?_)
  refine lv_aload_n C.1 C.2.1 dX1_lay_94 rfl (lv_at hl 2 rfl) ?_
  refine wd_get (ci := 1) C hw (inC inW1) 0 rfl rfl 6 (by decide) (wc w_369) (v := .ref q3) rfl dX1_lay_95 ?_
  refine lv_iconst (v := (3 : Int32)) C.1 C.2.1 dX1_lay_98 (by decide) ?_
  refine lv_lload_n C.1 C.2.1 dX1_lay_99 rfl (lv_at hl 1 rfl) ?_
  refine wd_las C hw 1 2 rfl rfl (by unfold vp_in; decide) (ws' := (a, .inr (1, [.int (5 : Int32), .int (5 : Int32), .int (25 : Int32), .int (24 : Int32), .ref q1, .ref q2, .ref q3])) :: (q3, .inl (cL, 4, .inr (.inl (vp_updL (vp_updL (vp_updL (vp_updL (fun _ => 0) 0 (31 : Int64)) 1 (17318416 : Int64)) 2 (32505856 : Int64)) 3 (1082401 : Int64))))) :: (q2, .inl (cI, 4, .inl (fun _ => 0))) :: (q1, .inl (cL, 4, .inr (.inl (fun _ => 0)))) :: []) rfl dX1_lay_100 (fun H locs hw => ?_)
  refine lv_aload_n C.1 C.2.1 dX1_lay_101 rfl (lv_at hl 2 rfl) ?_
  refine wd_get (ci := 1) C hw (inC inW1) 0 rfl rfl 5 (by decide) (wc w_367) (v := .ref q2) rfl dX1_lay_102 ?_
  refine lv_iconst (v := (0 : Int32)) C.1 C.2.1 dX1_lay_105 (by decide) ?_
  refine lv_iload_n C.1 C.2.1 dX1_lay_106 rfl (lv_at hl 3 rfl) ?_
  refine lv_ineg C.1 C.2.1 dX1_lay_107 ?_
  refine wd_ias C hw 2 0 rfl rfl (by unfold vp_in; decide) (ws' := (a, .inr (1, [.int (5 : Int32), .int (5 : Int32), .int (25 : Int32), .int (24 : Int32), .ref q1, .ref q2, .ref q3])) :: (q3, .inl (cL, 4, .inr (.inl (vp_updL (vp_updL (vp_updL (vp_updL (fun _ => 0) 0 (31 : Int64)) 1 (17318416 : Int64)) 2 (32505856 : Int64)) 3 (1082401 : Int64))))) :: (q2, .inl (cI, 4, .inl (upd (fun _ => 0) 0 (-5 : Int32)))) :: (q1, .inl (cL, 4, .inr (.inl (fun _ => 0)))) :: []) rfl dX1_lay_108 (fun H locs hw => ?_)
  refine lv_aload_n C.1 C.2.1 dX1_lay_109 rfl (lv_at hl 2 rfl) ?_
  refine wd_get (ci := 1) C hw (inC inW1) 0 rfl rfl 5 (by decide) (wc w_367) (v := .ref q2) rfl dX1_lay_110 ?_
  refine lv_iconst (v := (1 : Int32)) C.1 C.2.1 dX1_lay_113 (by decide) ?_
  refine lv_iconst (v := (1 : Int32)) C.1 C.2.1 dX1_lay_114 (by decide) ?_
  refine wd_ias C hw 2 0 rfl rfl (by unfold vp_in; decide) (ws' := (a, .inr (1, [.int (5 : Int32), .int (5 : Int32), .int (25 : Int32), .int (24 : Int32), .ref q1, .ref q2, .ref q3])) :: (q3, .inl (cL, 4, .inr (.inl (vp_updL (vp_updL (vp_updL (vp_updL (fun _ => 0) 0 (31 : Int64)) 1 (17318416 : Int64)) 2 (32505856 : Int64)) 3 (1082401 : Int64))))) :: (q2, .inl (cI, 4, .inl (upd (upd (fun _ => 0) 0 (-5 : Int32)) 1 (1 : Int32)))) :: (q1, .inl (cL, 4, .inr (.inl (fun _ => 0)))) :: []) rfl dX1_lay_115 (fun H locs hw => ?_)
  refine lv_aload_n C.1 C.2.1 dX1_lay_116 rfl (lv_at hl 2 rfl) ?_
  refine wd_get (ci := 1) C hw (inC inW1) 0 rfl rfl 5 (by decide) (wc w_367) (v := .ref q2) rfl dX1_lay_117 ?_
  refine lv_iconst (v := (2 : Int32)) C.1 C.2.1 dX1_lay_120 (by decide) ?_
  refine lv_iload_n C.1 C.2.1 dX1_lay_121 rfl (lv_at hl 3 rfl) ?_
  refine wd_ias C hw 2 0 rfl rfl (by unfold vp_in; decide) (ws' := (a, .inr (1, [.int (5 : Int32), .int (5 : Int32), .int (25 : Int32), .int (24 : Int32), .ref q1, .ref q2, .ref q3])) :: (q3, .inl (cL, 4, .inr (.inl (vp_updL (vp_updL (vp_updL (vp_updL (fun _ => 0) 0 (31 : Int64)) 1 (17318416 : Int64)) 2 (32505856 : Int64)) 3 (1082401 : Int64))))) :: (q2, .inl (cI, 4, .inl (upd (upd (upd (fun _ => 0) 0 (-5 : Int32)) 1 (1 : Int32)) 2 (5 : Int32)))) :: (q1, .inl (cL, 4, .inr (.inl (fun _ => 0)))) :: []) rfl dX1_lay_122 (fun H locs hw => ?_)
  refine lv_aload_n C.1 C.2.1 dX1_lay_123 rfl (lv_at hl 2 rfl) ?_
  refine wd_get (ci := 1) C hw (inC inW1) 0 rfl rfl 5 (by decide) (wc w_367) (v := .ref q2) rfl dX1_lay_124 ?_
  refine lv_iconst (v := (3 : Int32)) C.1 C.2.1 dX1_lay_127 (by decide) ?_
  refine lv_iconst (v := (-1 : Int32)) C.1 C.2.1 dX1_lay_128 (by decide) ?_
  refine wd_ias C hw 2 0 rfl rfl (by unfold vp_in; decide) (ws' := (a, .inr (1, [.int (5 : Int32), .int (5 : Int32), .int (25 : Int32), .int (24 : Int32), .ref q1, .ref q2, .ref q3])) :: (q3, .inl (cL, 4, .inr (.inl (vp_updL (vp_updL (vp_updL (vp_updL (fun _ => 0) 0 (31 : Int64)) 1 (17318416 : Int64)) 2 (32505856 : Int64)) 3 (1082401 : Int64))))) :: (q2, .inl (cI, 4, .inl (upd (upd (upd (upd (fun _ => 0) 0 (-5 : Int32)) 1 (1 : Int32)) 2 (5 : Int32)) 3 (-1 : Int32)))) :: (q1, .inl (cL, 4, .inr (.inl (fun _ => 0)))) :: []) rfl dX1_lay_129 (fun H locs hw => ?_)
  refine lv_aload_n C.1 C.2.1 dX1_lay_130 rfl (lv_at hl 2 rfl) ?_
  refine i_Vv C (wc := [(a, .inr (1, [.int (5 : Int32), .int (5 : Int32), .int (25 : Int32), .int (24 : Int32), .ref q1, .ref q2, .ref q3])), (q3, .inl (cL, 4, .inr (.inl (vp_updL (vp_updL (vp_updL (vp_updL (fun _ => 0) 0 (31 : Int64)) 1 (17318416 : Int64)) 2 (32505856 : Int64)) 3 (1082401 : Int64))))), (q2, .inl (cI, 4, .inl (upd (upd (upd (upd (fun _ => 0) 0 (-5 : Int32)) 1 (1 : Int32)) 2 (5 : Int32)) 3 (-1 : Int32)))), (q1, .inl (cL, 4, .inr (.inl (fun _ => 0))))]) (wr := []) hw (iclr l D cI cZ cL cF cM a q1 q2 q3) (cwV 0 C.2.2.2.2 (gd_V w_352 w_354 w_0 w_120 w_355) rfl rfl rfl (by decide +kernel) ⟨Nat.le_of_ble_eq_true rfl, Nat.le_of_ble_eq_true rfl⟩) (ci := 1) rfl (q0 := 0) rfl rfl hl.1 (Nat.le_of_ble_eq_true rfl) dX1_lay_131 rfl rfl ⟨Nat.le_of_ble_eq_true rfl, Nat.le_of_ble_eq_true rfl⟩ (fun _ H locs _ hw => ?_) rfl
  exact hR _ _ () _ _ dX1_lay_134 trivial hw
abbrev bX1 (cI cZ cL cF cM : ClassId) (a : Nat) (u : Nat → Nat) : va_W := (a, .inr (1, [.int (5 : Int32), .int (5 : Int32), .int (25 : Int32), .int (24 : Int32), .ref (u 2), .ref (u 1), .ref (u 0)])) :: ((u 0), .inl (cL, 4, .inr (.inl (fun j => ([31, 17318416, 32505856, 1082401] : List Int64).getD j 0)))) :: ((u 1), .inl (cI, 4, .inl (fun j => ([-5, 1, 5, -1] : List Int32).getD j 0))) :: ((u 2), .inl (cL, 4, .inr (.inl (fun j => ([31, 17318416, 32505856, 1082401] : List Int64).getD j 0)))) :: []
abbrev iX1_rm : Room := { frames := 3, cells := 3, slots := 12, locals := 58 }
set_option maxHeartbeats 4000000 in
set_option maxRecDepth 100000 in
theorem iX1 (l : Launch) (D : va_G) (cI cZ cL cF cM : ClassId) (a : Nat) : Cn 3 12 l yX1_init wsX1_init iX1_rm [.ref a] D (T0 cI cZ cL cF cM) [(a, .inr (1, [.int 0, .int 0, .int 0, .int 0, .null, .null, .null]))] (fun u : Nat → Nat => bX1 cI cZ cL cF cM a u) (fun _ => True) := by
  refine Cn_of (cc := cX1_init) (maxL := 1) (by decide) rfl (Nat.le_of_ble_eq_true rfl) ?_
  intro p e s m below meth c A Q C hin hw hR ls hl
  have hin : meth.name = "<init>" := hin
  have hl : lv_has ls 1 [(0, .ref a)] := hl
  refine lv_aload_n C.1 C.2.1 dX1_init_0 rfl (lv_at hl 0 rfl) ?_
  refine W.objInit C.1 C.2.1 C.2.2.2.1 (C.2.2.2.2 _ (wc w_347)) (C.2.2.2.2 _ (wc w_144)) (C.2.2.2.2 _ (wc w_145)) rfl (by rw [C.2.2.1]; exact hl.1) rfl dX1_init_1 (Nat.le_of_ble_eq_true rfl) (Nat.le_of_ble_eq_true rfl) ?_
  refine W.eq (g2 := F0 m 4 ls []) rfl ?_
  refine lv_aload_n C.1 C.2.1 dX1_init_4 rfl (lv_at hl 0 rfl) ?_
  refine lv_iconst (v := (4 : Int32)) C.1 C.2.1 dX1_init_5 (by decide) ?_
  refine i_newa C hw (ty := .long) (wc w_385) rfl (fun _ _ h => h) 2 rfl (N' := 4) (a0 := (4, .inr (.inl (fun _ => 0)))) (fun cA => by first | rfl | (rw [vp_cell_i]; rfl) | (rw [vp_cell_l]; rfl)) (by decide) (by decide) (by decide) (c1 := 1) (s1 := 4) rfl rfl (Nat.le_of_ble_eq_true rfl) (Nat.le_of_ble_eq_true rfl) dX1_init_6 (fun q6 H hw => ?_)
  refine i_putF (ci := 1) C hin hw (inC inW1) tyX1 tyX1_ok nmX1 0 rfl rfl 4 (by decide) (wc w_365) rfl rfl (ty := .array .long) (by decide +kernel) rfl rfl (Nat.le_of_ble_eq_true rfl) (ws' := (a, .inr (1, [.int 0, .int 0, .int 0, .int 0, .ref q6, .null, .null])) :: (q6, .inl (cL, 4, .inr (.inl (fun _ => 0)))) :: []) rfl dX1_init_8 (fun H locs hw => ?_)
  refine lv_aload_n C.1 C.2.1 dX1_init_11 rfl (lv_at hl 0 rfl) ?_
  refine lv_iconst (v := (4 : Int32)) C.1 C.2.1 dX1_init_12 (by decide) ?_
  refine i_newa C hw (ty := .int) (wc w_214) rfl (fun _ _ h => h) 0 rfl (N' := 4) (a0 := (4, .inl (fun _ => 0))) (fun cA => by first | rfl | (rw [vp_cell_i]; rfl) | (rw [vp_cell_l]; rfl)) (by decide) (by decide) (by decide) (c1 := 2) (s1 := 8) rfl rfl (Nat.le_of_ble_eq_true rfl) (Nat.le_of_ble_eq_true rfl) dX1_init_13 (fun q13 H hw => ?_)
  refine i_putF (ci := 1) C hin hw (inC inW1) tyX1 tyX1_ok nmX1 0 rfl rfl 5 (by decide) (wc w_367) rfl rfl (ty := .array .int) (by decide +kernel) rfl rfl (Nat.le_of_ble_eq_true rfl) (ws' := (a, .inr (1, [.int 0, .int 0, .int 0, .int 0, .ref q6, .ref q13, .null])) :: (q13, .inl (cI, 4, .inl (fun _ => 0))) :: (q6, .inl (cL, 4, .inr (.inl (fun _ => 0)))) :: []) rfl dX1_init_15 (fun H locs hw => ?_)
  refine lv_aload_n C.1 C.2.1 dX1_init_18 rfl (lv_at hl 0 rfl) ?_
  refine lv_iconst (v := (4 : Int32)) C.1 C.2.1 dX1_init_19 (by decide) ?_
  refine i_newa C hw (ty := .long) (wc w_385) rfl (fun _ _ h => h) 2 rfl (N' := 4) (a0 := (4, .inr (.inl (fun _ => 0)))) (fun cA => by first | rfl | (rw [vp_cell_i]; rfl) | (rw [vp_cell_l]; rfl)) (by decide) (by decide) (by decide) (c1 := 3) (s1 := 12) rfl rfl (Nat.le_of_ble_eq_true rfl) (Nat.le_of_ble_eq_true rfl) dX1_init_20 (fun q20 H hw => ?_)
  refine i_putF (ci := 1) C hin hw (inC inW1) tyX1 tyX1_ok nmX1 0 rfl rfl 6 (by decide) (wc w_369) rfl rfl (ty := .array .long) (by decide +kernel) rfl rfl (Nat.le_of_ble_eq_true rfl) (ws' := (a, .inr (1, [.int 0, .int 0, .int 0, .int 0, .ref q6, .ref q13, .ref q20])) :: (q20, .inl (cL, 4, .inr (.inl (fun _ => 0)))) :: (q13, .inl (cI, 4, .inl (fun _ => 0))) :: (q6, .inl (cL, 4, .inr (.inl (fun _ => 0)))) :: []) rfl dX1_init_22 (fun H locs hw => ?_)
  refine lv_aload_n C.1 C.2.1 dX1_init_25 rfl (lv_at hl 0 rfl) ?_
  refine lv_iconst (v := (5 : Int32)) C.1 C.2.1 dX1_init_26 (by decide) ?_
  refine lv_iconst (v := (5 : Int32)) C.1 C.2.1 dX1_init_27 (by decide) ?_
  refine i_Vv C (wc := [(a, .inr (1, [.int 0, .int 0, .int 0, .int 0, .ref q6, .ref q13, .ref q20])), (q20, .inl (cL, 4, .inr (.inl (fun _ => 0)))), (q13, .inl (cI, 4, .inl (fun _ => 0))), (q6, .inl (cL, 4, .inr (.inl (fun _ => 0))))]) (wr := []) hw (ilay l D cI cZ cL cF cM a q6 q13 q20) (cwV 2 C.2.2.2.2 (gd_V w_348 w_349 w_350 w_120 w_351) rfl rfl rfl (by decide +kernel) ⟨Nat.le_of_ble_eq_true rfl, Nat.le_of_ble_eq_true rfl⟩) (ci := 1) rfl (q0 := 0) rfl rfl hl.1 (Nat.le_of_ble_eq_true rfl) dX1_init_28 rfl rfl ⟨Nat.le_of_ble_eq_true rfl, Nat.le_of_ble_eq_true rfl⟩ (fun _ H locs _ hw => ?_) rfl
  have hw : Wd D A s (T0 cI cZ cL cF cM) ((a, .inr (1, [.int (5 : Int32), .int (5 : Int32), .int (25 : Int32), .int (24 : Int32), .ref q6, .ref q13, .ref q20])) :: (q20, .inl (cL, 4, .inr (.inl (fun j => ([31, 17318416, 32505856, 1082401] : List Int64).getD j 0)))) :: (q13, .inl (cI, 4, .inl (upd (upd (upd (upd (fun _ => 0) 0 (-5 : Int32)) 1 (1 : Int32)) 2 (5 : Int32)) 3 (-1 : Int32)))) :: (q6, .inl (cL, 4, .inr (.inl (vp_updL (vp_updL (vp_updL (vp_updL (fun _ => 0) 0 (31 : Int64)) 1 (17318416 : Int64)) 2 (32505856 : Int64)) 3 (1082401 : Int64))))) :: []) _ _ := i_re (y := (cL, 4, .inr (.inl (fun j => ([31, 17318416, 32505856, 1082401] : List Int64).getD j 0)))) hw 1 rfl (re_l (by decide)) rfl
  have hw : Wd D A s (T0 cI cZ cL cF cM) ((a, .inr (1, [.int (5 : Int32), .int (5 : Int32), .int (25 : Int32), .int (24 : Int32), .ref q6, .ref q13, .ref q20])) :: (q20, .inl (cL, 4, .inr (.inl (fun j => ([31, 17318416, 32505856, 1082401] : List Int64).getD j 0)))) :: (q13, .inl (cI, 4, .inl (fun j => ([-5, 1, 5, -1] : List Int32).getD j 0))) :: (q6, .inl (cL, 4, .inr (.inl (vp_updL (vp_updL (vp_updL (vp_updL (fun _ => 0) 0 (31 : Int64)) 1 (17318416 : Int64)) 2 (32505856 : Int64)) 3 (1082401 : Int64))))) :: []) _ _ := i_re (y := (cI, 4, .inl (fun j => ([-5, 1, 5, -1] : List Int32).getD j 0))) hw 2 rfl (re_i (by decide)) rfl
  have hw : Wd D A s (T0 cI cZ cL cF cM) ((a, .inr (1, [.int (5 : Int32), .int (5 : Int32), .int (25 : Int32), .int (24 : Int32), .ref q6, .ref q13, .ref q20])) :: (q20, .inl (cL, 4, .inr (.inl (fun j => ([31, 17318416, 32505856, 1082401] : List Int64).getD j 0)))) :: (q13, .inl (cI, 4, .inl (fun j => ([-5, 1, 5, -1] : List Int32).getD j 0))) :: (q6, .inl (cL, 4, .inr (.inl (fun j => ([31, 17318416, 32505856, 1082401] : List Int64).getD j 0)))) :: []) _ _ := i_re (y := (cL, 4, .inr (.inl (fun j => ([31, 17318416, 32505856, 1082401] : List Int64).getD j 0)))) hw 3 rfl (re_l (by decide)) rfl
  have hw : Wd D A s (T0 cI cZ cL cF cM) (bX1 cI cZ cL cF cM a (fun j => [q20, q13, q6].getD j 0)) _ _ := hw
  exact hR _ _ (fun j => [q20, q13, q6].getD j 0) _ _ dX1_init_31 trivial hw
abbrev bX7 (cI cZ cL cF cM : ClassId) (a : Nat) (u : Nat → Nat) (t0 : Nat) : va_W := (a, .inr (7, [.ref t0, .ref (u 7), .int 0, .ref (u 0)])) :: bX6 cI cZ cL cF cM (u 0) (fun j => u (1 + j)) ++ (((u 7), .inl (cI, 12, .inl (fun _ => 0))) :: [])
abbrev iX7_rm : Room := { frames := 2, cells := 8, slots := 529, locals := 32 }
set_option maxHeartbeats 4000000 in
set_option maxRecDepth 100000 in
theorem iX7 (l : Launch) (D : va_G) (cI cZ cL cF cM : ClassId) (a : Nat) (t0 : Nat) : Cn 8 529 l yX7_init wsX7_init iX7_rm [.ref a, .ref t0] D (T0 cI cZ cL cF cM) [(a, .inr (7, [.null, .null, .int 0, .null]))] (fun u : Nat → Nat => bX7 cI cZ cL cF cM a u t0) (fun _ => True) := by
  refine Cn_of (cc := cX7_init) (maxL := 2) (by decide) rfl (Nat.le_of_ble_eq_true rfl) ?_
  intro p e s m below meth c A Q C hin hw hR ls hl
  have hin : meth.name = "<init>" := hin
  have hl : lv_has ls 2 [(0, .ref a), (1, .ref t0)] := hl
  refine lv_aload_n C.1 C.2.1 dX7_init_0 rfl (lv_at hl 0 rfl) ?_
  refine W.objInit C.1 C.2.1 C.2.2.2.1 (C.2.2.2.2 _ (wc w_220)) (C.2.2.2.2 _ (wc w_144)) (C.2.2.2.2 _ (wc w_145)) rfl (by rw [C.2.2.1]; exact hl.1) rfl dX7_init_1 (Nat.le_of_ble_eq_true rfl) (Nat.le_of_ble_eq_true rfl) ?_
  refine W.eq (g2 := F0 m 4 ls []) rfl ?_
  refine lv_aload_n C.1 C.2.1 dX7_init_4 rfl (lv_at hl 0 rfl) ?_
  refine lv_bipush (v := (12 : Int32)) C.1 C.2.1 dX7_init_5 (by decide) ?_
  refine i_newa C hw (ty := .int) (wc w_214) rfl (fun _ _ h => h) 0 rfl (N' := 12) (a0 := (12, .inl (fun _ => 0))) (fun cA => by first | rfl | (rw [vp_cell_i]; rfl) | (rw [vp_cell_l]; rfl)) (by decide) (by decide) (by decide) (c1 := 1) (s1 := 12) rfl rfl (Nat.le_of_ble_eq_true rfl) (Nat.le_of_ble_eq_true rfl) dX7_init_7 (fun q7 H hw => ?_)
  refine i_putF (ci := 7) C hin hw (inC inW7) tyX7 tyX7_ok nmX7 0 rfl rfl 1 (by decide) (wc w_254) rfl rfl (ty := .array .int) (by decide +kernel) rfl rfl (Nat.le_of_ble_eq_true rfl) (ws' := (a, .inr (7, [.null, .ref q7, .int 0, .null])) :: (q7, .inl (cI, 12, .inl (fun _ => 0))) :: []) rfl dX7_init_9 (fun H locs hw => ?_)
  refine lv_aload_n C.1 C.2.1 dX7_init_12 rfl (lv_at hl 0 rfl) ?_
  refine i_new (ci := 6) C hw (inC inW6) tyX6 tyX6_ok (wc w_221) (wc w_222) (wc w_117) rfl (fs := [.int 0, .null, .null, .null, .null, .null, .null]) (fun j hj => by rcases (show j = 0 ∨ j = 1 ∨ j = 2 ∨ j = 3 ∨ j = 4 ∨ j = 5 ∨ j = 6 by omega) with rfl | rfl | rfl | rfl | rfl | rfl | rfl <;> rfl) (c1 := 2) (s1 := 19) rfl rfl (Nat.le_of_ble_eq_true rfl) (Nat.le_of_ble_eq_true rfl) dX7_init_13 (fun q13_1 H hw => ?_)
  refine lv_dup C.1 C.2.1 dX7_init_16 rfl ?_
  refine i_initN C (wc := [(q13_1, .inr (6, [.int 0, .null, .null, .null, .null, .null, .null]))]) (wr := (a, .inr (7, [.null, .ref q7, .int 0, .null])) :: (q7, .inl (cI, 12, .inl (fun _ => 0))) :: []) hw (iX6 l D cI cZ cL cF cM q13_1) ⟨va_cnB 0 C.2.2.2.2 (gd_m w_225) rfl rfl rfl (hw.2.2.2.2.2.2.2.2.2.1 (RX7, 17, yX6_init) (List.mem_of_getElem? (i := 1) rfl)) (C.2.2.2.2 _ (wc w_117)) (by decide +kernel) ⟨Nat.le_of_ble_eq_true rfl, Nat.le_of_ble_eq_true rfl⟩, rfl, (C.2.2.2.2 _ (wc w_224))⟩ rfl hl.1 (Nat.le_of_ble_eq_true rfl) dX7_init_17 (c1 := 8) (s1 := 529) rfl rfl ⟨Nat.le_of_ble_eq_true rfl, Nat.le_of_ble_eq_true rfl⟩ (fun u17_2 H locs _ hw => ?_) rfl
  have hw : Wd D A s (T0 cI cZ cL cF cM) ((a, .inr (7, [.null, .ref q7, .int 0, .null])) :: bX6 cI cZ cL cF cM q13_1 u17_2 ++ ((q7, .inl (cI, 12, .inl (fun _ => 0))) :: [])) _ _ := hw.permP (List.perm_append_comm_assoc (bX6 cI cZ cL cF cM q13_1 u17_2) ([(a, .inr (7, [.null, .ref q7, .int 0, .null]))]) ((q7, .inl (cI, 12, .inl (fun _ => 0))) :: []))
  refine wd_put (ci := 7) C hw (inC inW7) tyX7 tyX7_ok nmX7 0 rfl rfl 3 (by decide) (wc w_256) rfl (ty := .object "RelayMouse$Rules") (v := .ref q13_1) (by decide +kernel) rfl rfl (Nat.le_of_ble_eq_true rfl) (ws' := (a, .inr (7, [.null, .ref q7, .int 0, .ref q13_1])) :: bX6 cI cZ cL cF cM q13_1 u17_2 ++ ((q7, .inl (cI, 12, .inl (fun _ => 0))) :: [])) rfl dX7_init_20 (fun H locs hw => ?_)
  refine lv_aload_n C.1 C.2.1 dX7_init_23 rfl (lv_at hl 0 rfl) ?_
  refine lv_aload_n C.1 C.2.1 dX7_init_24 rfl (lv_at hl 1 rfl) ?_
  refine i_putF (ci := 7) C hin hw (inC inW7) tyX7 tyX7_ok nmX7 0 rfl rfl 0 (by decide) (wc w_253) rfl rfl (ty := .object "RelayMouse$Text") (by decide +kernel) rfl rfl (Nat.le_of_ble_eq_true rfl) (ws' := (a, .inr (7, [.ref t0, .ref q7, .int 0, .ref q13_1])) :: bX6 cI cZ cL cF cM q13_1 u17_2 ++ ((q7, .inl (cI, 12, .inl (fun _ => 0))) :: [])) rfl dX7_init_25 (fun H locs hw => ?_)
  have hw : Wd D A s (T0 cI cZ cL cF cM) (bX7 cI cZ cL cF cM a (fun j => [q13_1, u17_2 0, u17_2 1, u17_2 2, u17_2 3, u17_2 4, u17_2 5, q7].getD j 0) t0) _ _ := hw
  exact hR _ _ (fun j => [q13_1, u17_2 0, u17_2 1, u17_2 2, u17_2 3, u17_2 4, u17_2 5, q7].getD j 0) _ _ dX7_init_28 trivial hw
abbrev bX5 (cI cZ cL cF cM : ClassId) (a : Nat) (u : Nat → Nat) (t0 : Nat) : va_W := (a, .inr (5, [.ref t0, .ref (u 7), .ref (u 6), .ref (u 5), .ref (u 4), .ref (u 0), .int 0, .int 0, .int 0, .int 0])) :: bX4 cI cZ cL cF cM (u 0) (fun j => u (1 + j)) ++ (((u 4), .inl (cI, 72, .inl (fun _ => 0))) :: ((u 5), .inl (cI, 64, .inl (fun _ => 0))) :: ((u 6), .inl (cI, 64, .inl (fun _ => 0))) :: ((u 7), .inl (cI, 20, .inl (fun _ => 0))) :: [])
abbrev iX5_rm : Room := { frames := 2, cells := 8, slots := 338, locals := 32 }
set_option maxHeartbeats 4000000 in
set_option maxRecDepth 100000 in
theorem iX5 (l : Launch) (D : va_G) (cI cZ cL cF cM : ClassId) (a : Nat) (t0 : Nat) : Cn 8 338 l yX5_init wsX5_init iX5_rm [.ref a, .ref t0] D (T0 cI cZ cL cF cM) [(a, .inr (5, [.null, .null, .null, .null, .null, .null, .int 0, .int 0, .int 0, .int 0]))] (fun u : Nat → Nat => bX5 cI cZ cL cF cM a u t0) (fun _ => True) := by
  refine Cn_of (cc := cX5_init) (maxL := 2) (by decide) rfl (Nat.le_of_ble_eq_true rfl) ?_
  intro p e s m below meth c A Q C hin hw hR ls hl
  have hin : meth.name = "<init>" := hin
  have hl : lv_has ls 2 [(0, .ref a), (1, .ref t0)] := hl
  refine lv_aload_n C.1 C.2.1 dX5_init_0 rfl (lv_at hl 0 rfl) ?_
  refine W.objInit C.1 C.2.1 C.2.2.2.1 (C.2.2.2.2 _ (wc w_271)) (C.2.2.2.2 _ (wc w_144)) (C.2.2.2.2 _ (wc w_145)) rfl (by rw [C.2.2.1]; exact hl.1) rfl dX5_init_1 (Nat.le_of_ble_eq_true rfl) (Nat.le_of_ble_eq_true rfl) ?_
  refine W.eq (g2 := F0 m 4 ls []) rfl ?_
  refine lv_aload_n C.1 C.2.1 dX5_init_4 rfl (lv_at hl 0 rfl) ?_
  refine lv_bipush (v := (20 : Int32)) C.1 C.2.1 dX5_init_5 (by decide) ?_
  refine i_newa C hw (ty := .int) (wc w_214) rfl (fun _ _ h => h) 0 rfl (N' := 20) (a0 := (20, .inl (fun _ => 0))) (fun cA => by first | rfl | (rw [vp_cell_i]; rfl) | (rw [vp_cell_l]; rfl)) (by decide) (by decide) (by decide) (c1 := 1) (s1 := 20) rfl rfl (Nat.le_of_ble_eq_true rfl) (Nat.le_of_ble_eq_true rfl) dX5_init_7 (fun q7 H hw => ?_)
  refine i_putF (ci := 5) C hin hw (inC inW5) tyX5 tyX5_ok nmX5 0 rfl rfl 1 (by decide) (wc w_308) rfl rfl (ty := .array .int) (by decide +kernel) rfl rfl (Nat.le_of_ble_eq_true rfl) (ws' := (a, .inr (5, [.null, .ref q7, .null, .null, .null, .null, .int 0, .int 0, .int 0, .int 0])) :: (q7, .inl (cI, 20, .inl (fun _ => 0))) :: []) rfl dX5_init_9 (fun H locs hw => ?_)
  refine lv_aload_n C.1 C.2.1 dX5_init_12 rfl (lv_at hl 0 rfl) ?_
  refine lv_bipush (v := (64 : Int32)) C.1 C.2.1 dX5_init_13 (by decide) ?_
  refine i_newa C hw (ty := .int) (wc w_214) rfl (fun _ _ h => h) 0 rfl (N' := 64) (a0 := (64, .inl (fun _ => 0))) (fun cA => by first | rfl | (rw [vp_cell_i]; rfl) | (rw [vp_cell_l]; rfl)) (by decide) (by decide) (by decide) (c1 := 2) (s1 := 84) rfl rfl (Nat.le_of_ble_eq_true rfl) (Nat.le_of_ble_eq_true rfl) dX5_init_15 (fun q15 H hw => ?_)
  refine i_putF (ci := 5) C hin hw (inC inW5) tyX5 tyX5_ok nmX5 0 rfl rfl 2 (by decide) (wc w_309) rfl rfl (ty := .array .int) (by decide +kernel) rfl rfl (Nat.le_of_ble_eq_true rfl) (ws' := (a, .inr (5, [.null, .ref q7, .ref q15, .null, .null, .null, .int 0, .int 0, .int 0, .int 0])) :: (q15, .inl (cI, 64, .inl (fun _ => 0))) :: (q7, .inl (cI, 20, .inl (fun _ => 0))) :: []) rfl dX5_init_17 (fun H locs hw => ?_)
  refine lv_aload_n C.1 C.2.1 dX5_init_20 rfl (lv_at hl 0 rfl) ?_
  refine lv_bipush (v := (64 : Int32)) C.1 C.2.1 dX5_init_21 (by decide) ?_
  refine i_newa C hw (ty := .int) (wc w_214) rfl (fun _ _ h => h) 0 rfl (N' := 64) (a0 := (64, .inl (fun _ => 0))) (fun cA => by first | rfl | (rw [vp_cell_i]; rfl) | (rw [vp_cell_l]; rfl)) (by decide) (by decide) (by decide) (c1 := 3) (s1 := 148) rfl rfl (Nat.le_of_ble_eq_true rfl) (Nat.le_of_ble_eq_true rfl) dX5_init_23 (fun q23 H hw => ?_)
  refine i_putF (ci := 5) C hin hw (inC inW5) tyX5 tyX5_ok nmX5 0 rfl rfl 3 (by decide) (wc w_310) rfl rfl (ty := .array .int) (by decide +kernel) rfl rfl (Nat.le_of_ble_eq_true rfl) (ws' := (a, .inr (5, [.null, .ref q7, .ref q15, .ref q23, .null, .null, .int 0, .int 0, .int 0, .int 0])) :: (q23, .inl (cI, 64, .inl (fun _ => 0))) :: (q15, .inl (cI, 64, .inl (fun _ => 0))) :: (q7, .inl (cI, 20, .inl (fun _ => 0))) :: []) rfl dX5_init_25 (fun H locs hw => ?_)
  refine lv_aload_n C.1 C.2.1 dX5_init_28 rfl (lv_at hl 0 rfl) ?_
  refine lv_bipush (v := (72 : Int32)) C.1 C.2.1 dX5_init_29 (by decide) ?_
  refine i_newa C hw (ty := .int) (wc w_214) rfl (fun _ _ h => h) 0 rfl (N' := 72) (a0 := (72, .inl (fun _ => 0))) (fun cA => by first | rfl | (rw [vp_cell_i]; rfl) | (rw [vp_cell_l]; rfl)) (by decide) (by decide) (by decide) (c1 := 4) (s1 := 220) rfl rfl (Nat.le_of_ble_eq_true rfl) (Nat.le_of_ble_eq_true rfl) dX5_init_31 (fun q31 H hw => ?_)
  refine i_putF (ci := 5) C hin hw (inC inW5) tyX5 tyX5_ok nmX5 0 rfl rfl 4 (by decide) (wc w_311) rfl rfl (ty := .array .int) (by decide +kernel) rfl rfl (Nat.le_of_ble_eq_true rfl) (ws' := (a, .inr (5, [.null, .ref q7, .ref q15, .ref q23, .ref q31, .null, .int 0, .int 0, .int 0, .int 0])) :: (q31, .inl (cI, 72, .inl (fun _ => 0))) :: (q23, .inl (cI, 64, .inl (fun _ => 0))) :: (q15, .inl (cI, 64, .inl (fun _ => 0))) :: (q7, .inl (cI, 20, .inl (fun _ => 0))) :: []) rfl dX5_init_33 (fun H locs hw => ?_)
  refine lv_aload_n C.1 C.2.1 dX5_init_36 rfl (lv_at hl 0 rfl) ?_
  refine i_new (ci := 4) C hw (inC inW4) tyX4 tyX4_ok (wc w_272) (wc w_273) (wc w_119) rfl (fs := [.int 0, .int 0, .int 0, .null, .null, .null]) (fun j hj => by rcases (show j = 0 ∨ j = 1 ∨ j = 2 ∨ j = 3 ∨ j = 4 ∨ j = 5 by omega) with rfl | rfl | rfl | rfl | rfl | rfl <;> rfl) (c1 := 5) (s1 := 226) rfl rfl (Nat.le_of_ble_eq_true rfl) (Nat.le_of_ble_eq_true rfl) dX5_init_37 (fun q37_4 H hw => ?_)
  refine lv_dup C.1 C.2.1 dX5_init_40 rfl ?_
  refine i_initN C (wc := [(q37_4, .inr (4, [.int 0, .int 0, .int 0, .null, .null, .null]))]) (wr := (a, .inr (5, [.null, .ref q7, .ref q15, .ref q23, .ref q31, .null, .int 0, .int 0, .int 0, .int 0])) :: (q31, .inl (cI, 72, .inl (fun _ => 0))) :: (q23, .inl (cI, 64, .inl (fun _ => 0))) :: (q15, .inl (cI, 64, .inl (fun _ => 0))) :: (q7, .inl (cI, 20, .inl (fun _ => 0))) :: []) hw (iX4 l D cI cZ cL cF cM q37_4) ⟨va_cnB 0 C.2.2.2.2 (gd_m w_276) rfl rfl rfl (hw.2.2.2.2.2.2.2.2.2.1 (RX5, 26, yX4_init) (List.mem_of_getElem? (i := 2) rfl)) (C.2.2.2.2 _ (wc w_119)) (by decide +kernel) ⟨Nat.le_of_ble_eq_true rfl, Nat.le_of_ble_eq_true rfl⟩, rfl, (C.2.2.2.2 _ (wc w_275))⟩ rfl hl.1 (Nat.le_of_ble_eq_true rfl) dX5_init_41 (c1 := 8) (s1 := 338) rfl rfl ⟨Nat.le_of_ble_eq_true rfl, Nat.le_of_ble_eq_true rfl⟩ (fun u41_5 H locs _ hw => ?_) rfl
  have hw : Wd D A s (T0 cI cZ cL cF cM) ((a, .inr (5, [.null, .ref q7, .ref q15, .ref q23, .ref q31, .null, .int 0, .int 0, .int 0, .int 0])) :: bX4 cI cZ cL cF cM q37_4 u41_5 ++ ((q31, .inl (cI, 72, .inl (fun _ => 0))) :: (q23, .inl (cI, 64, .inl (fun _ => 0))) :: (q15, .inl (cI, 64, .inl (fun _ => 0))) :: (q7, .inl (cI, 20, .inl (fun _ => 0))) :: [])) _ _ := hw.permP (List.perm_append_comm_assoc (bX4 cI cZ cL cF cM q37_4 u41_5) ([(a, .inr (5, [.null, .ref q7, .ref q15, .ref q23, .ref q31, .null, .int 0, .int 0, .int 0, .int 0]))]) ((q31, .inl (cI, 72, .inl (fun _ => 0))) :: (q23, .inl (cI, 64, .inl (fun _ => 0))) :: (q15, .inl (cI, 64, .inl (fun _ => 0))) :: (q7, .inl (cI, 20, .inl (fun _ => 0))) :: []))
  refine wd_put (ci := 5) C hw (inC inW5) tyX5 tyX5_ok nmX5 0 rfl rfl 5 (by decide) (wc w_312) rfl (ty := .object "RelayMouse$Net") (v := .ref q37_4) (by decide +kernel) rfl rfl (Nat.le_of_ble_eq_true rfl) (ws' := (a, .inr (5, [.null, .ref q7, .ref q15, .ref q23, .ref q31, .ref q37_4, .int 0, .int 0, .int 0, .int 0])) :: bX4 cI cZ cL cF cM q37_4 u41_5 ++ ((q31, .inl (cI, 72, .inl (fun _ => 0))) :: (q23, .inl (cI, 64, .inl (fun _ => 0))) :: (q15, .inl (cI, 64, .inl (fun _ => 0))) :: (q7, .inl (cI, 20, .inl (fun _ => 0))) :: [])) rfl dX5_init_44 (fun H locs hw => ?_)
  refine lv_aload_n C.1 C.2.1 dX5_init_47 rfl (lv_at hl 0 rfl) ?_
  refine lv_aload_n C.1 C.2.1 dX5_init_48 rfl (lv_at hl 1 rfl) ?_
  refine i_putF (ci := 5) C hin hw (inC inW5) tyX5 tyX5_ok nmX5 0 rfl rfl 0 (by decide) (wc w_307) rfl rfl (ty := .object "RelayMouse$Text") (by decide +kernel) rfl rfl (Nat.le_of_ble_eq_true rfl) (ws' := (a, .inr (5, [.ref t0, .ref q7, .ref q15, .ref q23, .ref q31, .ref q37_4, .int 0, .int 0, .int 0, .int 0])) :: bX4 cI cZ cL cF cM q37_4 u41_5 ++ ((q31, .inl (cI, 72, .inl (fun _ => 0))) :: (q23, .inl (cI, 64, .inl (fun _ => 0))) :: (q15, .inl (cI, 64, .inl (fun _ => 0))) :: (q7, .inl (cI, 20, .inl (fun _ => 0))) :: [])) rfl dX5_init_49 (fun H locs hw => ?_)
  have hw : Wd D A s (T0 cI cZ cL cF cM) (bX5 cI cZ cL cF cM a (fun j => [q37_4, u41_5 0, u41_5 1, u41_5 2, q31, q23, q15, q7].getD j 0) t0) _ _ := hw
  exact hR _ _ (fun j => [q37_4, u41_5 0, u41_5 1, u41_5 2, q31, q23, q15, q7].getD j 0) _ _ dX5_init_52 trivial hw
abbrev bX8 (cI cZ cL cF cM : ClassId) (a : Nat) (u : Nat → Nat) : va_W := (a, .inr (8, [.ref (u 9), .ref (u 7), .ref (u 5), .int 0, .int 0, .long 0, .int 0, .int 0, .ref (u 4), .ref (u 3), .ref (u 2), .ref (u 1), .ref (u 0)])) :: ((u 0), .inl (cI, 4, .inl (fun _ => 0))) :: ((u 1), .inl (cI, 4, .inl (fun _ => 0))) :: ((u 2), .inl (cI, 4, .inl (fun _ => 0))) :: ((u 3), .inl (cI, 4, .inl (fun _ => 0))) :: ((u 4), .inl (cI, 4, .inl (fun _ => 0))) :: bX3 cI cZ cL cF cM (u 5) (fun j => u (6 + j)) ++ (bX3 cI cZ cL cF cM (u 7) (fun j => u (8 + j)) ++ (bX1 cI cZ cL cF cM (u 9) (fun j => u (10 + j)) ++ ([])))
abbrev iX8_rm : Room := { frames := 4, cells := 13, slots := 65, locals := 78 }
set_option maxHeartbeats 4000000 in
set_option maxRecDepth 100000 in
theorem iX8 (l : Launch) (D : va_G) (cI cZ cL cF cM : ClassId) (a : Nat) : Cn 13 65 l yX8_init wsX8_init iX8_rm [.ref a] D (T0 cI cZ cL cF cM) [(a, .inr (8, [.null, .null, .null, .int 0, .int 0, .long 0, .int 0, .int 0, .null, .null, .null, .null, .null]))] (fun u : Nat → Nat => bX8 cI cZ cL cF cM a u) (fun _ => True) := by
  refine Cn_of (cc := cX8_init) (maxL := 1) (by decide) rfl (Nat.le_of_ble_eq_true rfl) ?_
  intro p e s m below meth c A Q C hin hw hR ls hl
  have hin : meth.name = "<init>" := hin
  have hl : lv_has ls 1 [(0, .ref a)] := hl
  refine lv_aload_n C.1 C.2.1 dX8_init_0 rfl (lv_at hl 0 rfl) ?_
  refine W.objInit C.1 C.2.1 C.2.2.2.1 (C.2.2.2.2 _ (wc w_470)) (C.2.2.2.2 _ (wc w_144)) (C.2.2.2.2 _ (wc w_145)) rfl (by rw [C.2.2.1]; exact hl.1) rfl dX8_init_1 (Nat.le_of_ble_eq_true rfl) (Nat.le_of_ble_eq_true rfl) ?_
  refine W.eq (g2 := F0 m 4 ls []) rfl ?_
  refine lv_aload_n C.1 C.2.1 dX8_init_4 rfl (lv_at hl 0 rfl) ?_
  refine i_new (ci := 1) C hw (inC inW1) tyX1 tyX1_ok (wc w_471) (wc w_343) (wc w_120) rfl (fs := [.int 0, .int 0, .int 0, .int 0, .null, .null, .null]) (fun j hj => by rcases (show j = 0 ∨ j = 1 ∨ j = 2 ∨ j = 3 ∨ j = 4 ∨ j = 5 ∨ j = 6 by omega) with rfl | rfl | rfl | rfl | rfl | rfl | rfl <;> rfl) (c1 := 1) (s1 := 7) rfl rfl (Nat.le_of_ble_eq_true rfl) (Nat.le_of_ble_eq_true rfl) dX8_init_5 (fun q5_0 H hw => ?_)
  refine lv_dup C.1 C.2.1 dX8_init_8 rfl ?_
  refine i_init C (wc := [(q5_0, .inr (1, [.int 0, .int 0, .int 0, .int 0, .null, .null, .null]))]) (wr := (a, .inr (8, [.null, .null, .null, .int 0, .int 0, .long 0, .int 0, .int 0, .null, .null, .null, .null, .null])) :: []) hw (iX1 l D cI cZ cL cF cM q5_0) (cwI 0 C.2.2.2.2 (gd_m w_346) rfl rfl rfl (C.2.2.2.2 _ (wc w_120)) (C.2.2.2.2 _ (wc w_472)) (C.2.2.2.2 _ (wc w_345)) rfl (by decide +kernel) ⟨Nat.le_of_ble_eq_true rfl, Nat.le_of_ble_eq_true rfl⟩) rfl hl.1 (Nat.le_of_ble_eq_true rfl) dX8_init_9 (c1 := 4) (s1 := 19) rfl rfl ⟨Nat.le_of_ble_eq_true rfl, Nat.le_of_ble_eq_true rfl⟩ (fun u9_1 H locs _ hw => ?_) rfl
  have hw : Wd D A s (T0 cI cZ cL cF cM) ((a, .inr (8, [.null, .null, .null, .int 0, .int 0, .long 0, .int 0, .int 0, .null, .null, .null, .null, .null])) :: bX1 cI cZ cL cF cM q5_0 u9_1 ++ ([])) _ _ := hw.permP (List.perm_append_comm_assoc (bX1 cI cZ cL cF cM q5_0 u9_1) ([(a, .inr (8, [.null, .null, .null, .int 0, .int 0, .long 0, .int 0, .int 0, .null, .null, .null, .null, .null]))]) ([]))
  refine i_putF (ci := 8) C hin hw (inC inW8) tyX8 tyX8_ok nmX8 0 rfl rfl 0 (by decide) (wc w_475) rfl rfl (ty := .object "RelayMouse$Floor") (by decide +kernel) rfl rfl (Nat.le_of_ble_eq_true rfl) (ws' := (a, .inr (8, [.ref q5_0, .null, .null, .int 0, .int 0, .long 0, .int 0, .int 0, .null, .null, .null, .null, .null])) :: bX1 cI cZ cL cF cM q5_0 u9_1 ++ ([])) rfl dX8_init_12 (fun H locs hw => ?_)
  refine lv_aload_n C.1 C.2.1 dX8_init_15 rfl (lv_at hl 0 rfl) ?_
  refine i_new (ci := 3) C hw (inC inW3) tyX3 tyX3_ok (wc w_473) (wc w_387) (wc w_121) rfl (fs := [.int 0, .int 0, .int 0, .int 0, .long 0, .long 0, .int 0, .int 0, .int 0, .null]) (fun j hj => by rcases (show j = 0 ∨ j = 1 ∨ j = 2 ∨ j = 3 ∨ j = 4 ∨ j = 5 ∨ j = 6 ∨ j = 7 ∨ j = 8 ∨ j = 9 by omega) with rfl | rfl | rfl | rfl | rfl | rfl | rfl | rfl | rfl | rfl <;> rfl) (c1 := 5) (s1 := 29) rfl rfl (Nat.le_of_ble_eq_true rfl) (Nat.le_of_ble_eq_true rfl) dX8_init_16 (fun q16_4 H hw => ?_)
  refine lv_dup C.1 C.2.1 dX8_init_19 rfl ?_
  refine i_initN C (wc := [(q16_4, .inr (3, [.int 0, .int 0, .int 0, .int 0, .long 0, .long 0, .int 0, .int 0, .int 0, .null]))]) (wr := (a, .inr (8, [.ref q5_0, .null, .null, .int 0, .int 0, .long 0, .int 0, .int 0, .null, .null, .null, .null, .null])) :: bX1 cI cZ cL cF cM q5_0 u9_1 ++ ([])) hw (iX3 l D cI cZ cL cF cM q16_4) ⟨va_cnB 0 C.2.2.2.2 (gd_m w_390) rfl rfl rfl (hw.2.2.2.2.2.2.2.2.2.1 (RX8, 20, yX3_init) (List.mem_of_getElem? (i := 8) rfl)) (C.2.2.2.2 _ (wc w_121)) (by decide +kernel) ⟨Nat.le_of_ble_eq_true rfl, Nat.le_of_ble_eq_true rfl⟩, rfl, (C.2.2.2.2 _ (wc w_389))⟩ rfl hl.1 (Nat.le_of_ble_eq_true rfl) dX8_init_20 (c1 := 6) (s1 := 32) rfl rfl ⟨Nat.le_of_ble_eq_true rfl, Nat.le_of_ble_eq_true rfl⟩ (fun u20_5 H locs _ hw => ?_) rfl
  have hw : Wd D A s (T0 cI cZ cL cF cM) ((a, .inr (8, [.ref q5_0, .null, .null, .int 0, .int 0, .long 0, .int 0, .int 0, .null, .null, .null, .null, .null])) :: bX3 cI cZ cL cF cM q16_4 u20_5 ++ (bX1 cI cZ cL cF cM q5_0 u9_1 ++ ([]))) _ _ := hw.permP (List.perm_append_comm_assoc (bX3 cI cZ cL cF cM q16_4 u20_5) ([(a, .inr (8, [.ref q5_0, .null, .null, .int 0, .int 0, .long 0, .int 0, .int 0, .null, .null, .null, .null, .null]))]) (bX1 cI cZ cL cF cM q5_0 u9_1 ++ ([])))
  refine i_putF (ci := 8) C hin hw (inC inW8) tyX8 tyX8_ok nmX8 0 rfl rfl 1 (by decide) (wc w_476) rfl rfl (ty := .object "RelayMouse$Mouse") (by decide +kernel) rfl rfl (Nat.le_of_ble_eq_true rfl) (ws' := (a, .inr (8, [.ref q5_0, .ref q16_4, .null, .int 0, .int 0, .long 0, .int 0, .int 0, .null, .null, .null, .null, .null])) :: bX3 cI cZ cL cF cM q16_4 u20_5 ++ (bX1 cI cZ cL cF cM q5_0 u9_1 ++ ([]))) rfl dX8_init_23 (fun H locs hw => ?_)
  refine lv_aload_n C.1 C.2.1 dX8_init_26 rfl (lv_at hl 0 rfl) ?_
  refine i_new (ci := 3) C hw (inC inW3) tyX3 tyX3_ok (wc w_473) (wc w_387) (wc w_121) rfl (fs := [.int 0, .int 0, .int 0, .int 0, .long 0, .long 0, .int 0, .int 0, .int 0, .null]) (fun j hj => by rcases (show j = 0 ∨ j = 1 ∨ j = 2 ∨ j = 3 ∨ j = 4 ∨ j = 5 ∨ j = 6 ∨ j = 7 ∨ j = 8 ∨ j = 9 by omega) with rfl | rfl | rfl | rfl | rfl | rfl | rfl | rfl | rfl | rfl <;> rfl) (c1 := 7) (s1 := 42) rfl rfl (Nat.le_of_ble_eq_true rfl) (Nat.le_of_ble_eq_true rfl) dX8_init_27 (fun q27_6 H hw => ?_)
  refine lv_dup C.1 C.2.1 dX8_init_30 rfl ?_
  refine i_initN C (wc := [(q27_6, .inr (3, [.int 0, .int 0, .int 0, .int 0, .long 0, .long 0, .int 0, .int 0, .int 0, .null]))]) (wr := (a, .inr (8, [.ref q5_0, .ref q16_4, .null, .int 0, .int 0, .long 0, .int 0, .int 0, .null, .null, .null, .null, .null])) :: bX3 cI cZ cL cF cM q16_4 u20_5 ++ (bX1 cI cZ cL cF cM q5_0 u9_1 ++ ([]))) hw (iX3 l D cI cZ cL cF cM q27_6) ⟨va_cnB 0 C.2.2.2.2 (gd_m w_390) rfl rfl rfl (hw.2.2.2.2.2.2.2.2.2.1 (RX8, 20, yX3_init) (List.mem_of_getElem? (i := 8) rfl)) (C.2.2.2.2 _ (wc w_121)) (by decide +kernel) ⟨Nat.le_of_ble_eq_true rfl, Nat.le_of_ble_eq_true rfl⟩, rfl, (C.2.2.2.2 _ (wc w_389))⟩ rfl hl.1 (Nat.le_of_ble_eq_true rfl) dX8_init_31 (c1 := 8) (s1 := 45) rfl rfl ⟨Nat.le_of_ble_eq_true rfl, Nat.le_of_ble_eq_true rfl⟩ (fun u31_7 H locs _ hw => ?_) rfl
  have hw : Wd D A s (T0 cI cZ cL cF cM) ((a, .inr (8, [.ref q5_0, .ref q16_4, .null, .int 0, .int 0, .long 0, .int 0, .int 0, .null, .null, .null, .null, .null])) :: bX3 cI cZ cL cF cM q27_6 u31_7 ++ (bX3 cI cZ cL cF cM q16_4 u20_5 ++ (bX1 cI cZ cL cF cM q5_0 u9_1 ++ ([])))) _ _ := hw.permP (List.perm_append_comm_assoc (bX3 cI cZ cL cF cM q27_6 u31_7) ([(a, .inr (8, [.ref q5_0, .ref q16_4, .null, .int 0, .int 0, .long 0, .int 0, .int 0, .null, .null, .null, .null, .null]))]) (bX3 cI cZ cL cF cM q16_4 u20_5 ++ (bX1 cI cZ cL cF cM q5_0 u9_1 ++ ([]))))
  refine i_putF (ci := 8) C hin hw (inC inW8) tyX8 tyX8_ok nmX8 0 rfl rfl 2 (by decide) (wc w_477) rfl rfl (ty := .object "RelayMouse$Mouse") (by decide +kernel) rfl rfl (Nat.le_of_ble_eq_true rfl) (ws' := (a, .inr (8, [.ref q5_0, .ref q16_4, .ref q27_6, .int 0, .int 0, .long 0, .int 0, .int 0, .null, .null, .null, .null, .null])) :: bX3 cI cZ cL cF cM q27_6 u31_7 ++ (bX3 cI cZ cL cF cM q16_4 u20_5 ++ (bX1 cI cZ cL cF cM q5_0 u9_1 ++ ([])))) rfl dX8_init_34 (fun H locs hw => ?_)
  refine lv_aload_n C.1 C.2.1 dX8_init_37 rfl (lv_at hl 0 rfl) ?_
  refine lv_iconst (v := (4 : Int32)) C.1 C.2.1 dX8_init_38 (by decide) ?_
  refine i_newa C hw (ty := .int) (wc w_214) rfl (fun _ _ h => h) 0 rfl (N' := 4) (a0 := (4, .inl (fun _ => 0))) (fun cA => by first | rfl | (rw [vp_cell_i]; rfl) | (rw [vp_cell_l]; rfl)) (by decide) (by decide) (by decide) (c1 := 9) (s1 := 49) rfl rfl (Nat.le_of_ble_eq_true rfl) (Nat.le_of_ble_eq_true rfl) dX8_init_39 (fun q39 H hw => ?_)
  refine i_putF (ci := 8) C hin hw (inC inW8) tyX8 tyX8_ok nmX8 0 rfl rfl 8 (by decide) (wc w_483) rfl rfl (ty := .array .int) (by decide +kernel) rfl rfl (Nat.le_of_ble_eq_true rfl) (ws' := (a, .inr (8, [.ref q5_0, .ref q16_4, .ref q27_6, .int 0, .int 0, .long 0, .int 0, .int 0, .ref q39, .null, .null, .null, .null])) :: (q39, .inl (cI, 4, .inl (fun _ => 0))) :: bX3 cI cZ cL cF cM q27_6 u31_7 ++ (bX3 cI cZ cL cF cM q16_4 u20_5 ++ (bX1 cI cZ cL cF cM q5_0 u9_1 ++ ([])))) rfl dX8_init_41 (fun H locs hw => ?_)
  refine lv_aload_n C.1 C.2.1 dX8_init_44 rfl (lv_at hl 0 rfl) ?_
  refine lv_iconst (v := (4 : Int32)) C.1 C.2.1 dX8_init_45 (by decide) ?_
  refine i_newa C hw (ty := .int) (wc w_214) rfl (fun _ _ h => h) 0 rfl (N' := 4) (a0 := (4, .inl (fun _ => 0))) (fun cA => by first | rfl | (rw [vp_cell_i]; rfl) | (rw [vp_cell_l]; rfl)) (by decide) (by decide) (by decide) (c1 := 10) (s1 := 53) rfl rfl (Nat.le_of_ble_eq_true rfl) (Nat.le_of_ble_eq_true rfl) dX8_init_46 (fun q46 H hw => ?_)
  refine i_putF (ci := 8) C hin hw (inC inW8) tyX8 tyX8_ok nmX8 0 rfl rfl 9 (by decide) (wc w_484) rfl rfl (ty := .array .int) (by decide +kernel) rfl rfl (Nat.le_of_ble_eq_true rfl) (ws' := (a, .inr (8, [.ref q5_0, .ref q16_4, .ref q27_6, .int 0, .int 0, .long 0, .int 0, .int 0, .ref q39, .ref q46, .null, .null, .null])) :: (q46, .inl (cI, 4, .inl (fun _ => 0))) :: (q39, .inl (cI, 4, .inl (fun _ => 0))) :: bX3 cI cZ cL cF cM q27_6 u31_7 ++ (bX3 cI cZ cL cF cM q16_4 u20_5 ++ (bX1 cI cZ cL cF cM q5_0 u9_1 ++ ([])))) rfl dX8_init_48 (fun H locs hw => ?_)
  refine lv_aload_n C.1 C.2.1 dX8_init_51 rfl (lv_at hl 0 rfl) ?_
  refine lv_iconst (v := (4 : Int32)) C.1 C.2.1 dX8_init_52 (by decide) ?_
  refine i_newa C hw (ty := .int) (wc w_214) rfl (fun _ _ h => h) 0 rfl (N' := 4) (a0 := (4, .inl (fun _ => 0))) (fun cA => by first | rfl | (rw [vp_cell_i]; rfl) | (rw [vp_cell_l]; rfl)) (by decide) (by decide) (by decide) (c1 := 11) (s1 := 57) rfl rfl (Nat.le_of_ble_eq_true rfl) (Nat.le_of_ble_eq_true rfl) dX8_init_53 (fun q53 H hw => ?_)
  refine i_putF (ci := 8) C hin hw (inC inW8) tyX8 tyX8_ok nmX8 0 rfl rfl 10 (by decide) (wc w_485) rfl rfl (ty := .array .int) (by decide +kernel) rfl rfl (Nat.le_of_ble_eq_true rfl) (ws' := (a, .inr (8, [.ref q5_0, .ref q16_4, .ref q27_6, .int 0, .int 0, .long 0, .int 0, .int 0, .ref q39, .ref q46, .ref q53, .null, .null])) :: (q53, .inl (cI, 4, .inl (fun _ => 0))) :: (q46, .inl (cI, 4, .inl (fun _ => 0))) :: (q39, .inl (cI, 4, .inl (fun _ => 0))) :: bX3 cI cZ cL cF cM q27_6 u31_7 ++ (bX3 cI cZ cL cF cM q16_4 u20_5 ++ (bX1 cI cZ cL cF cM q5_0 u9_1 ++ ([])))) rfl dX8_init_55 (fun H locs hw => ?_)
  refine lv_aload_n C.1 C.2.1 dX8_init_58 rfl (lv_at hl 0 rfl) ?_
  refine lv_iconst (v := (4 : Int32)) C.1 C.2.1 dX8_init_59 (by decide) ?_
  refine i_newa C hw (ty := .int) (wc w_214) rfl (fun _ _ h => h) 0 rfl (N' := 4) (a0 := (4, .inl (fun _ => 0))) (fun cA => by first | rfl | (rw [vp_cell_i]; rfl) | (rw [vp_cell_l]; rfl)) (by decide) (by decide) (by decide) (c1 := 12) (s1 := 61) rfl rfl (Nat.le_of_ble_eq_true rfl) (Nat.le_of_ble_eq_true rfl) dX8_init_60 (fun q60 H hw => ?_)
  refine i_putF (ci := 8) C hin hw (inC inW8) tyX8 tyX8_ok nmX8 0 rfl rfl 11 (by decide) (wc w_486) rfl rfl (ty := .array .int) (by decide +kernel) rfl rfl (Nat.le_of_ble_eq_true rfl) (ws' := (a, .inr (8, [.ref q5_0, .ref q16_4, .ref q27_6, .int 0, .int 0, .long 0, .int 0, .int 0, .ref q39, .ref q46, .ref q53, .ref q60, .null])) :: (q60, .inl (cI, 4, .inl (fun _ => 0))) :: (q53, .inl (cI, 4, .inl (fun _ => 0))) :: (q46, .inl (cI, 4, .inl (fun _ => 0))) :: (q39, .inl (cI, 4, .inl (fun _ => 0))) :: bX3 cI cZ cL cF cM q27_6 u31_7 ++ (bX3 cI cZ cL cF cM q16_4 u20_5 ++ (bX1 cI cZ cL cF cM q5_0 u9_1 ++ ([])))) rfl dX8_init_62 (fun H locs hw => ?_)
  refine lv_aload_n C.1 C.2.1 dX8_init_65 rfl (lv_at hl 0 rfl) ?_
  refine lv_iconst (v := (4 : Int32)) C.1 C.2.1 dX8_init_66 (by decide) ?_
  refine i_newa C hw (ty := .int) (wc w_214) rfl (fun _ _ h => h) 0 rfl (N' := 4) (a0 := (4, .inl (fun _ => 0))) (fun cA => by first | rfl | (rw [vp_cell_i]; rfl) | (rw [vp_cell_l]; rfl)) (by decide) (by decide) (by decide) (c1 := 13) (s1 := 65) rfl rfl (Nat.le_of_ble_eq_true rfl) (Nat.le_of_ble_eq_true rfl) dX8_init_67 (fun q67 H hw => ?_)
  refine i_putF (ci := 8) C hin hw (inC inW8) tyX8 tyX8_ok nmX8 0 rfl rfl 12 (by decide) (wc w_487) rfl rfl (ty := .array .int) (by decide +kernel) rfl rfl (Nat.le_of_ble_eq_true rfl) (ws' := (a, .inr (8, [.ref q5_0, .ref q16_4, .ref q27_6, .int 0, .int 0, .long 0, .int 0, .int 0, .ref q39, .ref q46, .ref q53, .ref q60, .ref q67])) :: (q67, .inl (cI, 4, .inl (fun _ => 0))) :: (q60, .inl (cI, 4, .inl (fun _ => 0))) :: (q53, .inl (cI, 4, .inl (fun _ => 0))) :: (q46, .inl (cI, 4, .inl (fun _ => 0))) :: (q39, .inl (cI, 4, .inl (fun _ => 0))) :: bX3 cI cZ cL cF cM q27_6 u31_7 ++ (bX3 cI cZ cL cF cM q16_4 u20_5 ++ (bX1 cI cZ cL cF cM q5_0 u9_1 ++ ([])))) rfl dX8_init_69 (fun H locs hw => ?_)
  have hw : Wd D A s (T0 cI cZ cL cF cM) (bX8 cI cZ cL cF cM a (fun j => [q67, q60, q53, q46, q39, q27_6, u31_7 0, q16_4, u20_5 0, q5_0, u9_1 0, u9_1 1, u9_1 2].getD j 0)) _ _ := hw
  exact hR _ _ (fun j => [q67, q60, q53, q46, q39, q27_6, u31_7 0, q16_4, u20_5 0, q5_0, u9_1 0, u9_1 1, u9_1 2].getD j 0) _ _ dX8_init_72 trivial hw
abbrev bX2 (cI cZ cL cF cM : ClassId) (a : Nat) (u : Nat → Nat) : va_W := (a, .inr (2, [.int 0, .int 0, .int (-1 : Int32), .int 0, .ref (u 13), .ref (u 11), .ref (u 10), .ref (u 6), .ref (u 4), .ref (u 2), .ref (u 1), .ref (u 0)])) :: ((u 0), .inl (cI, 500, .inl (fun _ => 0))) :: bX0 cI cZ cL cF cM (u 1) (fun j => u (2 + j)) ++ (bX3 cI cZ cL cF cM (u 2) (fun j => u (3 + j)) ++ (bX3 cI cZ cL cF cM (u 4) (fun j => u (5 + j)) ++ (bX1 cI cZ cL cF cM (u 6) (fun j => u (7 + j)) ++ (bX0 cI cZ cL cF cM (u 10) (fun j => u (11 + j)) ++ (bX3 cI cZ cL cF cM (u 11) (fun j => u (12 + j)) ++ (bX4 cI cZ cL cF cM (u 13) (fun j => u (14 + j)) ++ ([])))))))
abbrev iX2_rm : Room := { frames := 4, cells := 17, slots := 690, locals := 78 }
set_option maxHeartbeats 4000000 in
set_option maxRecDepth 100000 in
theorem iX2 (l : Launch) (D : va_G) (cI cZ cL cF cM : ClassId) (a : Nat) : Cn 17 690 l yX2_init wsX2_init iX2_rm [.ref a] D (T0 cI cZ cL cF cM) [(a, .inr (2, [.int 0, .int 0, .int 0, .int 0, .null, .null, .null, .null, .null, .null, .null, .null]))] (fun u : Nat → Nat => bX2 cI cZ cL cF cM a u) (fun _ => True) := by
  refine Cn_of (cc := cX2_init) (maxL := 1) (by decide) rfl (Nat.le_of_ble_eq_true rfl) ?_
  intro p e s m below meth c A Q C hin hw hR ls hl
  have hin : meth.name = "<init>" := hin
  have hl : lv_has ls 1 [(0, .ref a)] := hl
  refine lv_aload_n C.1 C.2.1 dX2_init_0 rfl (lv_at hl 0 rfl) ?_
  refine W.objInit C.1 C.2.1 C.2.2.2.1 (C.2.2.2.2 _ (wc w_520)) (C.2.2.2.2 _ (wc w_144)) (C.2.2.2.2 _ (wc w_145)) rfl (by rw [C.2.2.1]; exact hl.1) rfl dX2_init_1 (Nat.le_of_ble_eq_true rfl) (Nat.le_of_ble_eq_true rfl) ?_
  refine W.eq (g2 := F0 m 4 ls []) rfl ?_
  refine lv_aload_n C.1 C.2.1 dX2_init_4 rfl (lv_at hl 0 rfl) ?_
  refine lv_iconst (v := (-1 : Int32)) C.1 C.2.1 dX2_init_5 (by decide) ?_
  refine wd_put (ci := 2) C hw (inC inW2) tyX2 tyX2_ok nmX2 0 rfl rfl 2 (by decide) (wc w_533) rfl (ty := .int) (v := .int (-1 : Int32)) (by decide +kernel) rfl rfl (Nat.le_of_ble_eq_true rfl) (ws' := (a, .inr (2, [.int 0, .int 0, .int (-1 : Int32), .int 0, .null, .null, .null, .null, .null, .null, .null, .null])) :: []) rfl dX2_init_6 (fun H locs hw => ?_)
  refine lv_aload_n C.1 C.2.1 dX2_init_9 rfl (lv_at hl 0 rfl) ?_
  refine i_new (ci := 4) C hw (inC inW4) tyX4 tyX4_ok (wc w_521) (wc w_273) (wc w_119) rfl (fs := [.int 0, .int 0, .int 0, .null, .null, .null]) (fun j hj => by rcases (show j = 0 ∨ j = 1 ∨ j = 2 ∨ j = 3 ∨ j = 4 ∨ j = 5 by omega) with rfl | rfl | rfl | rfl | rfl | rfl <;> rfl) (c1 := 1) (s1 := 6) rfl rfl (Nat.le_of_ble_eq_true rfl) (Nat.le_of_ble_eq_true rfl) dX2_init_10 (fun q10_0 H hw => ?_)
  refine lv_dup C.1 C.2.1 dX2_init_13 rfl ?_
  refine i_initN C (wc := [(q10_0, .inr (4, [.int 0, .int 0, .int 0, .null, .null, .null]))]) (wr := (a, .inr (2, [.int 0, .int 0, .int (-1 : Int32), .int 0, .null, .null, .null, .null, .null, .null, .null, .null])) :: []) hw (iX4 l D cI cZ cL cF cM q10_0) ⟨va_cnB 0 C.2.2.2.2 (gd_m w_276) rfl rfl rfl (hw.2.2.2.2.2.2.2.2.2.1 (RX2, 17, yX4_init) (List.mem_of_getElem? (i := 10) rfl)) (C.2.2.2.2 _ (wc w_119)) (by decide +kernel) ⟨Nat.le_of_ble_eq_true rfl, Nat.le_of_ble_eq_true rfl⟩, rfl, (C.2.2.2.2 _ (wc w_275))⟩ rfl hl.1 (Nat.le_of_ble_eq_true rfl) dX2_init_14 (c1 := 4) (s1 := 118) rfl rfl ⟨Nat.le_of_ble_eq_true rfl, Nat.le_of_ble_eq_true rfl⟩ (fun u14_1 H locs _ hw => ?_) rfl
  have hw : Wd D A s (T0 cI cZ cL cF cM) ((a, .inr (2, [.int 0, .int 0, .int (-1 : Int32), .int 0, .null, .null, .null, .null, .null, .null, .null, .null])) :: bX4 cI cZ cL cF cM q10_0 u14_1 ++ ([])) _ _ := hw.permP (List.perm_append_comm_assoc (bX4 cI cZ cL cF cM q10_0 u14_1) ([(a, .inr (2, [.int 0, .int 0, .int (-1 : Int32), .int 0, .null, .null, .null, .null, .null, .null, .null, .null]))]) ([]))
  refine wd_put (ci := 2) C hw (inC inW2) tyX2 tyX2_ok nmX2 0 rfl rfl 4 (by decide) (wc w_537) rfl (ty := .object "RelayMouse$Net") (v := .ref q10_0) (by decide +kernel) rfl rfl (Nat.le_of_ble_eq_true rfl) (ws' := (a, .inr (2, [.int 0, .int 0, .int (-1 : Int32), .int 0, .ref q10_0, .null, .null, .null, .null, .null, .null, .null])) :: bX4 cI cZ cL cF cM q10_0 u14_1 ++ ([])) rfl dX2_init_17 (fun H locs hw => ?_)
  refine lv_aload_n C.1 C.2.1 dX2_init_20 rfl (lv_at hl 0 rfl) ?_
  refine i_new (ci := 3) C hw (inC inW3) tyX3 tyX3_ok (wc w_523) (wc w_387) (wc w_121) rfl (fs := [.int 0, .int 0, .int 0, .int 0, .long 0, .long 0, .int 0, .int 0, .int 0, .null]) (fun j hj => by rcases (show j = 0 ∨ j = 1 ∨ j = 2 ∨ j = 3 ∨ j = 4 ∨ j = 5 ∨ j = 6 ∨ j = 7 ∨ j = 8 ∨ j = 9 by omega) with rfl | rfl | rfl | rfl | rfl | rfl | rfl | rfl | rfl | rfl <;> rfl) (c1 := 5) (s1 := 128) rfl rfl (Nat.le_of_ble_eq_true rfl) (Nat.le_of_ble_eq_true rfl) dX2_init_21 (fun q21_4 H hw => ?_)
  refine lv_dup C.1 C.2.1 dX2_init_24 rfl ?_
  refine i_initN C (wc := [(q21_4, .inr (3, [.int 0, .int 0, .int 0, .int 0, .long 0, .long 0, .int 0, .int 0, .int 0, .null]))]) (wr := (a, .inr (2, [.int 0, .int 0, .int (-1 : Int32), .int 0, .ref q10_0, .null, .null, .null, .null, .null, .null, .null])) :: bX4 cI cZ cL cF cM q10_0 u14_1 ++ ([])) hw (iX3 l D cI cZ cL cF cM q21_4) ⟨va_cnB 0 C.2.2.2.2 (gd_m w_390) rfl rfl rfl (hw.2.2.2.2.2.2.2.2.2.1 (RX2, 24, yX3_init) (List.mem_of_getElem? (i := 11) rfl)) (C.2.2.2.2 _ (wc w_121)) (by decide +kernel) ⟨Nat.le_of_ble_eq_true rfl, Nat.le_of_ble_eq_true rfl⟩, rfl, (C.2.2.2.2 _ (wc w_389))⟩ rfl hl.1 (Nat.le_of_ble_eq_true rfl) dX2_init_25 (c1 := 6) (s1 := 131) rfl rfl ⟨Nat.le_of_ble_eq_true rfl, Nat.le_of_ble_eq_true rfl⟩ (fun u25_5 H locs _ hw => ?_) rfl
  have hw : Wd D A s (T0 cI cZ cL cF cM) ((a, .inr (2, [.int 0, .int 0, .int (-1 : Int32), .int 0, .ref q10_0, .null, .null, .null, .null, .null, .null, .null])) :: bX3 cI cZ cL cF cM q21_4 u25_5 ++ (bX4 cI cZ cL cF cM q10_0 u14_1 ++ ([]))) _ _ := hw.permP (List.perm_append_comm_assoc (bX3 cI cZ cL cF cM q21_4 u25_5) ([(a, .inr (2, [.int 0, .int 0, .int (-1 : Int32), .int 0, .ref q10_0, .null, .null, .null, .null, .null, .null, .null]))]) (bX4 cI cZ cL cF cM q10_0 u14_1 ++ ([])))
  refine i_putF (ci := 2) C hin hw (inC inW2) tyX2 tyX2_ok nmX2 0 rfl rfl 5 (by decide) (wc w_538) rfl rfl (ty := .object "RelayMouse$Mouse") (by decide +kernel) rfl rfl (Nat.le_of_ble_eq_true rfl) (ws' := (a, .inr (2, [.int 0, .int 0, .int (-1 : Int32), .int 0, .ref q10_0, .ref q21_4, .null, .null, .null, .null, .null, .null])) :: bX3 cI cZ cL cF cM q21_4 u25_5 ++ (bX4 cI cZ cL cF cM q10_0 u14_1 ++ ([]))) rfl dX2_init_28 (fun H locs hw => ?_)
  refine lv_aload_n C.1 C.2.1 dX2_init_31 rfl (lv_at hl 0 rfl) ?_
  refine i_new (ci := 0) C hw (inC inW0) tyX0 tyX0_ok (wc w_525) (wc w_434) (wc w_122) rfl (fs := [.int 0, .int 0, .int 0, .int 0, .int 0, .int 0, .int 0]) (fun j hj => by rcases (show j = 0 ∨ j = 1 ∨ j = 2 ∨ j = 3 ∨ j = 4 ∨ j = 5 ∨ j = 6 by omega) with rfl | rfl | rfl | rfl | rfl | rfl | rfl <;> rfl) (c1 := 7) (s1 := 138) rfl rfl (Nat.le_of_ble_eq_true rfl) (Nat.le_of_ble_eq_true rfl) dX2_init_32 (fun q32_6 H hw => ?_)
  refine lv_dup C.1 C.2.1 dX2_init_35 rfl ?_
  refine i_initN C (wc := [(q32_6, .inr (0, [.int 0, .int 0, .int 0, .int 0, .int 0, .int 0, .int 0]))]) (wr := (a, .inr (2, [.int 0, .int 0, .int (-1 : Int32), .int 0, .ref q10_0, .ref q21_4, .null, .null, .null, .null, .null, .null])) :: bX3 cI cZ cL cF cM q21_4 u25_5 ++ (bX4 cI cZ cL cF cM q10_0 u14_1 ++ ([]))) hw (iX0 l D cI cZ cL cF cM q32_6) ⟨va_cnB 0 C.2.2.2.2 (gd_m w_437) rfl rfl rfl (hw.2.2.2.2.2.2.2.2.2.1 (RX2, 31, yX0_init) (List.mem_of_getElem? (i := 12) rfl)) (C.2.2.2.2 _ (wc w_122)) (by decide +kernel) ⟨Nat.le_of_ble_eq_true rfl, Nat.le_of_ble_eq_true rfl⟩, rfl, (C.2.2.2.2 _ (wc w_436))⟩ rfl hl.1 (Nat.le_of_ble_eq_true rfl) dX2_init_36 (c1 := 7) (s1 := 138) rfl rfl ⟨Nat.le_of_ble_eq_true rfl, Nat.le_of_ble_eq_true rfl⟩ (fun u36_7 H locs _ hw => ?_) rfl
  have hw : Wd D A s (T0 cI cZ cL cF cM) ((a, .inr (2, [.int 0, .int 0, .int (-1 : Int32), .int 0, .ref q10_0, .ref q21_4, .null, .null, .null, .null, .null, .null])) :: bX0 cI cZ cL cF cM q32_6 u36_7 ++ (bX3 cI cZ cL cF cM q21_4 u25_5 ++ (bX4 cI cZ cL cF cM q10_0 u14_1 ++ ([])))) _ _ := hw.permP (List.perm_append_comm_assoc (bX0 cI cZ cL cF cM q32_6 u36_7) ([(a, .inr (2, [.int 0, .int 0, .int (-1 : Int32), .int 0, .ref q10_0, .ref q21_4, .null, .null, .null, .null, .null, .null]))]) (bX3 cI cZ cL cF cM q21_4 u25_5 ++ (bX4 cI cZ cL cF cM q10_0 u14_1 ++ ([]))))
  refine i_putF (ci := 2) C hin hw (inC inW2) tyX2 tyX2_ok nmX2 0 rfl rfl 6 (by decide) (wc w_539) rfl rfl (ty := .object "RelayMouse$Coils") (by decide +kernel) rfl rfl (Nat.le_of_ble_eq_true rfl) (ws' := (a, .inr (2, [.int 0, .int 0, .int (-1 : Int32), .int 0, .ref q10_0, .ref q21_4, .ref q32_6, .null, .null, .null, .null, .null])) :: bX0 cI cZ cL cF cM q32_6 u36_7 ++ (bX3 cI cZ cL cF cM q21_4 u25_5 ++ (bX4 cI cZ cL cF cM q10_0 u14_1 ++ ([])))) rfl dX2_init_39 (fun H locs hw => ?_)
  refine lv_aload_n C.1 C.2.1 dX2_init_42 rfl (lv_at hl 0 rfl) ?_
  refine i_new (ci := 1) C hw (inC inW1) tyX1 tyX1_ok (wc w_527) (wc w_343) (wc w_120) rfl (fs := [.int 0, .int 0, .int 0, .int 0, .null, .null, .null]) (fun j hj => by rcases (show j = 0 ∨ j = 1 ∨ j = 2 ∨ j = 3 ∨ j = 4 ∨ j = 5 ∨ j = 6 by omega) with rfl | rfl | rfl | rfl | rfl | rfl | rfl <;> rfl) (c1 := 8) (s1 := 145) rfl rfl (Nat.le_of_ble_eq_true rfl) (Nat.le_of_ble_eq_true rfl) dX2_init_43 (fun q43_7 H hw => ?_)
  refine lv_dup C.1 C.2.1 dX2_init_46 rfl ?_
  refine i_init C (wc := [(q43_7, .inr (1, [.int 0, .int 0, .int 0, .int 0, .null, .null, .null]))]) (wr := (a, .inr (2, [.int 0, .int 0, .int (-1 : Int32), .int 0, .ref q10_0, .ref q21_4, .ref q32_6, .null, .null, .null, .null, .null])) :: bX0 cI cZ cL cF cM q32_6 u36_7 ++ (bX3 cI cZ cL cF cM q21_4 u25_5 ++ (bX4 cI cZ cL cF cM q10_0 u14_1 ++ ([])))) hw (iX1 l D cI cZ cL cF cM q43_7) (cwI 0 C.2.2.2.2 (gd_m w_346) rfl rfl rfl (C.2.2.2.2 _ (wc w_120)) (C.2.2.2.2 _ (wc w_528)) (C.2.2.2.2 _ (wc w_345)) rfl (by decide +kernel) ⟨Nat.le_of_ble_eq_true rfl, Nat.le_of_ble_eq_true rfl⟩) rfl hl.1 (Nat.le_of_ble_eq_true rfl) dX2_init_47 (c1 := 11) (s1 := 157) rfl rfl ⟨Nat.le_of_ble_eq_true rfl, Nat.le_of_ble_eq_true rfl⟩ (fun u47_8 H locs _ hw => ?_) rfl
  have hw : Wd D A s (T0 cI cZ cL cF cM) ((a, .inr (2, [.int 0, .int 0, .int (-1 : Int32), .int 0, .ref q10_0, .ref q21_4, .ref q32_6, .null, .null, .null, .null, .null])) :: bX1 cI cZ cL cF cM q43_7 u47_8 ++ (bX0 cI cZ cL cF cM q32_6 u36_7 ++ (bX3 cI cZ cL cF cM q21_4 u25_5 ++ (bX4 cI cZ cL cF cM q10_0 u14_1 ++ ([]))))) _ _ := hw.permP (List.perm_append_comm_assoc (bX1 cI cZ cL cF cM q43_7 u47_8) ([(a, .inr (2, [.int 0, .int 0, .int (-1 : Int32), .int 0, .ref q10_0, .ref q21_4, .ref q32_6, .null, .null, .null, .null, .null]))]) (bX0 cI cZ cL cF cM q32_6 u36_7 ++ (bX3 cI cZ cL cF cM q21_4 u25_5 ++ (bX4 cI cZ cL cF cM q10_0 u14_1 ++ ([])))))
  refine i_putF (ci := 2) C hin hw (inC inW2) tyX2 tyX2_ok nmX2 0 rfl rfl 7 (by decide) (wc w_540) rfl rfl (ty := .object "RelayMouse$Floor") (by decide +kernel) rfl rfl (Nat.le_of_ble_eq_true rfl) (ws' := (a, .inr (2, [.int 0, .int 0, .int (-1 : Int32), .int 0, .ref q10_0, .ref q21_4, .ref q32_6, .ref q43_7, .null, .null, .null, .null])) :: bX1 cI cZ cL cF cM q43_7 u47_8 ++ (bX0 cI cZ cL cF cM q32_6 u36_7 ++ (bX3 cI cZ cL cF cM q21_4 u25_5 ++ (bX4 cI cZ cL cF cM q10_0 u14_1 ++ ([]))))) rfl dX2_init_50 (fun H locs hw => ?_)
  refine lv_aload_n C.1 C.2.1 dX2_init_53 rfl (lv_at hl 0 rfl) ?_
  refine i_new (ci := 3) C hw (inC inW3) tyX3 tyX3_ok (wc w_523) (wc w_387) (wc w_121) rfl (fs := [.int 0, .int 0, .int 0, .int 0, .long 0, .long 0, .int 0, .int 0, .int 0, .null]) (fun j hj => by rcases (show j = 0 ∨ j = 1 ∨ j = 2 ∨ j = 3 ∨ j = 4 ∨ j = 5 ∨ j = 6 ∨ j = 7 ∨ j = 8 ∨ j = 9 by omega) with rfl | rfl | rfl | rfl | rfl | rfl | rfl | rfl | rfl | rfl <;> rfl) (c1 := 12) (s1 := 167) rfl rfl (Nat.le_of_ble_eq_true rfl) (Nat.le_of_ble_eq_true rfl) dX2_init_54 (fun q54_11 H hw => ?_)
  refine lv_dup C.1 C.2.1 dX2_init_57 rfl ?_
  refine i_initN C (wc := [(q54_11, .inr (3, [.int 0, .int 0, .int 0, .int 0, .long 0, .long 0, .int 0, .int 0, .int 0, .null]))]) (wr := (a, .inr (2, [.int 0, .int 0, .int (-1 : Int32), .int 0, .ref q10_0, .ref q21_4, .ref q32_6, .ref q43_7, .null, .null, .null, .null])) :: bX1 cI cZ cL cF cM q43_7 u47_8 ++ (bX0 cI cZ cL cF cM q32_6 u36_7 ++ (bX3 cI cZ cL cF cM q21_4 u25_5 ++ (bX4 cI cZ cL cF cM q10_0 u14_1 ++ ([]))))) hw (iX3 l D cI cZ cL cF cM q54_11) ⟨va_cnB 0 C.2.2.2.2 (gd_m w_390) rfl rfl rfl (hw.2.2.2.2.2.2.2.2.2.1 (RX2, 24, yX3_init) (List.mem_of_getElem? (i := 11) rfl)) (C.2.2.2.2 _ (wc w_121)) (by decide +kernel) ⟨Nat.le_of_ble_eq_true rfl, Nat.le_of_ble_eq_true rfl⟩, rfl, (C.2.2.2.2 _ (wc w_389))⟩ rfl hl.1 (Nat.le_of_ble_eq_true rfl) dX2_init_58 (c1 := 13) (s1 := 170) rfl rfl ⟨Nat.le_of_ble_eq_true rfl, Nat.le_of_ble_eq_true rfl⟩ (fun u58_12 H locs _ hw => ?_) rfl
  have hw : Wd D A s (T0 cI cZ cL cF cM) ((a, .inr (2, [.int 0, .int 0, .int (-1 : Int32), .int 0, .ref q10_0, .ref q21_4, .ref q32_6, .ref q43_7, .null, .null, .null, .null])) :: bX3 cI cZ cL cF cM q54_11 u58_12 ++ (bX1 cI cZ cL cF cM q43_7 u47_8 ++ (bX0 cI cZ cL cF cM q32_6 u36_7 ++ (bX3 cI cZ cL cF cM q21_4 u25_5 ++ (bX4 cI cZ cL cF cM q10_0 u14_1 ++ ([])))))) _ _ := hw.permP (List.perm_append_comm_assoc (bX3 cI cZ cL cF cM q54_11 u58_12) ([(a, .inr (2, [.int 0, .int 0, .int (-1 : Int32), .int 0, .ref q10_0, .ref q21_4, .ref q32_6, .ref q43_7, .null, .null, .null, .null]))]) (bX1 cI cZ cL cF cM q43_7 u47_8 ++ (bX0 cI cZ cL cF cM q32_6 u36_7 ++ (bX3 cI cZ cL cF cM q21_4 u25_5 ++ (bX4 cI cZ cL cF cM q10_0 u14_1 ++ ([]))))))
  refine i_putF (ci := 2) C hin hw (inC inW2) tyX2 tyX2_ok nmX2 0 rfl rfl 8 (by decide) (wc w_541) rfl rfl (ty := .object "RelayMouse$Mouse") (by decide +kernel) rfl rfl (Nat.le_of_ble_eq_true rfl) (ws' := (a, .inr (2, [.int 0, .int 0, .int (-1 : Int32), .int 0, .ref q10_0, .ref q21_4, .ref q32_6, .ref q43_7, .ref q54_11, .null, .null, .null])) :: bX3 cI cZ cL cF cM q54_11 u58_12 ++ (bX1 cI cZ cL cF cM q43_7 u47_8 ++ (bX0 cI cZ cL cF cM q32_6 u36_7 ++ (bX3 cI cZ cL cF cM q21_4 u25_5 ++ (bX4 cI cZ cL cF cM q10_0 u14_1 ++ ([])))))) rfl dX2_init_61 (fun H locs hw => ?_)
  refine lv_aload_n C.1 C.2.1 dX2_init_64 rfl (lv_at hl 0 rfl) ?_
  refine i_new (ci := 3) C hw (inC inW3) tyX3 tyX3_ok (wc w_523) (wc w_387) (wc w_121) rfl (fs := [.int 0, .int 0, .int 0, .int 0, .long 0, .long 0, .int 0, .int 0, .int 0, .null]) (fun j hj => by rcases (show j = 0 ∨ j = 1 ∨ j = 2 ∨ j = 3 ∨ j = 4 ∨ j = 5 ∨ j = 6 ∨ j = 7 ∨ j = 8 ∨ j = 9 by omega) with rfl | rfl | rfl | rfl | rfl | rfl | rfl | rfl | rfl | rfl <;> rfl) (c1 := 14) (s1 := 180) rfl rfl (Nat.le_of_ble_eq_true rfl) (Nat.le_of_ble_eq_true rfl) dX2_init_65 (fun q65_13 H hw => ?_)
  refine lv_dup C.1 C.2.1 dX2_init_68 rfl ?_
  refine i_initN C (wc := [(q65_13, .inr (3, [.int 0, .int 0, .int 0, .int 0, .long 0, .long 0, .int 0, .int 0, .int 0, .null]))]) (wr := (a, .inr (2, [.int 0, .int 0, .int (-1 : Int32), .int 0, .ref q10_0, .ref q21_4, .ref q32_6, .ref q43_7, .ref q54_11, .null, .null, .null])) :: bX3 cI cZ cL cF cM q54_11 u58_12 ++ (bX1 cI cZ cL cF cM q43_7 u47_8 ++ (bX0 cI cZ cL cF cM q32_6 u36_7 ++ (bX3 cI cZ cL cF cM q21_4 u25_5 ++ (bX4 cI cZ cL cF cM q10_0 u14_1 ++ ([])))))) hw (iX3 l D cI cZ cL cF cM q65_13) ⟨va_cnB 0 C.2.2.2.2 (gd_m w_390) rfl rfl rfl (hw.2.2.2.2.2.2.2.2.2.1 (RX2, 24, yX3_init) (List.mem_of_getElem? (i := 11) rfl)) (C.2.2.2.2 _ (wc w_121)) (by decide +kernel) ⟨Nat.le_of_ble_eq_true rfl, Nat.le_of_ble_eq_true rfl⟩, rfl, (C.2.2.2.2 _ (wc w_389))⟩ rfl hl.1 (Nat.le_of_ble_eq_true rfl) dX2_init_69 (c1 := 15) (s1 := 183) rfl rfl ⟨Nat.le_of_ble_eq_true rfl, Nat.le_of_ble_eq_true rfl⟩ (fun u69_14 H locs _ hw => ?_) rfl
  have hw : Wd D A s (T0 cI cZ cL cF cM) ((a, .inr (2, [.int 0, .int 0, .int (-1 : Int32), .int 0, .ref q10_0, .ref q21_4, .ref q32_6, .ref q43_7, .ref q54_11, .null, .null, .null])) :: bX3 cI cZ cL cF cM q65_13 u69_14 ++ (bX3 cI cZ cL cF cM q54_11 u58_12 ++ (bX1 cI cZ cL cF cM q43_7 u47_8 ++ (bX0 cI cZ cL cF cM q32_6 u36_7 ++ (bX3 cI cZ cL cF cM q21_4 u25_5 ++ (bX4 cI cZ cL cF cM q10_0 u14_1 ++ ([]))))))) _ _ := hw.permP (List.perm_append_comm_assoc (bX3 cI cZ cL cF cM q65_13 u69_14) ([(a, .inr (2, [.int 0, .int 0, .int (-1 : Int32), .int 0, .ref q10_0, .ref q21_4, .ref q32_6, .ref q43_7, .ref q54_11, .null, .null, .null]))]) (bX3 cI cZ cL cF cM q54_11 u58_12 ++ (bX1 cI cZ cL cF cM q43_7 u47_8 ++ (bX0 cI cZ cL cF cM q32_6 u36_7 ++ (bX3 cI cZ cL cF cM q21_4 u25_5 ++ (bX4 cI cZ cL cF cM q10_0 u14_1 ++ ([])))))))
  refine i_putF (ci := 2) C hin hw (inC inW2) tyX2 tyX2_ok nmX2 0 rfl rfl 9 (by decide) (wc w_542) rfl rfl (ty := .object "RelayMouse$Mouse") (by decide +kernel) rfl rfl (Nat.le_of_ble_eq_true rfl) (ws' := (a, .inr (2, [.int 0, .int 0, .int (-1 : Int32), .int 0, .ref q10_0, .ref q21_4, .ref q32_6, .ref q43_7, .ref q54_11, .ref q65_13, .null, .null])) :: bX3 cI cZ cL cF cM q65_13 u69_14 ++ (bX3 cI cZ cL cF cM q54_11 u58_12 ++ (bX1 cI cZ cL cF cM q43_7 u47_8 ++ (bX0 cI cZ cL cF cM q32_6 u36_7 ++ (bX3 cI cZ cL cF cM q21_4 u25_5 ++ (bX4 cI cZ cL cF cM q10_0 u14_1 ++ ([]))))))) rfl dX2_init_72 (fun H locs hw => ?_)
  refine lv_aload_n C.1 C.2.1 dX2_init_75 rfl (lv_at hl 0 rfl) ?_
  refine i_new (ci := 0) C hw (inC inW0) tyX0 tyX0_ok (wc w_525) (wc w_434) (wc w_122) rfl (fs := [.int 0, .int 0, .int 0, .int 0, .int 0, .int 0, .int 0]) (fun j hj => by rcases (show j = 0 ∨ j = 1 ∨ j = 2 ∨ j = 3 ∨ j = 4 ∨ j = 5 ∨ j = 6 by omega) with rfl | rfl | rfl | rfl | rfl | rfl | rfl <;> rfl) (c1 := 16) (s1 := 190) rfl rfl (Nat.le_of_ble_eq_true rfl) (Nat.le_of_ble_eq_true rfl) dX2_init_76 (fun q76_15 H hw => ?_)
  refine lv_dup C.1 C.2.1 dX2_init_79 rfl ?_
  refine i_initN C (wc := [(q76_15, .inr (0, [.int 0, .int 0, .int 0, .int 0, .int 0, .int 0, .int 0]))]) (wr := (a, .inr (2, [.int 0, .int 0, .int (-1 : Int32), .int 0, .ref q10_0, .ref q21_4, .ref q32_6, .ref q43_7, .ref q54_11, .ref q65_13, .null, .null])) :: bX3 cI cZ cL cF cM q65_13 u69_14 ++ (bX3 cI cZ cL cF cM q54_11 u58_12 ++ (bX1 cI cZ cL cF cM q43_7 u47_8 ++ (bX0 cI cZ cL cF cM q32_6 u36_7 ++ (bX3 cI cZ cL cF cM q21_4 u25_5 ++ (bX4 cI cZ cL cF cM q10_0 u14_1 ++ ([]))))))) hw (iX0 l D cI cZ cL cF cM q76_15) ⟨va_cnB 0 C.2.2.2.2 (gd_m w_437) rfl rfl rfl (hw.2.2.2.2.2.2.2.2.2.1 (RX2, 31, yX0_init) (List.mem_of_getElem? (i := 12) rfl)) (C.2.2.2.2 _ (wc w_122)) (by decide +kernel) ⟨Nat.le_of_ble_eq_true rfl, Nat.le_of_ble_eq_true rfl⟩, rfl, (C.2.2.2.2 _ (wc w_436))⟩ rfl hl.1 (Nat.le_of_ble_eq_true rfl) dX2_init_80 (c1 := 16) (s1 := 190) rfl rfl ⟨Nat.le_of_ble_eq_true rfl, Nat.le_of_ble_eq_true rfl⟩ (fun u80_16 H locs _ hw => ?_) rfl
  have hw : Wd D A s (T0 cI cZ cL cF cM) ((a, .inr (2, [.int 0, .int 0, .int (-1 : Int32), .int 0, .ref q10_0, .ref q21_4, .ref q32_6, .ref q43_7, .ref q54_11, .ref q65_13, .null, .null])) :: bX0 cI cZ cL cF cM q76_15 u80_16 ++ (bX3 cI cZ cL cF cM q65_13 u69_14 ++ (bX3 cI cZ cL cF cM q54_11 u58_12 ++ (bX1 cI cZ cL cF cM q43_7 u47_8 ++ (bX0 cI cZ cL cF cM q32_6 u36_7 ++ (bX3 cI cZ cL cF cM q21_4 u25_5 ++ (bX4 cI cZ cL cF cM q10_0 u14_1 ++ ([])))))))) _ _ := hw.permP (List.perm_append_comm_assoc (bX0 cI cZ cL cF cM q76_15 u80_16) ([(a, .inr (2, [.int 0, .int 0, .int (-1 : Int32), .int 0, .ref q10_0, .ref q21_4, .ref q32_6, .ref q43_7, .ref q54_11, .ref q65_13, .null, .null]))]) (bX3 cI cZ cL cF cM q65_13 u69_14 ++ (bX3 cI cZ cL cF cM q54_11 u58_12 ++ (bX1 cI cZ cL cF cM q43_7 u47_8 ++ (bX0 cI cZ cL cF cM q32_6 u36_7 ++ (bX3 cI cZ cL cF cM q21_4 u25_5 ++ (bX4 cI cZ cL cF cM q10_0 u14_1 ++ ([]))))))))
  refine i_putF (ci := 2) C hin hw (inC inW2) tyX2 tyX2_ok nmX2 0 rfl rfl 10 (by decide) (wc w_543) rfl rfl (ty := .object "RelayMouse$Coils") (by decide +kernel) rfl rfl (Nat.le_of_ble_eq_true rfl) (ws' := (a, .inr (2, [.int 0, .int 0, .int (-1 : Int32), .int 0, .ref q10_0, .ref q21_4, .ref q32_6, .ref q43_7, .ref q54_11, .ref q65_13, .ref q76_15, .null])) :: bX0 cI cZ cL cF cM q76_15 u80_16 ++ (bX3 cI cZ cL cF cM q65_13 u69_14 ++ (bX3 cI cZ cL cF cM q54_11 u58_12 ++ (bX1 cI cZ cL cF cM q43_7 u47_8 ++ (bX0 cI cZ cL cF cM q32_6 u36_7 ++ (bX3 cI cZ cL cF cM q21_4 u25_5 ++ (bX4 cI cZ cL cF cM q10_0 u14_1 ++ ([])))))))) rfl dX2_init_83 (fun H locs hw => ?_)
  refine lv_aload_n C.1 C.2.1 dX2_init_86 rfl (lv_at hl 0 rfl) ?_
  refine lv_sipush (v := (500 : Int32)) C.1 C.2.1 dX2_init_87 (by decide) ?_
  refine i_newa C hw (ty := .int) (wc w_214) rfl (fun _ _ h => h) 0 rfl (N' := 500) (a0 := (500, .inl (fun _ => 0))) (fun cA => by first | rfl | (rw [vp_cell_i]; rfl) | (rw [vp_cell_l]; rfl)) (by decide) (by decide) (by decide) (c1 := 17) (s1 := 690) rfl rfl (Nat.le_of_ble_eq_true rfl) (Nat.le_of_ble_eq_true rfl) dX2_init_90 (fun q90 H hw => ?_)
  refine i_putF (ci := 2) C hin hw (inC inW2) tyX2 tyX2_ok nmX2 0 rfl rfl 11 (by decide) (wc w_544) rfl rfl (ty := .array .int) (by decide +kernel) rfl rfl (Nat.le_of_ble_eq_true rfl) (ws' := (a, .inr (2, [.int 0, .int 0, .int (-1 : Int32), .int 0, .ref q10_0, .ref q21_4, .ref q32_6, .ref q43_7, .ref q54_11, .ref q65_13, .ref q76_15, .ref q90])) :: (q90, .inl (cI, 500, .inl (fun _ => 0))) :: bX0 cI cZ cL cF cM q76_15 u80_16 ++ (bX3 cI cZ cL cF cM q65_13 u69_14 ++ (bX3 cI cZ cL cF cM q54_11 u58_12 ++ (bX1 cI cZ cL cF cM q43_7 u47_8 ++ (bX0 cI cZ cL cF cM q32_6 u36_7 ++ (bX3 cI cZ cL cF cM q21_4 u25_5 ++ (bX4 cI cZ cL cF cM q10_0 u14_1 ++ ([])))))))) rfl dX2_init_92 (fun H locs hw => ?_)
  have hw : Wd D A s (T0 cI cZ cL cF cM) (bX2 cI cZ cL cF cM a (fun j => [q90, q76_15, q65_13, u69_14 0, q54_11, u58_12 0, q43_7, u47_8 0, u47_8 1, u47_8 2, q32_6, q21_4, u25_5 0, q10_0, u14_1 0, u14_1 1, u14_1 2].getD j 0)) _ _ := hw
  exact hR _ _ (fun j => [q90, q76_15, q65_13, u69_14 0, q54_11, u58_12 0, q43_7, u47_8 0, u47_8 1, u47_8 2, q32_6, q21_4, u25_5 0, q10_0, u14_1 0, u14_1 1, u14_1 2].getD j 0) _ _ dX2_init_95 trivial hw
