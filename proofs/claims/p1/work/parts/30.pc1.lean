/-! The class on a fresh object. -/
theorem x_has {a : Nat} {F : Nat → Nat → Int32} {L : Nat → Nat → Int64} {r : Nat → Nat → Nat} {x : Int32} {K : Int32 → cS → Prop} (h1 : ¬ x < 0 → ¬ F a 2 ≤ x → K 1 (F, L, r)) (h0 : (x < 0 ∨ F a 2 ≤ x) → K 0 (F, L, r)) : wpX1_has a F L r x K := by
  unfold wpX1_has wpX1_has_b0 wpX1_has_b16 wpX1_has_b17
  exact ⟨fun h => ⟨Or.inl rfl, h0 (Or.inl h)⟩, fun h => ⟨fun h' => ⟨Or.inl rfl, h0 (Or.inr h')⟩, fun h' => ⟨Or.inr rfl, h1 h h'⟩⟩⟩
theorem x_side {x : Int32} {K : Int32 → Unit → Prop} (h1 : ¬ x < 0 → ¬ (4 : Int32) ≤ x → K 1 ()) (h0 : (x < 0 ∨ (4 : Int32) ≤ x) → K 0 ()) : wpX10_isSide x K := by
  unfold wpX10_isSide wpX10_isSide_b0 wpX10_isSide_b13 wpX10_isSide_b14
  exact ⟨fun h => ⟨Or.inl rfl, h0 (Or.inl h)⟩, fun h => ⟨fun h' => ⟨Or.inl rfl, h0 (Or.inr h')⟩, fun h' => ⟨Or.inr rfl, h1 h h'⟩⟩⟩
theorem and3 (x : Int32) : vp_in (x &&& 3) 4 := pk_andIn x (m := 3) 2 rfl (by decide)
theorem x_app1 {F : Nat → Nat → Int32} {L : Nat → Nat → Int64} {r : Nat → Nat → Nat} {x y : Int32} {K : cS → Prop} {j n : Nat} (hy : ¬ y < 0) (hj : F 4 0 = nI j) (h5 : j < 500) (ih : ∀ F', F' 4 0 = nI (j + 1) → wpX9_append_b3 n F' L r x (y + -8) K) : wpX9_append_b3 (n + 1) F L r x y K := by
  unfold wpX9_append_b3 wpX9_append_b3_body
  rw [hj]
  refine ⟨fun hc => absurd hc hy, fun _ => ⟨fun hc => absurd hc (nI_ge (b := 500) h5 (by decide)), fun _ => ⟨vin h5 (by decide), ?_⟩⟩⟩
  refine ih _ ?_
  rw [pt_at, upd_r, if_pos rfl, pt_ne (by decide), hj, nI_1]
theorem x_append {F : Nat → Nat → Int32} {L : Nat → Nat → Int64} {r : Nat → Nat → Nat} {x : Int32} {K : cS → Prop} {j : Nat} (hj : F 4 0 = nI j) (h5 : j + 4 ≤ 500) (hk : ∀ F', F' 4 0 = nI (j + 4) → K (F', L, r)) : wpX9_append F L r x K := by
  unfold wpX9_append wpX9_append_b0
  refine ⟨5, ?_⟩
  refine x_app1 (by decide) hj (by omega) (fun F1 h1 => ?_)
  refine x_app1 (by decide) h1 (by omega) (fun F2 h2 => ?_)
  refine x_app1 (by decide) h2 (by omega) (fun F3 h3 => ?_)
  refine x_app1 (by decide) h3 (by omega) (fun F4 h4 => ?_)
  unfold wpX9_append_b3 wpX9_append_b3_body wpX9_append_b49
  exact ⟨fun _ => hk _ h4, fun hc => absurd (by decide) hc⟩
theorem x_feed {K : Int32 → cS → Prop} {a b c d e : Int32} (hk : ∀ u, K 20 u) : wpX10_feed cF0 cL0 cr0 a b c d e K := by
  unfold wpX10_feed wpX10_feed_b0 wpX9_hasRoomFor wpX9_hasRoomFor_b0 wpX9_hasRoomFor_b17
  refine ⟨fun hc => absurd hc (by decide), fun _ => ⟨Or.inr rfl, ⟨fun _ => ?_, fun hc => absurd hc (by decide)⟩⟩⟩
  refine x_append (j := 0) rfl (by decide) (fun F1 h1 => ?_)
  refine x_append (j := 4) h1 (by decide) (fun F2 h2 => ?_)
  refine x_append (j := 8) h2 (by decide) (fun F3 h3 => ?_)
  refine x_append (j := 12) h3 (by decide) (fun F4 h4 => ?_)
  refine x_append (j := 16) h4 (by decide) (fun F5 h5 => ?_)
  dsimp only
  rw [h5]
  exact hk _
theorem x_open0 {F : Nat → Nat → Int32} {L : Nat → Nat → Int64} {r : Nat → Nat → Nat} {z : Nat} {K : cS → Prop} (hk : ∀ F', (∀ p, p ≠ 4 → F' p = F p) → F' 4 1 = 0 → F' 4 3 = 0 → K (F', L, r)) : wpX9_open z F L r 0 K := by
  unfold wpX9_open wpX9_open_b0
  refine ⟨1, ?_⟩
  unfold wpX9_open_b37 wpX9_open_b37_body wpX9_open_b66 wpX9_advance wpX9_advance_b0 wpX9_advance_b83 wpX9_advance_b106
  refine ⟨fun hc => absurd hc (by decide), fun _ => ⟨fun _ => ⟨fun hc => ?_, fun _ => ⟨fun _ => ?_, fun hc => ?_⟩⟩, fun hc => ?_⟩⟩
  · exfalso
    revert hc
    simp [pt_r]
  · refine hk _ (fun p hp => ?_) ?_ ?_
    · simp only [pt_ne hp]
    · simp [pt_r]
    · simp [pt_r]
  · exfalso
    revert hc
    simp [pt_r]
  · exfalso
    revert hc
    simp [pt_r]
theorem x_rules {K : Int32 → cS → Prop} {x : Int32} (hk : ∀ u, K (if x = 0 then 0 else -2) u) : wpX10_rules cF0 cL0 cr0 x K := by
  unfold wpX10_rules wpX10_rules_b0 wpX10_rules_b15
  by_cases hx : x = 0
  · subst hx
    refine ⟨fun hc => absurd hc (by decide), fun _ => ⟨fun _ => ?_, fun hc => absurd (by decide) hc⟩⟩
    unfold wpX7_read wpX7_read_b0
    refine ⟨by decide, fun z => ?_⟩
    refine x_open0 (fun F' h1 h2 h3 => ⟨1, ?_⟩)
    unfold wpX7_read_b20 wpX7_read_b20_body wpX7_read_b56 wpX7_read_b71
    refine ⟨fun hc => absurd hc (by decide), fun _ => ⟨fun hc => absurd h2 hc, fun _ => ⟨fun _ => ⟨fun hc => absurd h2 hc, fun _ => ⟨Or.inr rfl, ⟨fun _ => ?_, fun hc => absurd hc (by decide)⟩⟩⟩, fun hc => absurd h3 hc⟩⟩⟩
    refine ⟨(by show kd 17 = 6; decide), ?_⟩
    unfold wpX7_exchange wpX7_exchange_b0 wpX8_forget wpX8_forget_b0
    refine ⟨(by show kd 24 = 6; decide), ?_⟩
    have e : (pt (pt (pt F' 74 6 (-1)) 96 6 0) 96 7 0) (ptN (ptN cr0 10 3 (cr0 0 3)) 0 3 (cr0 10 3) 0 3) 0 = 0 := by
      rw [show ptN (ptN cr0 10 3 (cr0 0 3)) 0 3 (cr0 10 3) 0 3 = 24 from rfl, pt_ne (by decide), pt_ne (by decide), pt_ne (by decide), h1 24 (by decide)]
      rfl
    dsimp only
    rw [e]
    exact hk _
  · rw [if_neg hx] at hk
    exact ⟨fun _ => hk _, fun h0 => ⟨fun h2 => absurd (i_z h0 h2) hx, fun _ => hk _⟩⟩
theorem x_clear {a : Nat} {F : Nat → Nat → Int32} {L : Nat → Nat → Int64} {r : Nat → Nat → Nat} {K : cS → Prop} (ha : a + 3 ≠ a ∧ a + 2 ≠ a) (hk : ∀ F', F' a 0 = 0 → F' a 2 = 0 → K (F', L, r)) : wpX4_clear a F L r K := by
  unfold wpX4_clear wpX4_clear_b0
  refine lpi (w := fun n G x => wpX4_clear_b17 a n G L r x K) (fun _ G => G a 0 = 0 ∧ G a 2 = 0) 24 ⟨by simp [pt_r], by simp [pt_r]⟩ (fun n G hG => ?_) (fun n i G hi hG ih => ?_)
  · unfold wpX4_clear_b17 wpX4_clear_b17_body wpX4_clear_b55
    exact ⟨fun _ => hk _ hG.1 hG.2, fun hc => absurd (Int32.le_refl _) hc⟩
  · unfold wpX4_clear_b17 wpX4_clear_b17_body
    refine ⟨fun hc => absurd hc (nI_ge hi (by decide)), fun _ => ⟨fun hc => absurd hc (nI_ge hi (by decide)), fun _ => ⟨vin (by omega) (by decide), vin (by omega) (by decide), ?_⟩⟩⟩
    rw [nI_1]
    exact ih _ ⟨by rw [pt_ne (by omega), pt_ne (by omega)]; exact hG.1, by rw [pt_ne (by omega), pt_ne (by omega)]; exact hG.2⟩
theorem x_net {K : Int32 → cS → Prop} {x : Int32} (hk : ∀ u, K (if x = 0 then 0 else -2) u) : wpX10_net cF0 cL0 cr0 x K := by
  unfold wpX10_net wpX10_net_b0 wpX10_net_b15
  by_cases hx : x = 0
  · subst hx
    refine ⟨fun hc => absurd hc (by decide), fun _ => ⟨fun _ => ?_, fun hc => absurd (by decide) hc⟩⟩
    unfold wpX5_read wpX5_read_b0
    refine ⟨by decide, x_clear (by decide) (fun F1 a1 a2 => ?_)⟩
    have a1 : F1 35 0 = 0 := a1
    have a2 : F1 35 2 = 0 := a2
    intro z
    refine x_open0 (fun F' h1 h2 h3 => ⟨1, ?_⟩)
    have e2 : F' 35 2 = 0 := by rw [h1 35 (by decide), pt_ne (by decide), pt_ne (by decide)]; exact a2
    have e0 : F' 35 0 = 0 := by rw [h1 35 (by decide), pt_ne (by decide), pt_ne (by decide)]; exact a1
    unfold wpX5_read_b29 wpX5_read_b29_body wpX5_read_b66 wpX5_read_b80 wpX5_read_b95
    refine ⟨fun hc => absurd hc (by decide), fun _ => ⟨fun hc => absurd h2 hc, fun _ => ⟨fun _ => ⟨fun hc => absurd h2 hc, fun _ => ?_⟩, fun hc => absurd h3 hc⟩⟩⟩
    unfold wpX5_findNames wpX5_findNames_b0
    refine ⟨1, ?_⟩
    unfold wpX5_findNames_b2 wpX5_findNames_b2_body wpX5_findNames_b86
    refine ⟨(by show kd 35 = 4; decide), fun _ => ⟨fun hc => absurd h2 hc, fun _ => ⟨Or.inr rfl, ⟨fun _ => ⟨(by show kd 31 = 4; decide), ?_⟩, fun hc => absurd hc (by decide)⟩⟩⟩, fun hc => ?_⟩
    · unfold wpX5_exchange wpX5_exchange_b0 wpX0_renew wpX0_renew_b0
      refine ⟨(by show kd 35 = 4; decide), ?_⟩
      dsimp only
      rw [show ptN (ptN cr0 12 5 (cr0 0 4)) 0 4 (cr0 12 5) 0 4 = 35 from rfl, pt_ne (by decide), pt_ne (by decide), pt_ne (by decide), pt_ne (by decide), pt_ne (by decide), e0]
      exact hk _
    · exfalso
      apply hc
      show F' 35 2 ≤ 0
      rw [e2]
      decide
  · rw [if_neg hx] at hk
    exact ⟨fun _ => hk _, fun h0 => ⟨fun h2 => absurd (i_z h0 h2) hx, fun _ => hk _⟩⟩
theorem x_fault {K : Int32 → cS → Prop} {x : Int32} (hk : ∀ u, K (if x = 0 then 0 else -1) u) : wpX10_fault cF0 cL0 cr0 x K := by
  unfold wpX10_fault wpX10_fault_b0
  refine ⟨fun h => ?_, fun h => ?_, fun h => ?_⟩
  · subst h; exact hk _
  · subst h; exact hk _
  · rw [if_neg h.1] at hk; exact hk _
theorem x_clearW {a : Nat} {F : Nat → Nat → Int32} {L : Nat → Nat → Int64} {r : Nat → Nat → Nat} {K : cS → Prop} (hk : ∀ L', (∀ p, p ≠ a + 1 → L' p = L p) → K (F, L', r)) : wpX1_clearWalls a F L r K := by
  unfold wpX1_clearWalls wpX1_clearWalls_b0
  refine lpi (w := fun n M x => wpX1_clearWalls_b2 a n F M r x K) (fun _ M => ∀ p, p ≠ a + 1 → M p = L p) 4 (fun _ _ => rfl) (fun n M hM => ?_) (fun n i M hi hM ih => ?_)
  · unfold wpX1_clearWalls_b2 wpX1_clearWalls_b2_body
    exact ⟨fun _ => hk _ hM, fun hc => absurd (Int32.le_refl _) hc⟩
  · unfold wpX1_clearWalls_b2 wpX1_clearWalls_b2_body
    refine ⟨fun hc => absurd hc (nI_ge hi (by decide)), fun _ => ⟨vin (by omega) (by decide), vin (by omega) (by decide), ?_⟩⟩
    rw [nI_1]
    exact ih _ (fun p hp => by rw [ptL_ne hp]; exact hM p hp)
theorem x_lay {a : Nat} {F : Nat → Nat → Int32} {L : Nat → Nat → Int64} {r : Nat → Nat → Nat} {x : Int32} {j : Nat} {K : cS → Prop} (hj : j ≤ 6) (hk : ∀ F' L', K (F', L', r)) : wpX1_lay a F L r x (nI j) K := by
  unfold wpX1_lay wpX1_lay_b0
  refine lpi (w := fun n v x5 => wpX1_lay_b32 a n _ L r x (nI j) v x5 K) (a0 := (0 : Int64)) (fun _ _ => True) j trivial (fun n v _ => ?_) (fun n i v hi _ ih => ?_)
  · unfold wpX1_lay_b32 wpX1_lay_b32_body
    refine ⟨fun _ => ⟨vin (n := 0) (by decide) (by decide), vin (n := 1) (by decide) (by decide), vin (n := 0) (by decide) (by decide), vin (n := 2) (by decide) (by decide), vin (n := 3) (by decide) (by decide), vin (n := 0) (by decide) (by decide), vin (n := 1) (by decide) (by decide), vin (n := 2) (by decide) (by decide), vin (n := 3) (by decide) (by decide), x_clearW (fun L' _ => hk _ _)⟩, fun hc => absurd (Int32.le_refl _) hc⟩
  · unfold wpX1_lay_b32 wpX1_lay_b32_body
    refine ⟨fun hc => absurd hc (nI_ge hi (by omega)), fun _ => ?_⟩
    rw [nI_1]
    exact ih _ trivial
theorem x_clearS {a : Nat} {F : Nat → Nat → Int32} {L : Nat → Nat → Int64} {r : Nat → Nat → Nat} {K : cS → Prop} (hk : ∀ L', (∀ p, p ≠ a → p ≠ a + 1 → L' p = L p) → L' a 4 = 0 → L' a 5 = 0 → K (F, L', r)) : wpX3_clearSquares a F L r K := by
  unfold wpX3_clearSquares wpX3_clearSquares_b0
  refine lpi (w := fun n M x => wpX3_clearSquares_b12 a n F M r x K) (fun _ M => (∀ p, p ≠ a → p ≠ a + 1 → M p = L p) ∧ M a 4 = 0 ∧ M a 5 = 0) 3 ⟨fun p h1 h2 => by rw [ptL_ne h1, ptL_ne h1], by simp [ptL_r], by simp [ptL_r]⟩ (fun n M hM => ?_) (fun n i M hi hM ih => ?_)
  · unfold wpX3_clearSquares_b12 wpX3_clearSquares_b12_body
    exact ⟨fun _ => hk _ hM.1 hM.2.1 hM.2.2, fun hc => absurd (Int32.le_refl _) hc⟩
  · unfold wpX3_clearSquares_b12 wpX3_clearSquares_b12_body
    refine ⟨fun hc => absurd hc (nI_ge hi (by decide)), fun _ => ⟨vin (by omega) (by decide), ?_⟩⟩
    rw [nI_1]
    exact ih _ ⟨fun p h1 h2 => by rw [ptL_ne h2]; exact hM.1 p h1 h2, by rw [ptL_ne (by omega)]; exact hM.2.1, by rw [ptL_ne (by omega)]; exact hM.2.2⟩
theorem x_floor {K : Int32 → cS → Prop} {w h : Int32} (hk : ∀ u, K (if (2 ≤ w ∧ w ≤ 6) ∧ 2 ≤ h ∧ h ≤ 6 then 1 else 0) u) : wpX10_floor cF0 cL0 cr0 w h K := by
  unfold wpX10_floor wpX10_floor_b0 wpX10_floor_b22
  refine ⟨fun h1 => ?_, fun h1 => ⟨fun h2 => ?_, fun h2 => ⟨fun h3 => ?_, fun h3 => ⟨fun h4 => ?_, fun h4 => ?_⟩⟩⟩⟩
  · rw [if_neg (fun hc => absurd hc.1.1 (Int32.not_le.mpr h1))] at hk; exact hk _
  · rw [if_neg (fun hc => absurd hc.1.2 (Int32.not_le.mpr h2))] at hk; exact hk _
  · rw [if_neg (fun hc => absurd hc.2.1 (Int32.not_le.mpr h3))] at hk; exact hk _
  · rw [if_pos ⟨⟨i_nlt h1, i_nlt h2⟩, i_nlt h3, h4⟩] at hk
    obtain ⟨j, hj, rfl⟩ := i_mid (n := 6) rfl (Int32.le_trans (by decide) (i_nlt h3)) h4
    refine x_lay hj (fun F' L' => ?_)
    unfold wpX3_setDownWiped wpX3_setDownWiped_b0 wpX3_setDown wpX3_setDown_b0
    refine x_clearS (fun L2 _ _ _ => ?_)
    exact hk _
  · rw [if_neg (fun hc => absurd hc.2.2 h4)] at hk; exact hk _
theorem lg0_rim : (List.range 25).all (fun s => (List.range 4).all fun d => (decide (lg_cmp ((jlushr (cL0 49 (ix (nI d &&& 3))) (nI s)) &&& 1) 0 = 0) == !rim5 s d) && (decide (lg_cmp ((jlushr (cL0 47 (ix (nI d &&& 3))) (nI s)) &&& 1) 0 = 0) == !rim5 s d)) = true := by decide +kernel
theorem lg_rim {s d : Nat} (hs : s < 25) (hd : d < 4) : (lg_cmp ((jlushr (cL0 49 (ix (nI d &&& 3))) (nI s)) &&& 1) 0 = 0 ↔ rim5 s d = false) ∧ (lg_cmp ((jlushr (cL0 47 (ix (nI d &&& 3))) (nI s)) &&& 1) 0 = 0 ↔ rim5 s d = false) := by
  have h1 := List.all_eq_true.mp lg0_rim s (List.mem_range.mpr hs)
  have h2 := List.all_eq_true.mp h1 d (List.mem_range.mpr hd)
  simp only [Bool.and_eq_true, beq_iff_eq] at h2
  constructor
  · rw [← decide_eq_true_iff (p := lg_cmp _ _ = 0), h2.1]; cases rim5 s d <;> simp
  · rw [← decide_eq_true_iff (p := lg_cmp _ _ = 0), h2.2]; cases rim5 s d <;> simp
theorem x_walled {a : Nat} {F : Nat → Nat → Int32} {L : Nat → Nat → Int64} {r : Nat → Nat → Nat} {x d : Int32} {K : Int32 → cS → Prop} (h0 : lg_cmp ((jlushr (L (a + 1) (ix (d &&& 3))) x) &&& 1) 0 = 0 → K 0 (F, L, r)) (h1 : ¬ lg_cmp ((jlushr (L (a + 1) (ix (d &&& 3))) x) &&& 1) 0 = 0 → K 1 (F, L, r)) : wpX1_isWalled a F L r x d K := by
  unfold wpX1_isWalled wpX1_isWalled_b0 wpX1_isWalled_b22
  exact ⟨and3 d, fun h => ⟨Or.inl rfl, h0 h⟩, fun h => ⟨Or.inr rfl, h1 h⟩⟩
theorem x_rim {a : Nat} {F : Nat → Nat → Int32} {L : Nat → Nat → Int64} {r : Nat → Nat → Nat} {x d : Int32} {K : Int32 → cS → Prop} (h0 : lg_cmp ((jlushr (L (a + 3) (ix (d &&& 3))) x) &&& 1) 0 = 0 → K 0 (F, L, r)) (h1 : ¬ lg_cmp ((jlushr (L (a + 3) (ix (d &&& 3))) x) &&& 1) 0 = 0 → K 1 (F, L, r)) : wpX1_isRim a F L r x d K := by
  unfold wpX1_isRim wpX1_isRim_b0 wpX1_isRim_b22
  exact ⟨and3 d, fun h => ⟨Or.inl rfl, h0 h⟩, fun h => ⟨Or.inr rfl, h1 h⟩⟩
theorem x_mark {a : Nat} {F : Nat → Nat → Int32} {L : Nat → Nat → Int64} {r : Nat → Nat → Nat} {x d on : Int32} {K : cS → Prop} (hk : ∀ L', (∀ p, p ≠ a + 1 → L' p = L p) → K (F, L', r)) : wpX1_markWall a F L r x d on K := by
  unfold wpX1_markWall wpX1_markWall_b0 wpX1_markWall_b39
  exact ⟨fun _ => ⟨and3 d, and3 d, hk _ (fun p hp => ptL_ne hp)⟩, fun _ => ⟨and3 d, and3 d, hk _ (fun p hp => ptL_ne hp)⟩⟩
theorem x_putWall {a : Nat} {F : Nat → Nat → Int32} {L : Nat → Nat → Int64} {r : Nat → Nat → Nat} {x d on : Int32} {K : cS → Prop} (hk : ∀ L', (∀ p, p ≠ a + 1 → L' p = L p) → K (F, L', r)) : wpX1_putWall a F L r x d on K := by
  unfold wpX1_putWall wpX1_putWall_b0
  refine x_mark (fun L1 h1 => ?_)
  unfold wpX1_ahead wpX1_ahead_b0
  exact ⟨and3 d, x_mark (fun L2 h2 => hk _ (fun p hp => (h2 p hp).trans (h1 p hp)))⟩
theorem x_wall {K : Int32 → cS → Prop} {x d on : Int32} (hon : isB on) (hk1 : ∀ s t : Nat, s < 25 → t < 4 → x = nI s → d = nI t → rim5 s t = false → ∀ u, K on u) (hk2 : ∀ s t : Nat, s < 25 → t < 4 → x = nI s → d = nI t → rim5 s t = true → ∀ u, K 0 u) (hk0 : ((x < 0 ∨ (25 : Int32) ≤ x) ∨ (d < 0 ∨ (4 : Int32) ≤ d)) → ∀ u, K 0 u) : wpX10_wall cF0 cL0 cr0 x d on K := by
  unfold wpX10_wall wpX10_wall_b0 wpX10_wall_b30
  refine x_has (fun h1 h2 => ⟨fun hc => absurd hc (by decide), fun _ => ?_⟩) (fun h => ⟨fun _ => hk0 (Or.inl h) _, fun hc => absurd rfl hc⟩)
  refine x_side (fun h3 h4 => ⟨fun hc => absurd hc (by decide), fun _ => ?_⟩) (fun h => ⟨fun _ => hk0 (Or.inr h) _, fun hc => absurd rfl hc⟩)
  obtain ⟨s, hs, rfl⟩ := i_sq (n := 25) rfl h1 h2
  obtain ⟨t, ht, rfl⟩ := i_sq (n := 4) rfl h3 h4
  obtain ⟨l1, l2⟩ := lg_rim hs ht
  refine x_rim (fun hr => ⟨fun _ => ?_, fun hc => absurd rfl hc⟩) (fun hr => ⟨fun hc => absurd hc (by decide), fun _ => ?_⟩)
  · have e := l1.mp hr
    refine x_walled (fun hw => ⟨fun hne => ?_, fun heq => ?_⟩) (fun hw => absurd (l2.mpr e) hw)
    · refine x_putWall (fun L' _ => ?_)
      have eo : on = 1 := hon.elim (fun e => absurd e.symm hne) id
      have := hk1 s t hs ht rfl rfl e
      rw [eo] at this
      exact this _
    · have := hk1 s t hs ht rfl rfl e
      rw [← heq] at this
      exact this _
  · have e : rim5 s t = true := by
      cases h : rim5 s t
      · exact absurd (l1.mpr h) hr
      · rfl
    exact hk2 s t hs ht rfl rfl e _
theorem x_bell {K : Int32 → cS → Prop} {x : Int32} (hk : ∀ u, K (if ¬ x < 0 ∧ ¬ (25 : Int32) ≤ x then 1 else 0) u) : wpX10_bell cF0 cL0 cr0 x K := by
  unfold wpX10_bell wpX10_bell_b0
  refine x_has (fun h1 h2 => ?_) (fun h => ?_)
  · rw [if_pos ⟨h1, h2⟩] at hk
    exact ⟨fun _ => hk _, fun hc => absurd hc (by decide)⟩
  · rw [if_neg (fun hc => h.elim hc.1 hc.2)] at hk
    exact ⟨fun hc => absurd rfl hc, fun _ => hk _⟩
theorem le3 {d : Int32} : (¬ d < 0 ∧ ¬ (4 : Int32) ≤ d) ↔ 0 ≤ d ∧ d ≤ 3 := by
  rw [Int32.lt_iff_toInt_lt, Int32.le_iff_toInt_le, Int32.le_iff_toInt_le, Int32.le_iff_toInt_le]
  have e0 : (0 : Int32).toInt = 0 := rfl
  have e3 : (3 : Int32).toInt = 3 := rfl
  have e4 : (4 : Int32).toInt = 4 := rfl
  omega
theorem x_lift {K : Int32 → cS → Prop} {x d : Int32} (hk : ∀ u, K (if (¬ x < 0 ∧ ¬ (25 : Int32) ≤ x) ∧ 0 ≤ d ∧ d ≤ 3 then 1 else 0) u) : wpX10_lift cF0 cL0 cr0 x d K := by
  unfold wpX10_lift wpX10_lift_b0 wpX10_lift_b18
  refine x_has (fun h1 h2 => ⟨fun hc => absurd hc (by decide), fun _ => ?_⟩) (fun h => ⟨fun _ => ?_, fun hc => absurd rfl hc⟩)
  · refine x_side (fun h3 h4 => ⟨fun _ => ?_, fun hc => absurd hc (by decide)⟩) (fun h => ⟨fun hc => absurd rfl hc, fun _ => ?_⟩)
    · rw [if_pos ⟨⟨h1, h2⟩, le3.mp ⟨h3, h4⟩⟩] at hk; exact hk _
    · rw [if_neg (fun hc => h.elim (le3.mpr hc.2).1 (le3.mpr hc.2).2)] at hk; exact hk _
  · rw [if_neg (fun hc => h.elim hc.1.1 hc.1.2)] at hk; exact hk _
theorem x_bitL0 {K : Int32 → Unit → Prop} (hk : K 0 ()) : wpJ13_bitCount_95d88 0 K := by
  unfold wpJ13_bitCount_95d88 wpJ13_bitCount_95d88_b0
  rintro y9 rfl y23 rfl y33 rfl y47 rfl
  exact hk
theorem x_bitI0 {K : Int32 → Unit → Prop} (hk : K 0 ()) : wpJ6_bitCount_0f7a4 0 K := by
  unfold wpJ6_bitCount_0f7a4 wpJ6_bitCount_0f7a4_b0
  intros
  subst_vars
  exact hk
theorem x_wipe {K : Int32 → cS → Prop} (hk : ∀ u, K 0 u) : wpX10_wipe cF0 cL0 cr0 K := by
  unfold wpX10_wipe wpX10_wipe_b0 wpX3_markedSquares wpX3_markedSquares_b0
  refine lpi (w := fun n (_ : Unit) x => wpX3_markedSquares_b12 74 n cF0 cL0 cr0 0 x _) (fun _ _ => True) 3 trivial (fun n _ _ => ?_) (fun n i _ hi _ ih => ?_) (a0 := ())
  · unfold wpX3_markedSquares_b12 wpX3_markedSquares_b12_body
    refine ⟨fun _ => x_bitL0 (x_clearS (fun L' _ _ _ => ?_)), fun hc => absurd (Int32.le_refl _) hc⟩
    exact hk _
  · unfold wpX3_markedSquares_b12 wpX3_markedSquares_b12_body
    refine ⟨fun hc => absurd hc (nI_ge hi (by decide)), fun _ => ⟨vin (by omega) (by decide), ?_⟩⟩
    rw [nI_1]
    have e : (0 ||| cL0 (74 + 1) (ix (nI i)) : Int64) = 0 := by
      show (0 ||| 0 : Int64) = 0
      decide
    have := ih () trivial
    rw [e]
    exact this
