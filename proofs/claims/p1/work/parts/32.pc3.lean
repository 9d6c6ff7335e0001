/-! The class on a fresh object: nets, trials, counts. -/
theorem x_value0 {a : Nat} {F : Nat → Nat → Int32} {L : Nat → Nat → Int64} {r : Nat → Nat → Nat} {x y : Int32} {K : Int32 → cS → Prop} (h2 : ∀ j, F (a + 2) j = 0) (h3 : ∀ j, F (a + 3) j = 0) (hk : K 0 (F, L, r)) : wpX4_valueOf a F L r x y K := by
  unfold wpX4_valueOf wpX4_valueOf_b0 wpX4_valueOf_b10
  refine ⟨fun _ => hk, fun h => ⟨fun h4 => ?_, fun _ => hk⟩⟩
  obtain ⟨j, hj, rfl⟩ := i_sq (n := 24) rfl h (Int32.not_le.mpr h4)
  refine ⟨vin hj (by decide), 1, ?_⟩
  unfold wpX4_valueOf_b22 wpX4_valueOf_b22_body
  rw [h2, h3]
  exact ⟨vin hj (by decide), fun _ => hk, fun hc => absurd (by decide) hc⟩
theorem out0 : ∀ i, i < 4 → (0 : Int32) ||| jshl 0 (nI (i + 1)) = 0 := by decide
theorem x_out0 {a : Nat} {F : Nat → Nat → Int32} {L : Nat → Nat → Int64} {r : Nat → Nat → Nat} {x : Int32} {K : Int32 → cS → Prop} (h2 : ∀ j, F (a + 2) j = 0) (h3 : ∀ j, F (a + 3) j = 0) (hk : K 0 (F, L, r)) : wpX4_outputsBy a F L r x K := by
  unfold wpX4_outputsBy wpX4_outputsBy_b0
  refine lp (w := fun n i => wpX4_outputsBy_b4 a n F L r x 0 (nI (i + 1)) K) 4 (fun n => ?_) (fun n i hi ih => ?_)
  · unfold wpX4_outputsBy_b4 wpX4_outputsBy_b4_body
    exact ⟨fun _ => hk, fun hc => absurd (by decide) hc⟩
  · unfold wpX4_outputsBy_b4 wpX4_outputsBy_b4_body wpX4_placeOfOutput wpX4_placeOfOutput_b0
    refine ⟨fun hc => absurd hc (Int32.not_lt.mpr ?_), fun _ => x_value0 h2 h3 ?_⟩
    · have : ∀ i, i < 4 → nI (i + 1) ≤ 4 := by decide
      exact this i hi
    · dsimp only
      rw [out0 i hi, nI_1]
      exact ih
theorem x_step {a0 a1 a2 a3 : Nat} {F : Nat → Nat → Int32} {L : Nat → Nat → Int64} {r : Nat → Nat → Nat} {K : cS → Prop} (h0 : F a1 0 = 0) (h2 : ∀ j, F (a1 + 2) j = 0) (h3 : ∀ j, F (a1 + 3) j = 0) (n0 : a1 ≠ a0) (n2 : a1 + 2 ≠ a0) (n3 : a1 + 3 ≠ a0) (e1 : F a0 1 = 0) (e2 : F a0 2 = 0) (hk : ∀ F', (∀ p, p ≠ a0 → F' p = F p) → F' a0 0 = 0 → F' a0 1 = 0 → F' a0 2 = 0 → K (F', L, r)) : wpX0_step a0 a1 a2 a3 F L r K := by
  have hz : ∀ v, wpX3_inputs_b32 a2 a3 F L r v (fun r3 u3 =>
    wpX4_relaysBy a1 (pt (pt u3.1 a0 6 r3) a0 4 ((pt u3.1 a0 6 r3) a0 0)) u3.2.1 u3.2.2 (((pt (pt u3.1 a0 6 r3) a0 4 ((pt u3.1 a0 6 r3) a0 0)) a0 4) ||| ((pt (pt u3.1 a0 6 r3) a0 4 ((pt u3.1 a0 6 r3) a0 0)) a0 6)) (fun r28 u28 =>
    wpX0_settle a0 u28.1 u28.2.1 u28.2.2 r28 (fun u31 =>
    wpX4_outputsBy a1 (pt (pt u31.1 a0 5 (u31.1 a0 0)) a0 3 (1)) u31.2.1 u31.2.2 (((pt (pt u31.1 a0 5 (u31.1 a0 0)) a0 3 (1)) a0 5) ||| ((pt (pt u31.1 a0 5 (u31.1 a0 0)) a0 3 (1)) a0 6)) (fun r58 u58 =>
    wpX3_doOutputs a2 a3 u58.1 u58.2.1 u58.2.2 r58 (fun u62 =>
    K (u62.1, u62.2.1, u62.2.2)))))) := by
    intro v
    have hg : ∀ r3 : Int32, wpX4_relaysBy a1 (pt (pt F a0 6 r3) a0 4 ((pt F a0 6 r3) a0 0)) L r (((pt (pt F a0 6 r3) a0 4 ((pt F a0 6 r3) a0 0)) a0 4) ||| ((pt (pt F a0 6 r3) a0 4 ((pt F a0 6 r3) a0 0)) a0 6)) (fun r28 u28 =>
    wpX0_settle a0 u28.1 u28.2.1 u28.2.2 r28 (fun u31 =>
    wpX4_outputsBy a1 (pt (pt u31.1 a0 5 (u31.1 a0 0)) a0 3 (1)) u31.2.1 u31.2.2 (((pt (pt u31.1 a0 5 (u31.1 a0 0)) a0 3 (1)) a0 5) ||| ((pt (pt u31.1 a0 5 (u31.1 a0 0)) a0 3 (1)) a0 6)) (fun r58 u58 =>
    wpX3_doOutputs a2 a3 u58.1 u58.2.1 u58.2.2 r58 (fun u62 =>
    K (u62.1, u62.2.1, u62.2.2))))) := by
      intro r3
      generalize hG : pt (pt F a0 6 r3) a0 4 ((pt F a0 6 r3) a0 0) = G
      have g1 : G a0 1 = 0 := by rw [← hG]; simp [pt_r, e1]
      have g2 : G a0 2 = 0 := by rw [← hG]; simp [pt_r, e2]
      have gp : ∀ p, p ≠ a0 → G p = F p := fun p hp => by rw [← hG, pt_ne hp, pt_ne hp]
      unfold wpX4_relaysBy wpX4_relaysBy_b0
      refine ⟨1, ?_⟩
      unfold wpX4_relaysBy_b4 wpX4_relaysBy_b4_body
      rw [gp a1 n0, h0]
      refine ⟨fun _ => ?_, fun hc => absurd (by decide) hc⟩
      unfold wpX0_settle wpX0_settle_b0
      dsimp only
      rw [g1, g2]
      generalize hH : pt (pt (pt G a0 0 ((0 : Int32) &&& (0 ^^^ -1) ||| 0)) a0 5 ((pt G a0 0 ((0 : Int32) &&& (0 ^^^ -1) ||| 0)) a0 0)) a0 3 1 = H
      have k0 : H a0 0 = 0 := by rw [← hH]; simp [pt_r]
      have k1 : H a0 1 = 0 := by rw [← hH]; simp [pt_r, g1]
      have k2 : H a0 2 = 0 := by rw [← hH]; simp [pt_r, g2]
      have kp : ∀ p, p ≠ a0 → H p = F p := fun p hp => by rw [← hH, pt_ne hp, pt_ne hp, pt_ne hp, gp p hp]
      refine x_out0 (fun j => by rw [kp _ n2]; exact h2 j) (fun j => by rw [kp _ n3]; exact h3 j) ?_
      unfold wpX3_doOutputs wpX3_doOutputs_b0 wpX3_doOutputs_b12 wpX3_doOutputs_b25 wpX3_doOutputs_b38 wpX3_doOutputs_b51
      exact ⟨fun _ => ⟨fun _ => ⟨fun _ => ⟨fun _ => hk H kp k0 k1 k2, fun hc => absurd (by decide) hc⟩, fun hc => absurd (by decide) hc⟩, fun hc => absurd (by decide) hc⟩, fun hc => absurd (by decide) hc⟩
    unfold wpX3_inputs_b32 wpX3_inputs_b48
    exact ⟨fun _ => hg _, fun _ => hg _⟩
  unfold wpX0_step wpX0_step_b0 wpX3_inputs wpX3_inputs_b0 wpX3_wayOf wpX3_wayOf_b0
  exact x_walled (fun _ => ⟨fun _ => hz _, fun _ => hz _⟩) (fun _ => ⟨fun _ => hz _, fun _ => hz _⟩)
/-- what a step of an empty net leaves -/
def Pl (F : Nat → Nat → Int32) : Prop := (∀ p, p ≠ 43 → p ≠ 74 → F p = cF0 p) ∧ F 43 1 = 0 ∧ F 43 2 = 0 ∧ F 74 7 = 0 ∧ F 74 0 = 0
theorem Pl0 : Pl cF0 := ⟨fun _ _ _ => rfl, rfl, rfl, rfl, rfl⟩
theorem x_stepP {F : Nat → Nat → Int32} {K : cS → Prop} (hP : Pl F) (hk : ∀ F', Pl F' → K (F', cL0, cr0)) : wpX0_step 43 (cr0 0 4) 74 46 F cL0 cr0 K := by
  obtain ⟨hp, h1, h2, h7, h0⟩ := hP
  refine x_step (a1 := 31) (by rw [hp 31 (by decide) (by decide)]; rfl) (fun j => by rw [hp _ (by decide) (by decide)]; rfl) (fun j => by rw [hp _ (by decide) (by decide)]; rfl) (by decide) (by decide) (by decide) h1 h2 (fun F' hF k0 k1 k2 => hk F' ⟨fun p a b => (hF p a).trans (hp p a b), k1, k2, ?_, ?_⟩)
  · rw [hF 74 (by decide)]; exact h7
  · rw [hF 74 (by decide)]; exact h0
theorem x_pull {K : Int32 → cS → Prop} {x : Int32} (hk : ∀ u, K (if 0 ≤ x ∧ x ≤ 5000 then 0 else -1) u) : wpX10_pull cF0 cL0 cr0 x K := by
  unfold wpX10_pull wpX10_pull_b0 wpX10_pull_b11
  refine ⟨fun h => ?_, fun h1 => ⟨fun h2 => ?_, fun h => ?_⟩⟩
  · rw [if_neg (fun hc => absurd hc.1 (Int32.not_le.mpr h))] at hk; exact hk _
  · rw [if_pos ⟨i_nlt h1, h2⟩] at hk
    obtain ⟨j, hj, rfl⟩ := i_mid (n := 5000) rfl (i_nlt h1) h2
    refine lpi (w := fun n F x => wpX10_pull_b23 n F cL0 cr0 (nI j) x K) (fun _ F => Pl F) j ⟨fun p a b => by rw [pt_ne b], by rw [pt_ne (by decide)]; rfl, by rw [pt_ne (by decide)]; rfl, by simp [pt_r], by simp [pt_r]; rfl⟩ (fun n f hf => ?_) (fun n i f hi hf ih => ?_)
    · unfold wpX10_pull_b23 wpX10_pull_b23_body
      rw [hf.2.2.2.1]
      exact ⟨fun _ => hk _, fun hc => absurd (Int32.le_refl _) hc⟩
    · unfold wpX10_pull_b23 wpX10_pull_b23_body
      refine ⟨fun hc => absurd hc (nI_ge hi (by omega)), fun _ => ⟨(by show kd 31 = 4; decide), x_stepP hf (fun F' hF' => ?_)⟩⟩
      rw [nI_1]
      exact ih _ hF'
  · rw [if_neg (fun hc => absurd hc.2 h)] at hk; exact hk _
theorem x_pullRun {K : Int32 → cS → Prop} {x : Int32} (hk : ∀ u, K (if 0 ≤ x ∧ x ≤ 5000 then -2 else -1) u) : wpX10_pullRun cF0 cL0 cr0 x K := by
  unfold wpX10_pullRun wpX10_pullRun_b0 wpX10_pullRun_b11
  refine ⟨fun h => ?_, fun h1 => ⟨fun h2 => ?_, fun h => ?_⟩⟩
  · rw [if_neg (fun hc => absurd hc.1 (Int32.not_le.mpr h))] at hk; exact hk _
  · rw [if_pos ⟨i_nlt h1, h2⟩] at hk
    obtain ⟨j, hj, rfl⟩ := i_mid (n := 5000) rfl (i_nlt h1) h2
    refine lpi (w := fun n F x => wpX10_pullRun_b15 n F cL0 cr0 (nI j) x K) (fun _ F => Pl F) j Pl0 (fun n f hf => ?_) (fun n i f hi hf ih => ?_)
    · unfold wpX10_pullRun_b15 wpX10_pullRun_b15_body wpX10_pullRun_b87
      rw [hf.2.2.2.2, hf.1 46 (by decide) (by decide)]
      exact ⟨fun _ => ⟨fun _ => hk _, fun hc => absurd hc (by decide)⟩, fun hc => absurd (Int32.le_refl _) hc⟩
    · unfold wpX10_pullRun_b15 wpX10_pullRun_b15_body
      rw [hf.2.2.2.2, hf.1 46 (by decide) (by decide)]
      refine ⟨fun hc => absurd hc (nI_ge hi (by omega)), fun _ => ⟨fun _ => ⟨(by show kd 31 = 4; decide), x_stepP hf (fun F' hF' => ?_)⟩, fun hc => absurd hc (by decide)⟩⟩
      rw [nI_1]
      exact ih _ hF'
  · rw [if_neg (fun hc => absurd hc.2 h)] at hk; exact hk _
theorem x_relays {K : Int32 → cS → Prop} (hk : ∀ u, K 0 u) : wpX10_relays cF0 cL0 cr0 K := hk _
theorem x_stuck {K : Int32 → cS → Prop} (hk : ∀ u, K 0 u) : wpX10_stuck cF0 cL0 cr0 K := hk _
theorem x_race {K : Int32 → cS → Prop} (hk : ∀ u, K (-1) u) : wpX10_race cF0 cL0 cr0 K := ⟨by decide, fun hc => absurd rfl hc, fun _ => hk _⟩
theorem x_stick {K : Int32 → cS → Prop} {x y : Int32} (hk : ∀ u, K 0 u) : wpX10_stick cF0 cL0 cr0 x y K := by
  unfold wpX10_stick wpX10_stick_b0 wpX10_stick_b24
  exact ⟨fun _ => hk _, fun h => ⟨by decide, fun _ => hk _, fun hc => absurd (i_nlt h) hc⟩⟩
theorem x_restore {K : Int32 → cS → Prop} {x : Int32} (hk : ∀ u, K 0 u) : wpX10_restore cF0 cL0 cr0 x K := by
  unfold wpX10_restore wpX10_restore_b0 wpX10_restore_b20
  refine ⟨fun _ => hk _, fun h1 => ⟨fun _ => hk _, fun h2 => ⟨fun hc => ?_, fun _ => hk _⟩⟩⟩
  obtain ⟨j, hj, rfl⟩ := i_sq (n := 4) rfl h1 h2
  have : ∀ j, j < 4 → jshr (cF0 0 11) (nI j) &&& 1 = 0 := by decide
  exact absurd (this j hj) hc
theorem x_copy3 {a b : Nat} {F : Nat → Nat → Int32} {L : Nat → Nat → Int64} {r : Nat → Nat → Nat} {K : cS → Prop} (hab : b ≠ a) (hk : ∀ F' L', (∀ p, p ≠ a → F' p = F p) → (∀ p, p ≠ a → p ≠ a + 1 → L' p = L p) → F' a 0 = F b 0 → F' a 1 = F b 1 → L' a 4 = L b 4 → L' a 5 = L b 5 → K (F', L', r)) : wpX3_copyFrom a b F L r K := by
  unfold wpX3_copyFrom wpX3_copyFrom_b0
  refine lpi (w := fun n M x => wpX3_copyFrom_b50 a b n _ M r x K) (fun _ M => (∀ p, p ≠ a → p ≠ a + 1 → M p = L p) ∧ M a 4 = L b 4 ∧ M a 5 = L b 5) 3 ⟨fun p h1 h2 => by rw [ptL_ne h1, ptL_ne h1], by simp [ptL_r, hab], by simp [ptL_r, hab]⟩ (fun n M hM => ?_) (fun n i M hi hM ih => ?_)
  · unfold wpX3_copyFrom_b50 wpX3_copyFrom_b50_body
    refine ⟨fun _ => hk _ _ (fun p hp => ?_) hM.1 ?_ ?_ hM.2.1 hM.2.2, fun hc => absurd (Int32.le_refl _) hc⟩
    · simp only [pt_ne hp]
    · simp [pt_r, hab]
    · simp [pt_r, hab]
  · unfold wpX3_copyFrom_b50 wpX3_copyFrom_b50_body
    refine ⟨fun hc => absurd hc (nI_ge hi (by decide)), fun _ => ⟨vin (by omega) (by decide), vin (by omega) (by decide), ?_⟩⟩
    rw [nI_1]
    exact ih _ ⟨fun p h1 h2 => by rw [ptL_ne h2]; exact hM.1 p h1 h2, by rw [ptL_ne (by omega)]; exact hM.2.1, by rw [ptL_ne (by omega)]; exact hM.2.2⟩
theorem x_copy1 {a b : Nat} {F : Nat → Nat → Int32} {L : Nat → Nat → Int64} {r : Nat → Nat → Nat} {K : cS → Prop} (hk : ∀ F' L', (∀ p, p ≠ a → p ≠ a + 2 → F' p = F p) → (∀ p, p ≠ a + 1 → p ≠ a + 3 → L' p = L p) → K (F', L', r)) : wpX1_copyFrom a b F L r K := by
  unfold wpX1_copyFrom wpX1_copyFrom_b0
  refine lpi (w := fun n (M : (Nat → Nat → Int32) × (Nat → Nat → Int64)) x => wpX1_copyFrom_b34 a b n M.1 M.2 r x K) (a0 := (_, L)) (fun _ M => (∀ p, p ≠ a → p ≠ a + 2 → M.1 p = F p) ∧ ∀ p, p ≠ a + 1 → p ≠ a + 3 → M.2 p = L p) 4 ⟨fun p h1 h2 => (pt_ne h1).trans ((pt_ne h1).trans ((pt_ne h1).trans (pt_ne h1))), fun _ _ _ => rfl⟩ (fun n M hM => ?_) (fun n i M hi hM ih => ?_)
  · unfold wpX1_copyFrom_b34 wpX1_copyFrom_b34_body
    exact ⟨fun _ => hk _ _ hM.1 hM.2, fun hc => absurd (Int32.le_refl _) hc⟩
  · unfold wpX1_copyFrom_b34 wpX1_copyFrom_b34_body
    have v : vp_in (nI i) 4 := vin hi (by decide)
    refine ⟨fun hc => absurd hc (nI_ge hi (by decide)), fun _ => ⟨v, v, v, v, v, v, ?_⟩⟩
    rw [nI_1]
    exact ih (_, _) ⟨fun p h1 h2 => (pt_ne h2).trans (hM.1 p h1 h2), fun p h1 h2 => (ptL_ne h2).trans ((ptL_ne h1).trans (hM.2 p h1 h2))⟩
theorem x_keep {K : Int32 → cS → Prop} {x : Int32} (hk : ∀ u, K (if 0 ≤ x ∧ x ≤ 3 then 1 else 0) u) : wpX10_keep cF0 cL0 cr0 x K := by
  unfold wpX10_keep wpX10_keep_b0 wpX10_keep_b9
  refine ⟨fun h => ?_, fun h1 => ⟨fun h2 => ?_, fun h => ?_⟩⟩
  · rw [if_neg (fun hc => absurd hc.1 (Int32.not_le.mpr h))] at hk; exact hk _
  · rw [if_pos (le3.mp ⟨h1, Int32.not_le.mpr h2⟩)] at hk
    obtain ⟨j, hj, rfl⟩ := i_sq (n := 4) rfl h1 (Int32.not_le.mpr h2)
    have v : vp_in (nI j) 4 := vin hj (by decide)
    refine ⟨v, x_copy1 (fun F L _ _ => ⟨v, ?_⟩)⟩
    rw [ix_nI (by omega)]
    refine x_copy3 (by omega) (fun F' L' _ _ _ _ _ _ => ⟨v, hk _⟩)
  · rw [if_neg (fun hc => h (Int32.not_le.mp (le3.mpr hc).2))] at hk; exact hk _
theorem x_knows_l {K : Int32 → cS → Prop} (hk : ∀ u, K (-1) u) : ∀ q s : Nat, s < 24 → s < 5 * q → ∀ x, wpX10_knows_b17 q cF0 cL0 cr0 (nI s) x K := by
  intro q
  induction q with
  | zero => intro s _ h; omega
  | succ q ih =>
    intro s hs hq x
    unfold wpX10_knows_b17 wpX10_knows_b17_body
    refine ⟨fun _ => hk _, fun _ => ⟨fun _ => x_way0 (by omega) rfl rfl ?_, fun hc => ?_⟩⟩
    · refine x_walled (fun hw => ⟨fun _ => ?_, fun hc => absurd rfl hc⟩) (fun hw => ⟨fun hc => absurd hc (by decide), fun _ => hk _⟩)
      unfold wpX1_ahead wpX1_ahead_b0
      refine ⟨and3 0, ?_⟩
      have hb : ∀ s, s < 5 → ¬ lg_cmp ((jlushr (cL0 47 (ix ((0 : Int32) &&& 3))) (nI s)) &&& 1) 0 = 0 := by decide +kernel
      have h5 : ¬ s < 5 := fun h => hb s h hw
      have ha : ∀ t, t < 19 → nI (t + 5) + cF0 48 (ix ((0 : Int32) &&& 3)) = nI t := by decide +kernel
      have e := ha (s - 5) (by omega)
      rw [show s - 5 + 5 = s by omega] at e
      have := ih (s - 5) (by omega) (by omega) (x + 1)
      rw [← e] at this
      exact this
    · have := (nI_eq (by omega) (by omega)).mp (show nI s = nI 24 from hc)
      omega
theorem x_knows {K : Int32 → cS → Prop} {x : Int32} (hk : ∀ u, K (if x = 24 then 0 else -1) u) : wpX10_knows cF0 cL0 cr0 x K := by
  unfold wpX10_knows wpX10_knows_b0
  refine x_has (fun h1 h2 => ⟨fun _ => ?_, fun hc => absurd hc (by decide)⟩) (fun h => ⟨fun hc => absurd rfl hc, fun _ => ?_⟩)
  · by_cases hx : x = 24
    · rw [if_pos hx] at hk
      subst hx
      refine ⟨1, ?_⟩
      unfold wpX10_knows_b17 wpX10_knows_b17_body
      exact ⟨fun hc => absurd hc (by decide), fun _ => ⟨fun hc => absurd rfl hc, fun _ => hk _⟩⟩
    · rw [if_neg hx] at hk
      obtain ⟨s, hs, rfl⟩ := i_sq (n := 25) rfl h1 h2
      have : s ≠ 24 := fun e => hx (by rw [e]; rfl)
      exact ⟨5, x_knows_l hk 5 s (by omega) (by omega) 0⟩
  · rw [if_neg (fun hc => by rw [hc] at h; exact absurd h (by decide))] at hk; exact hk _
theorem sw0 : ∀ i, i < 4 → (cL0 (46 + 1) i) &&& ((cL0 (46 + 3) i) ^^^ (-1 : Int64)) = 0 := by decide
theorem x_count {K : Int32 → cS → Prop} {x : Int32} (hk : ∀ u, K (if x = 0 then 25 else if 1 ≤ x ∧ x ≤ 4 then 0 else if x = 5 then 24 else if x = 6 then 0 else -1) u) : wpX10_count cF0 cL0 cr0 x K := by
  unfold wpX10_count wpX10_count_b0 wpX1_standingWalls wpX1_standingWalls_b0
  refine ⟨fun h => ?_, fun h => ⟨by decide, ?_⟩, fun h => ⟨by decide, ?_⟩, fun h => ⟨by decide, ?_⟩, fun h => ?_, fun h => ?_, fun h => ?_, fun h => ?_⟩
  · subst h; exact hk _
  · subst h; exact hk _
  · subst h; exact hk _
  · subst h; exact hk _
  · subst h
    refine ⟨vin (n := 1) (by decide) (by decide), vin (n := 1) (by decide) (by decide), ?_⟩
    rw [show ix (1 : Int32) = 1 from rfl, sw0 1 (by decide)]
    refine x_bitL0 ⟨vin (n := 2) (by decide) (by decide), vin (n := 2) (by decide) (by decide), ?_⟩
    rw [show ix (2 : Int32) = 2 from rfl, sw0 2 (by decide)]
    exact x_bitL0 (hk _)
  · subst h; exact hk _
  · subst h; exact x_bitI0 (hk _)
  · rw [if_neg, if_neg, if_neg, if_neg] at hk
    · exact hk _
    · rintro rfl; exact absurd h (by decide)
    · rintro rfl; exact absurd h (by decide)
    · rintro ⟨a, b⟩
      rw [Int32.le_iff_toInt_le] at a b
      have e0 : (1 : Int32).toInt = 1 := rfl
      have e3 : (4 : Int32).toInt = 4 := rfl
      omega
    · rintro rfl; exact absurd h (by decide)
