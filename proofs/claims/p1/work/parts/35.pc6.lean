/-! The class on a fresh object: suspects and trials. -/
def Iv (F : Nat → Nat → Int32) : Prop := Iq F ∧ F 102 0 = 0 ∧ F 102 1 = 0
theorem x_stepI {F : Nat → Nat → Int32} {L : Nat → Nat → Int64} {r : Nat → Nat → Nat} {K : cS → Prop} (hr : r 102 4 = 31) (hI : Iv F) (e1 : F 45 1 = 0) (e2 : F 45 2 = 0) (hk : ∀ F', Iv F' → F' 45 1 = 0 → F' 45 2 = 0 → K (F', L, r)) : kd (r 102 4) = 4 ∧ wpX0_step 45 (r 102 4) 92 70 F L r K := by
  rw [hr]
  obtain ⟨⟨i1, i2, i3, i4, i5, i6⟩, i7, i8⟩ := hI
  refine ⟨by decide, x_step i2 i3 i4 (by decide) (by decide) (by decide) e1 e2 (fun F' hp k0 k1 k2 => hk F' ⟨Iq_of ⟨i1, i2, i3, i4, i5, i6⟩ (hp 17 (by decide)) (hp 31 (by decide)) (hp 33 (by decide)) (hp 34 (by decide)) (hp 44 (by decide)), ?_, ?_⟩ k1 k2)⟩
  · rw [hp 102 (by decide)]; exact i7
  · rw [hp 102 (by decide)]; exact i8
theorem Iv_of {F G : Nat → Nat → Int32} (h : Iv F) (hp : ∀ p, p ≠ 92 → p ≠ 45 → p ≠ 103 → G p = F p) : Iv G := by
  refine ⟨Iq_of h.1 (hp 17 (by decide) (by decide) (by decide)) (hp 31 (by decide) (by decide) (by decide)) (hp 33 (by decide) (by decide) (by decide)) (hp 34 (by decide) (by decide) (by decide)) (hp 44 (by decide) (by decide) (by decide)), ?_, ?_⟩
  · rw [hp 102 (by decide) (by decide) (by decide)]; exact h.2.1
  · rw [hp 102 (by decide) (by decide) (by decide)]; exact h.2.2
theorem x_record {F : Nat → Nat → Int32} {L : Nat → Nat → Int64} {r : Nat → Nat → Nat} {j : Nat} {K : cS → Prop} (hr : r 102 4 = 31) (hj : j ≤ 500) (hI : Iv F) (hk : ∀ F' L', Iv F' → K (F', L', r)) : wpX2_recordTrack F L r (nI j) K := by
  unfold wpX2_recordTrack wpX2_recordTrack_b0
  refine x_copy3 (by decide) (fun F1 L1 p1 q1 a0 a1 a4 a5 => ?_)
  unfold wpX0_jamLike wpX0_jamLike_b0 wpX0_jamAll wpX0_jamAll_b0
  dsimp only
  generalize hG : pt (pt (pt F1 45 1 (F1 44 1)) 45 2 (F1 44 2 &&& F1 44 1)) 45 0 (pt (pt F1 45 1 (F1 44 1)) 45 2 (F1 44 2 &&& F1 44 1) 45 2) = G
  have gp : ∀ p, p ≠ 45 → G p = F1 p := fun p hp => by rw [← hG, pt_ne hp, pt_ne hp, pt_ne hp]
  have IF : Iv F1 := Iv_of hI (fun p a _ _ => p1 p a)
  have g1 : G 45 1 = 0 := by rw [← hG]; simp [pt_r, IF.1.2.2.2.2.1]
  have g2 : G 45 2 = 0 := by rw [← hG]; simp [pt_r, IF.1.2.2.2.2.1]
  have IG : Iv G := Iv_of IF (fun p _ b _ => gp p b)
  refine lpi (w := fun n u x2 => wpX2_recordTrack_b24 n u L1 r (nI j) x2 K) (fun _ u => Iv u ∧ u 45 1 = 0 ∧ u 45 2 = 0) j ⟨IG, g1, g2⟩ (fun n u hu => ?_) (fun n i u hi hu ih => ?_)
  · unfold wpX2_recordTrack_b24 wpX2_recordTrack_b24_body wpX2_recordTrack_b71
    exact ⟨fun _ => hk _ _ hu.1, fun hc => absurd (Int32.le_refl _) hc⟩
  · unfold wpX2_recordTrack_b24 wpX2_recordTrack_b24_body wpX2_recordTrack_b71
    refine ⟨fun hc => absurd hc (nI_ge hi (by omega)), fun _ => ⟨fun _ => hk _ _ hu.1, fun _ => x_stepI hr hu.1 hu.2.1 hu.2.2 (fun F' hF' k1 k2 => ?_)⟩⟩
    unfold wpX2_stand wpX2_stand_b0
    dsimp only
    rw [nI_1]
    refine ⟨vin (by omega) (by decide), ih _ ⟨Iv_of hF' (fun p _ _ c => pt_ne c), ?_, ?_⟩⟩
    · rw [pt_ne (by decide)]; exact k1
    · rw [pt_ne (by decide)]; exact k2
theorem x_keeps0 {F : Nat → Nat → Int32} {L : Nat → Nat → Int64} {r : Nat → Nat → Nat} {j : Nat} {K : Int32 → cS → Prop} (hr : r 102 4 = 31) (hj : j ≤ 500) (hI : Iv F) (hk : ∀ v F' L', Iv F' → K v (F', L', r)) : wpX2_keepsTrack F L r 0 0 (nI j) K := by
  unfold wpX2_keepsTrack wpX2_keepsTrack_b0
  refine x_copy3 (by decide) (fun F1 L1 p1 q1 a0 a1 a4 a5 => ?_)
  unfold wpX0_jamAll wpX0_jamAll_b0
  dsimp only
  generalize hG : pt (pt (pt F1 45 1 0) 45 2 (0 &&& 0)) 45 0 (pt (pt F1 45 1 0) 45 2 (0 &&& 0) 45 2) = G
  have gp : ∀ p, p ≠ 45 → G p = F1 p := fun p hp => by rw [← hG, pt_ne hp, pt_ne hp, pt_ne hp]
  have IF : Iv F1 := Iv_of hI (fun p a _ _ => p1 p a)
  have g1 : G 45 1 = 0 := by rw [← hG]; simp [pt_r]
  have g2 : G 45 2 = 0 := by rw [← hG]; simp [pt_r]
  have IG : Iv G := Iv_of IF (fun p _ b _ => gp p b)
  refine lpi (w := fun n u x2 => wpX2_keepsTrack_b23 n u L1 r (nI j) x2 K) (fun _ u => Iv u ∧ u 45 1 = 0 ∧ u 45 2 = 0) j ⟨IG, g1, g2⟩ (fun n u hu => ?_) (fun n i u hi hu ih => ?_)
  · unfold wpX2_keepsTrack_b23 wpX2_keepsTrack_b23_body wpX2_keepsTrack_b78
    exact ⟨fun _ => hk _ _ _ hu.1, fun hc => absurd (Int32.le_refl _) hc⟩
  · unfold wpX2_keepsTrack_b23 wpX2_keepsTrack_b23_body wpX2_keepsTrack_b78
    refine ⟨fun hc => absurd hc (nI_ge hi (by omega)), fun _ => ⟨fun _ => hk _ _ _ hu.1, fun _ => x_stepI hr hu.1 hu.2.1 hu.2.2 (fun F' hF' k1 k2 => ?_)⟩⟩
    unfold wpX2_stand wpX2_stand_b0
    dsimp only
    rw [nI_1]
    exact ⟨vin (by omega) (by decide), fun _ => ih _ ⟨hF', k1, k2⟩, fun _ => hk _ _ _ hF'⟩
theorem x_find {F : Nat → Nat → Int32} {L : Nat → Nat → Int64} {r : Nat → Nat → Nat} {j : Nat} {K : cS → Prop} (hr : r 102 4 = 31) (hj : j ≤ 500) (hI : Iq F) (hk : ∀ F' L', Iv F' → K (F', L', r)) : wpX2_findSuspects F L r (nI j) K := by
  unfold wpX2_findSuspects wpX2_findSuspects_b0
  have I0 : Iv (pt (pt F 102 0 0) 102 1 0) := by
    refine ⟨Iq_of hI ?_ ?_ ?_ ?_ ?_, ?_, ?_⟩
    · rw [pt_ne (by decide), pt_ne (by decide)]
    · rw [pt_ne (by decide), pt_ne (by decide)]
    · rw [pt_ne (by decide), pt_ne (by decide)]
    · rw [pt_ne (by decide), pt_ne (by decide)]
    · rw [pt_ne (by decide), pt_ne (by decide)]
    · simp [pt_r]
    · simp [pt_r]
  refine x_record hr hj I0 (fun F1 L1 I1 => x_keeps0 hr hj I1 (fun v F2 L2 I2 => ⟨fun _ => ⟨1, ?_⟩, fun _ => hk _ _ I2⟩))
  unfold wpX2_findSuspects_b28 wpX2_findSuspects_b28_body
  dsimp only
  rw [hr, I2.1.2.1]
  exact ⟨by decide, fun _ => hk _ _ I2, fun hc => absurd (by decide) hc⟩
theorem le1 {y : Int32} (h : ¬ y < 0) (h2 : y ≤ 1) : 0 ≤ y ∧ y ≤ 1 := ⟨i_nlt h, h2⟩
theorem x_suspects {K : Int32 → cS → Prop} {x y : Int32} (hk : ∀ u, K (if (1 ≤ x ∧ x ≤ 500) ∧ 0 ≤ y ∧ y ≤ 1 then 0 else -1) u) : wpX10_suspects cF0 cL0 cr0 x y K := by
  unfold wpX10_suspects wpX10_suspects_b0 wpX10_suspects_b16 wpX10_suspects_b70
  refine x_len (fun h => ⟨fun hc => absurd hc (by decide), fun _ => ⟨fun h1 => ?_, fun h1 => ⟨fun h2 => ⟨by decide, ?_⟩, fun h2 => ?_⟩⟩⟩) (fun h => ⟨fun _ => ?_, fun hc => absurd rfl hc⟩)
  · rw [if_neg (fun hc => absurd hc.2.1 (Int32.not_le.mpr h1))] at hk; exact hk _
  · rw [if_pos ⟨h, le1 h1 h2⟩] at hk
    obtain ⟨j, hj, rfl⟩ := i_mid (n := 500) rfl (Int32.le_trans (by decide) h.1) h.2
    refine x_begin (fun F L hI => x_find (by rfl) hj hI (fun F' L' hI' => ?_))
    dsimp only
    rw [hI'.2.1, hI'.2.2]
    exact ⟨fun _ => hk _, fun _ => hk _⟩
  · rw [if_neg (fun hc => absurd hc.2.2 h2)] at hk; exact hk _
  · rw [if_neg (fun hc => h hc.1)] at hk; exact hk _
theorem x_trial {K : Int32 → cS → Prop} {x y : Int32} (hk : ∀ u, K (-1) u) : wpX10_trial cF0 cL0 cr0 x y K := by
  unfold wpX10_trial wpX10_trial_b0 wpX10_trial_b16
  refine x_len (fun h => ⟨fun hc => absurd hc (by decide), fun _ => ⟨fun h1 => hk _, fun h1 => ⟨fun h2 => ⟨by decide, ?_⟩, fun h2 => hk _⟩⟩⟩) (fun h => ⟨fun _ => hk _, fun hc => absurd rfl hc⟩)
  obtain ⟨j, hj, rfl⟩ := i_mid (n := 500) rfl (Int32.le_trans (by decide) h.1) h.2
  refine x_begin (fun F L hI => x_find (by rfl) hj hI (fun F' L' hI' => ?_))
  unfold wpX2_suspectCount wpX2_suspectCount_b0
  dsimp only
  rw [hI'.2.1, hI'.2.2]
  exact x_bitI0 (x_bitI0 ⟨fun hc => absurd hc (by decide), fun _ => hk _⟩)
