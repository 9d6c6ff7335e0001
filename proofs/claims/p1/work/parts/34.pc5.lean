/-! The class on a fresh object: the longest run, trials, needs. -/
theorem nI_nlu {i b : Nat} (h : i ≤ b) (hb : b < 2 ^ 31) : ¬ nI b < nI i := by
  rcases Nat.lt_or_ge i b with h' | h'
  · exact fun hc => nI_ge h' hb (Int32.le_of_lt hc)
  · have : i = b := by omega
    subst this
    exact Int32.lt_irrefl
def Lo (n k : Nat) (F : Nat → Nat → Int32) : Prop := F 99 k = 0 ∧ F 100 k = 0 ∧ F 101 k = nI (n - 1)
theorem x_longest {K : Int32 → cS → Prop} {x y z : Int32} (hk : ∀ u, K (if ((2 ≤ x ∧ x ≤ 3) ∧ 2 ≤ y ∧ y ≤ 3) ∧ 0 ≤ z ∧ z ≤ 2 then (if z = 2 then x * y - 1 else 0) else -1) u) : wpX10_longest cF0 cL0 cr0 x y z K := by
  unfold wpX10_longest wpX10_longest_b0 wpX10_longest_b17
  refine x_small (fun h => ⟨fun hc => absurd hc (by decide), fun _ => ⟨fun h1 => ?_, fun h1 => ⟨fun h2 => ⟨by decide, ?_⟩, fun h2 => ?_⟩⟩⟩) (fun h => ⟨fun _ => ?_, fun hc => absurd rfl hc⟩)
  · rw [if_neg (fun hc => absurd hc.2.1 (Int32.not_le.mpr h1))] at hk; exact hk _
  · rw [if_pos ⟨h, i_nlt h1, h2⟩] at hk
    obtain ⟨w, hh, n, M, k, rfl, rfl, S⟩ := Sk_of h
    unfold wpX8_longestBy wpX8_longestBy_b0
    have k4 : k < 4 := S.2.1.2
    have vk : vp_in (nI k) 4 := vin k4 (by decide)
    have ik : ix (nI k) = k := ix_nI (by omega)
    have n4 : 4 ≤ n := S.1.2.2.1
    have n9 : n ≤ 9 := S.1.2.2.2.1
    have n1 : nI w * nI hh - 1 = nI (n - 1) := by rw [S.1.2.1]; exact S.1.2.2.2.2.2.2.2.1
    rw [n1] at hk
    have hb : ∀ j, j < 4 → jshr (cF0 96 7) (nI j) &&& 1 = 0 := by decide
    refine x_sizeOf S ⟨fun hc => absurd (hb k k4) hc, fun _ => x_layFirst S rfl (fun F1 L1 G1 e3 e4 hL => ?_)⟩
    have fin : ∀ F2 L2, Lo n k F2 → wpX8_longestBy_b45 (cr0 0 3) (pt F2 96 7 (F2 96 7 ||| jshl 1 (nI k))) L2 cr0 z (nI k) (fun r30 u30 => K r30 (u30.1, u30.2.1, u30.2.2)) := fun F2 L2 hF => by
      unfold wpX8_longestBy_b45 wpX8_longestBy_b81
      rw [ik, pt_ne (by decide), pt_ne (by decide), pt_ne (by decide), hF.1, hF.2.1, hF.2.2]
      refine ⟨fun z0 => ⟨fun z1 => ⟨vk, ?_⟩, fun z1 => ⟨vk, ?_⟩⟩, fun z0 => ⟨vk, ?_⟩⟩
      · obtain ⟨j, hj, rfl⟩ := i_mid (n := 2) rfl (i_nlt h1) h2
        match j, hj with
        | 0, _ => exact absurd rfl z0
        | 1, _ => exact absurd rfl z1
        | 2, _ => exact hk _
      · subst z1; exact hk _
      · subst z0; exact hk _
    unfold wpX8_findLongest wpX8_findLongest_b0
    refine ⟨vk, ?_⟩
    refine lpi (w := fun m (u : (Nat → Nat → Int32) × (Nat → Nat → Int64)) x3 => wpX8_findLongest_b9 (cr0 0 3) m u.1 u.2 cr0 (nI k) x3 _) (a0 := (pt F1 99 (ix (nI k)) (-1), L1)) (fun i u => Gs w hh n u.1 ∧ ((i < n ∧ u.1 99 k = -1 ∧ u.1 96 3 = 0 ∧ u.1 96 4 + 1 = nI i ∧ ∀ s, s < n → ¬ lg_cmp ((jlushr (u.2 96 5) (nI s)) &&& (1 : Int64)) 0 = 0) ∨ Lo n k u.1)) 36864 ?_ (fun m u hu => ?_) (fun m i u hi hu ih => ?_)
    · dsimp only
      refine ⟨?_, Or.inl ⟨by omega, ?_, ?_, ?_, hL⟩⟩
      · unfold Gs
        rw [pt_ne (by decide), pt_ne (by decide)]
        exact G1
      · rw [ik]; simp [pt_r]
      · rw [pt_ne (by decide)]; exact e3
      · rw [pt_ne (by decide), e4]; decide
    · unfold wpX8_findLongest_b9 wpX8_findLongest_b9_body wpX8_findLongest_b94
      exact ⟨fun _ => fin _ _ (hu.2.elim (fun h => absurd h.1 (by omega)) id), fun hc => absurd (by decide) hc⟩
    · obtain ⟨F, L⟩ := u
      obtain ⟨G, hu⟩ := hu
      have G : Gs w hh n F := G
      unfold wpX8_findLongest_b9 wpX8_findLongest_b9_body wpX8_findLongest_b88
      dsimp only
      rw [nI_1, ik]
      refine ⟨fun hc => absurd hc (nI_ge hi (by decide)), fun _ => ?_⟩
      rcases hu with ⟨hin, u1, u2, u3, u4⟩ | hu
      · have u1 : F 99 k = -1 := u1
        have u2 : F 96 3 = 0 := u2
        have u3 : F 96 4 + 1 = nI i := u3
        have u4 : ∀ s, s < n → ¬ lg_cmp ((jlushr (L 96 5) (nI s)) &&& (1 : Int64)) 0 = 0 := u4
        refine x_next1 (s := i) S G u3 hin u2 (u4 i hin) ⟨fun hc => absurd hc (by decide), fun _ => ?_⟩
        unfold wpX3_setDownWiped wpX3_setDownWiped_b0 wpX3_setDown wpX3_setDown_b0
        refine x_clearS (fun L2 q2 _ _ => ?_)
        dsimp only
        generalize hJ : pt (pt (pt (pt (pt F 96 4 (nI i)) 86 0 (pt F 96 4 (nI i) 96 4)) 86 1 0) 86 2 0) 86 3 0 = J
        have jp : ∀ p, p ≠ 86 → p ≠ 96 → J p = F p := fun p a b => by rw [← hJ, pt_ne a, pt_ne a, pt_ne a, pt_ne a, pt_ne b]
        have j0 : J 86 0 = nI i := by rw [← hJ]; simp [pt_r]
        have j3 : J 96 3 = 0 := by rw [← hJ]; simp [pt_r, u2]
        have j4 : J 96 4 = nI i := by rw [← hJ]; simp [pt_r]
        have j99 : J 99 k = -1 := by rw [jp 99 (by decide) (by decide)]; exact u1
        have GJ : Gs w hh n J := by
          unfold Gs
          rw [jp 66 (by decide) (by decide), jp 17 (by decide) (by decide)]
          exact G
        have q4 : ∀ s, s < n → ¬ lg_cmp ((jlushr (L2 96 5) (nI s)) &&& (1 : Int64)) 0 = 0 := by
          rw [show L2 96 = L 96 from q2 96 (by decide) (by decide)]
          exact u4
        by_cases hb : i = n - 1
        · refine x_arrB (by decide) (by rw [j0, GJ.2.2.2.1, hb]) ⟨vk, fun hc => ?_, fun _ => ⟨vk, vk, vk, ?_⟩⟩
          · exfalso
            rw [show (J, L2, cr0).1 99 k = -1 from j99] at hc
            exact absurd hc (by decide)
          · refine ih (pt (pt (pt J 99 k 0) 100 k ((pt J 99 k 0) 96 3)) 101 k ((pt (pt J 99 k 0) 100 k ((pt J 99 k 0) 96 3)) 96 4), L2) ⟨?_, Or.inr ⟨?_, ?_, ?_⟩⟩
            · unfold Gs
              dsimp only
              rw [pt_ne (by decide), pt_ne (by decide), pt_ne (by decide), pt_ne (by decide), pt_ne (by decide), pt_ne (by decide)]
              exact GJ
            · simp [pt_r]
            · simp [pt_r, j3]
            · simp [pt_r, j4, hb]
        · have nb : ¬ J 86 0 = J 66 3 := by
            rw [j0, GJ.2.2.2.1]
            intro e
            exact hb ((nI_eq (by omega) (by omega)).mp e)
          refine x_arrN GJ.2.2.2.2 nb (fun v => ⟨⟨vk, fun _ => ?_, fun hc => ?_⟩, ⟨vk, fun _ => ?_, fun hc => ?_⟩⟩)
          · refine ih (J, L2) ⟨GJ, Or.inl ⟨by omega, j99, j3, ?_, q4⟩⟩
            show J 96 4 + 1 = _
            rw [j4, nI_1]
          · exfalso
            apply hc
            show -2 ≤ J 99 k
            rw [j99]; decide
          · refine ih (pt J 86 6 v, L2) ⟨?_, Or.inl ⟨by omega, ?_, ?_, ?_, q4⟩⟩
            · unfold Gs
              dsimp only
              rw [pt_ne (by decide), pt_ne (by decide)]
              exact GJ
            · dsimp only; rw [pt_ne (by decide)]; exact j99
            · dsimp only; rw [pt_ne (by decide)]; exact j3
            · dsimp only; rw [pt_ne (by decide), j4, nI_1]
          · exfalso
            apply hc
            show -2 ≤ pt J 86 6 v 99 k
            rw [pt_ne (by decide), j99]; decide
      · have hu : Lo n k F := hu
        refine x_nextT S G (fun v F2 L2 q => ⟨fun _ => ?_, fun _ => ?_⟩)
        · unfold wpX8_findLongest_b94
          refine fin _ _ ?_
          unfold Lo
          dsimp only
          rw [q 99 (by decide), q 100 (by decide), q 101 (by decide)]
          exact hu
        · unfold wpX3_setDownWiped wpX3_setDownWiped_b0 wpX3_setDown wpX3_setDown_b0
          refine x_clearS (fun L3 _ _ _ => ?_)
          dsimp only
          generalize hJ : pt (pt (pt (pt F2 86 0 (F2 96 4)) 86 1 0) 86 2 0) 86 3 0 = J
          have jp : ∀ p, p ≠ 86 → p ≠ 96 → J p = F p := fun p a b => by rw [← hJ, pt_ne a, pt_ne a, pt_ne a, pt_ne a, q p b]
          have GJ : Gs w hh n J := by
            unfold Gs
            rw [jp 66 (by decide) (by decide), jp 17 (by decide) (by decide)]
            exact G
          have LJ : Lo n k J := by
            unfold Lo
            rw [jp 99 (by decide) (by decide), jp 100 (by decide) (by decide), jp 101 (by decide) (by decide)]
            exact hu
          by_cases hb : J 86 0 = J 66 3
          · refine x_arrB (by decide) hb ⟨vk, fun _ => ih (J, L3) ⟨GJ, Or.inr LJ⟩, fun hc => ?_⟩
            exfalso
            apply hc
            show 0 ≤ J 99 k
            rw [LJ.1]; decide
          · refine x_arrN GJ.2.2.2.2 hb (fun v => ⟨⟨vk, fun _ => ih (J, L3) ⟨GJ, Or.inr LJ⟩, fun hc => ?_⟩, ⟨vk, fun _ => ih (pt J 86 6 v, L3) ⟨?_, Or.inr ?_⟩, fun hc => ?_⟩⟩)
            · exfalso
              apply hc
              show -2 ≤ J 99 k
              rw [LJ.1]; decide
            · unfold Gs
              dsimp only
              rw [pt_ne (by decide), pt_ne (by decide)]
              exact GJ
            · unfold Lo
              dsimp only
              rw [pt_ne (by decide), pt_ne (by decide), pt_ne (by decide)]
              exact LJ
            · exfalso
              apply hc
              show -2 ≤ pt J 86 6 v 99 k
              rw [pt_ne (by decide), LJ.1]; decide
  · rw [if_neg (fun hc => absurd hc.2.2 h2)] at hk; exact hk _
  · rw [if_neg (fun hc => h hc.1)] at hk; exact hk _
theorem x_needs {K : Int32 → cS → Prop} {x y z : Int32} (hk : ∀ u, K (if (0 ≤ x ∧ x ≤ 2) ∧ (2 ≤ y ∧ y ≤ 3) ∧ 2 ≤ z ∧ z ≤ 3 then 0 else -1) u) : wpX10_needs cF0 cL0 cr0 x y z K := by
  unfold wpX10_needs wpX10_needs_b0 wpX10_needs_b17 wpX10_needs_b41
  refine x_small (fun h => ⟨fun hc => absurd hc (by decide), fun _ => ⟨fun h1 => ?_, fun h1 => ⟨fun h2 => ⟨by decide, ?_⟩, fun h2 => ?_⟩⟩⟩) (fun h => ⟨fun _ => ?_, fun hc => absurd rfl hc⟩)
  · rw [if_neg (fun hc => absurd hc.1.1 (Int32.not_le.mpr h1))] at hk; exact hk _
  · have h3 : x ≤ 2 := by
      rw [Int32.lt_iff_toInt_lt] at h2
      rw [Int32.le_iff_toInt_le]
      have e3 : (3 : Int32).toInt = 3 := rfl
      have e2 : (2 : Int32).toInt = 2 := rfl
      omega
    rw [if_pos ⟨⟨i_nlt h1, h3⟩, h⟩] at hk
    unfold wpX8_isNeeded wpX8_isNeeded_b0 wpX6_usesYes wpX6_usesYes_b0
    refine ⟨1, ?_⟩
    unfold wpX6_usesYes_b15 wpX6_usesYes_b15_body wpX6_usesYes_b114 wpX6_usesYes_b115
    exact ⟨fun _ => ⟨fun _ => ⟨Or.inl rfl, fun hc => absurd rfl hc, fun _ => ⟨fun _ => hk _, fun hc => absurd rfl hc⟩⟩, fun hc => absurd rfl hc⟩, fun hc => absurd (by decide) hc⟩
  · rw [if_neg (fun hc => h2 (by
      have := hc.1.2
      rw [Int32.le_iff_toInt_le] at this
      rw [Int32.lt_iff_toInt_lt]
      have e3 : (3 : Int32).toInt = 3 := rfl
      have e2 : (2 : Int32).toInt = 2 := rfl
      omega))] at hk
    exact hk _
  · rw [if_neg (fun hc => h hc.2)] at hk; exact hk _
theorem x_len {x : Int32} {K : Int32 → Unit → Prop} (h1 : 1 ≤ x ∧ x ≤ 500 → K 1 ()) (h0 : ¬ (1 ≤ x ∧ x ≤ 500) → K 0 ()) : wpX2_isLength x K := by
  unfold wpX2_isLength wpX2_isLength_b0 wpX2_isLength_b16 wpX2_isLength_b17
  exact ⟨fun a => ⟨Or.inl rfl, h0 (fun hc => absurd hc.1 (Int32.not_le.mpr a))⟩, fun a => ⟨fun b => ⟨Or.inl rfl, h0 (fun hc => absurd hc.2 (Int32.not_le.mpr b))⟩, fun b => ⟨Or.inr rfl, h1 ⟨i_nlt a, i_nlt b⟩⟩⟩⟩
/-- what stays through an inquest on a fresh object -/
def Iq (F : Nat → Nat → Int32) : Prop := F 17 0 = 0 ∧ F 31 0 = 0 ∧ (∀ j, F 33 j = 0) ∧ (∀ j, F 34 j = 0) ∧ F 44 1 = 0 ∧ F 44 2 = 0
theorem Iq_of {F G : Nat → Nat → Int32} (h : Iq F) (h17 : G 17 = F 17) (h31 : G 31 = F 31) (h33 : G 33 = F 33) (h34 : G 34 = F 34) (h44 : G 44 = F 44) : Iq G := by
  unfold Iq
  rw [h17, h31, h33, h34, h44]
  exact h
theorem x_begin {K : cS → Prop} (hk : ∀ F L, Iq F → K (F, L, ptN cr0 102 4 31)) : wpX2_begin (cr0 0 4) 74 46 43 cF0 cL0 cr0 K := by
  unfold wpX2_begin wpX2_begin_b0
  refine x_copy3 (by decide) (fun F1 L1 h1 _ _ _ _ _ => ?_)
  refine x_copy1 (fun F2 L2 h2 _ => ?_)
  unfold wpX0_jamLike wpX0_jamLike_b0 wpX0_jamAll wpX0_jamAll_b0
  dsimp only
  have e : ∀ p, p ≠ 90 → p ≠ 70 → p ≠ 72 → F2 p = cF0 p := fun p a b c => (h2 p b c).trans (h1 p a)
  refine hk _ _ ⟨?_, ?_, fun j => ?_, fun j => ?_, ?_, ?_⟩
  · rw [pt_ne (by decide), pt_ne (by decide), pt_ne (by decide), e 17 (by decide) (by decide) (by decide)]; rfl
  · rw [pt_ne (by decide), pt_ne (by decide), pt_ne (by decide), e 31 (by decide) (by decide) (by decide)]; rfl
  · rw [pt_ne (by decide), pt_ne (by decide), pt_ne (by decide), e 33 (by decide) (by decide) (by decide)]; rfl
  · rw [pt_ne (by decide), pt_ne (by decide), pt_ne (by decide), e 34 (by decide) (by decide) (by decide)]; rfl
  · simp [pt_r, e 43]; rfl
  · simp [pt_r, e 43]; rfl
theorem x_same {K : Int32 → cS → Prop} {x : Int32} (hk : ∀ u, K (if 1 ≤ x ∧ x ≤ 500 then 0 else -1) u) : wpX10_same cF0 cL0 cr0 x K := by
  unfold wpX10_same wpX10_same_b0
  refine x_len (fun h => ⟨fun _ => ⟨by decide, ?_⟩, fun hc => absurd hc (by decide)⟩) (fun h => ⟨fun hc => absurd rfl hc, fun _ => ?_⟩)
  · rw [if_pos h] at hk
    refine x_begin (fun F L hI => ⟨(by show kd 17 = 6; decide), ?_⟩)
    obtain ⟨j, hj, rfl⟩ := i_mid (n := 500) rfl (Int32.le_trans (by decide) h.1) h.2
    unfold wpX2_firstDifference wpX2_firstDifference_b0
    refine x_copy3 (by decide) (fun F1 L1 p1 q1 a0 a1 a4 a5 => x_copy3 (by decide) (fun F2 L2 p2 q2 b0 b1 b4 b5 => ?_))
    unfold wpX0_jamLike wpX0_jamLike_b0 wpX0_jamAll wpX0_jamAll_b0
    dsimp only
    dsimp only at p1 q1 a0 a1 a4 a5 p2 q2 b0 b1 b4 b5
    have I2 : Iq F2 := Iq_of (Iq_of hI (p1 17 (by decide)) (p1 31 (by decide)) (p1 33 (by decide)) (p1 34 (by decide)) (p1 44 (by decide))) (p2 17 (by decide)) (p2 31 (by decide)) (p2 33 (by decide)) (p2 34 (by decide)) (p2 44 (by decide))
    have j5 : 1 ≤ j := by
      rcases Nat.lt_or_ge 0 j with h' | h'
      · exact h'
      · have : j = 0 := by omega
        subst this
        exact absurd h.1 (by decide)
    have c0 : F2 92 0 = F2 94 0 := by rw [b0, p2 94 (by decide), a0, p1 90 (by decide)]
    have c1 : F2 92 1 = F2 94 1 := by rw [b1, p2 94 (by decide), a1, p1 90 (by decide)]
    have c4 : L2 92 4 = L2 94 4 := by rw [b4, q2 94 (by decide) (by decide), a4, q1 90 (by decide) (by decide)]
    have c5 : L2 92 5 = L2 94 5 := by rw [b5, q2 94 (by decide) (by decide), a5, q1 90 (by decide) (by decide)]
    generalize hr : ptN cr0 102 4 31 = r
    have hr4 : r 102 4 = 31 := by rw [← hr]; rfl
    have hr3 : r 0 3 = 17 := by rw [← hr]; rfl
    rw [show (r 0 3) = 17 from hr3]
    have H : ∃ m, ∀ G, (Iq G ∧ G 45 1 = 0 ∧ G 45 2 = 0 ∧ G 92 0 = G 94 0 ∧ G 92 1 = G 94 1) → wpX2_firstDifference_b35 17 m G L2 r (nI j) (nI (0 + 1)) (fun r41 u41 => K r41 (u41.1, u41.2.1, u41.2.2)) := by
      refine lp (w := fun m i => ∀ G, (Iq G ∧ G 45 1 = 0 ∧ G 45 2 = 0 ∧ G 92 0 = G 94 0 ∧ G 92 1 = G 94 1) → wpX2_firstDifference_b35 17 m G L2 r (nI j) (nI (i + 1)) (fun r41 u41 => K r41 (u41.1, u41.2.1, u41.2.2))) j (fun m G hG => ?_) (fun m i hi ih G hG => ?_)
      · unfold wpX2_firstDifference_b35 wpX2_firstDifference_b35_body
        exact ⟨fun _ => hk _, fun hc => absurd (Int32.not_le.mp (nI_ge (show j < j + 1 by omega) (by omega))) hc⟩
      · obtain ⟨⟨i1, i2, i3, i4, i5, i6⟩, g1, g2, g3, g4⟩ := hG
        unfold wpX2_firstDifference_b35 wpX2_firstDifference_b35_body wpX2_firstDifference_b99
        refine ⟨fun hc => absurd hc (nI_nlu (show i + 1 ≤ j by omega) (by omega)), fun _ => ?_⟩
        · refine x_obey i1 ?_
          dsimp only
          rw [hr4]
          refine ⟨by decide, ?_⟩
          have e : ∀ p, p ≠ 94 → pt G 94 6 (-1) p = G p := fun p hp => pt_ne hp
          refine x_step (by rw [e 31 (by decide)]; exact i2) (fun j => by rw [e _ (by decide)]; exact i3 j) (fun j => by rw [e _ (by decide)]; exact i4 j) (by decide) (by decide) (by decide) (by rw [e 45 (by decide)]; exact g1) (by rw [e 45 (by decide)]; exact g2) (fun G' hp k0 k1 k2 => ?_)
          have z92 : G' 92 = G 92 := (hp 92 (by decide)).trans (e 92 (by decide))
          have z94 : ∀ t, t ≠ 6 → G' 94 t = G 94 t := fun t ht => by rw [hp 94 (by decide), pt_r, if_pos rfl, if_neg ht]
          have y0 : G' 92 0 = G' 94 0 := by rw [z92, z94 0 (by decide)]; exact g3
          have y1 : G' 92 1 = G' 94 1 := by rw [z92, z94 1 (by decide)]; exact g4
          unfold wpX3_standsAs wpX3_standsAs_b0 wpX3_standsAs_b26 wpX3_standsAs_b27 wpX3_hasWaysOf wpX3_hasWaysOf_b0 wpX3_hasWaysOf_b28 wpX3_hasWaysOf_b29
          dsimp only
          rw [c4, c5, y0, y1, nI_1]
          have lz : ∀ v : Int64, lg_cmp v v = 0 := fun v => by unfold lg_cmp; simp
          refine ⟨fun hc => absurd rfl hc, fun _ => ⟨fun hc => absurd rfl hc, fun _ => ⟨Or.inr rfl, fun hc => absurd hc (by decide), fun _ => ⟨fun hc => absurd (lz _) hc, fun _ => ⟨fun hc => absurd (lz _) hc, fun _ => ⟨Or.inr rfl, fun _ => ?_, fun hc => absurd hc (by decide)⟩⟩⟩⟩⟩⟩
          refine ih G' ⟨Iq_of ⟨i1, i2, i3, i4, i5, i6⟩ ?_ ?_ ?_ ?_ ?_, k1, k2, y0, y1⟩
          · exact (hp 17 (by decide)).trans (e 17 (by decide))
          · exact (hp 31 (by decide)).trans (e 31 (by decide))
          · exact (hp 33 (by decide)).trans (e 33 (by decide))
          · exact (hp 34 (by decide)).trans (e 34 (by decide))
          · exact (hp 44 (by decide)).trans (e 44 (by decide))
    obtain ⟨m, hm⟩ := H
    refine ⟨m, hm _ ⟨Iq_of I2 (by rw [pt_ne (by decide), pt_ne (by decide), pt_ne (by decide)]) (by rw [pt_ne (by decide), pt_ne (by decide), pt_ne (by decide)]) (by rw [pt_ne (by decide), pt_ne (by decide), pt_ne (by decide)]) (by rw [pt_ne (by decide), pt_ne (by decide), pt_ne (by decide)]) (by rw [pt_ne (by decide), pt_ne (by decide), pt_ne (by decide)]), ?_, ?_, ?_, ?_⟩⟩
    · simp [pt_r, I2.2.2.2.2.1]
    · simp [pt_r, I2.2.2.2.2.1, I2.2.2.2.2.2]
    · rw [pt_ne (by decide), pt_ne (by decide), pt_ne (by decide), pt_ne (by decide), pt_ne (by decide), pt_ne (by decide)]; exact c0
    · rw [pt_ne (by decide), pt_ne (by decide), pt_ne (by decide), pt_ne (by decide), pt_ne (by decide), pt_ne (by decide)]; exact c1
  · rw [if_neg h] at hk; exact hk _
