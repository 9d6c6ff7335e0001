/-! The class on a fresh object: small floors. -/
def zl (w : Nat) : Nat → Int64
  | 0 => 0
  | i + 1 => zl w i ||| jlshl 1 (nI i * nI w)
def rmv (w h : Nat) (j : Nat) : Int64 := match j with
  | 0 => jlshl 1 (nI w) - 1
  | 1 => jlshl (zl w h) (nI w - 1)
  | 2 => jlshl (jlshl 1 (nI w) - 1) (nI w * nI h - nI w)
  | _ => zl w h
theorem x_clearWE {a : Nat} {F : Nat → Nat → Int32} {L : Nat → Nat → Int64} {r : Nat → Nat → Nat} {K : cS → Prop} (hk : ∀ L', (∀ p, p ≠ a + 1 → L' p = L p) → (∀ j, j < 4 → L' (a + 1) j = L (a + 3) j) → K (F, L', r)) : wpX1_clearWalls a F L r K := by
  unfold wpX1_clearWalls wpX1_clearWalls_b0
  refine lpi (w := fun n M x => wpX1_clearWalls_b2 a n F M r x K) (fun i M => (∀ p, p ≠ a + 1 → M p = L p) ∧ ∀ j, j < i → M (a + 1) j = L (a + 3) j) 4 ⟨fun _ _ => rfl, fun _ h => absurd h (by omega)⟩ (fun n M hM => ?_) (fun n i M hi hM ih => ?_)
  · unfold wpX1_clearWalls_b2 wpX1_clearWalls_b2_body
    exact ⟨fun _ => hk _ hM.1 hM.2, fun hc => absurd (Int32.le_refl _) hc⟩
  · unfold wpX1_clearWalls_b2 wpX1_clearWalls_b2_body
    refine ⟨fun hc => absurd hc (nI_ge hi (by decide)), fun _ => ⟨vin (by omega) (by decide), vin (by omega) (by decide), ?_⟩⟩
    rw [nI_1]
    refine ih _ ⟨fun p hp => by rw [ptL_ne hp]; exact hM.1 p hp, fun j hj => ?_⟩
    rw [ptL_r, if_pos rfl, ix_nI (by omega)]
    by_cases e : j = i
    · rw [if_pos e, e, hM.1 _ (by omega)]
    · rw [if_neg e]; exact hM.2 j (by omega)
theorem x_layE {a : Nat} {F : Nat → Nat → Int32} {L : Nat → Nat → Int64} {r : Nat → Nat → Nat} {w h : Nat} {K : cS → Prop} (hj : h ≤ 6) (hk : ∀ F' L', (∀ p, p ≠ a → p ≠ a + 2 → F' p = F p) → F' a 0 = nI w → F' a 1 = nI h → F' a 2 = nI w * nI h → F' a 3 = nI w * nI h - 1 → (∀ p, p ≠ a + 1 → p ≠ a + 3 → L' p = L p) → (∀ j, j < 4 → L' (a + 1) j = rmv w h j) → (∀ j, j < 4 → L' (a + 3) j = rmv w h j) → K (F', L', r)) : wpX1_lay a F L r (nI w) (nI h) K := by
  unfold wpX1_lay wpX1_lay_b0
  generalize hG : (pt (pt (pt (pt F a 0 (nI w)) a 1 (nI h)) a 2 (nI w * nI h)) a 3 (((pt (pt (pt F a 0 (nI w)) a 1 (nI h)) a 2 (nI w * nI h)) a 2) - (1))) = G
  have g0 : G a 0 = nI w := by rw [← hG]; simp [pt_r]
  have g1 : G a 1 = nI h := by rw [← hG]; simp [pt_r]
  have g2 : G a 2 = nI w * nI h := by rw [← hG]; simp [pt_r]
  have g3 : G a 3 = nI w * nI h - 1 := by rw [← hG]; simp [pt_r]
  have gp : ∀ p, p ≠ a → G p = F p := fun p hp => by rw [← hG, pt_ne hp, pt_ne hp, pt_ne hp, pt_ne hp]
  refine lpz (w := fun n v x5 => wpX1_lay_b32 a n G L r (nI w) (nI h) v x5 K) (zl w) h rfl (fun n => ?_) (fun n i hi ih => ?_)
  · unfold wpX1_lay_b32 wpX1_lay_b32_body
    refine ⟨fun _ => ⟨vin (n := 0) (by decide) (by decide), vin (n := 1) (by decide) (by decide), vin (n := 0) (by decide) (by decide), vin (n := 2) (by decide) (by decide), vin (n := 3) (by decide) (by decide), vin (n := 0) (by decide) (by decide), vin (n := 1) (by decide) (by decide), vin (n := 2) (by decide) (by decide), vin (n := 3) (by decide) (by decide), x_clearWE (fun L' h1 h2 => ?_)⟩, fun hc => absurd (Int32.le_refl _) hc⟩
    have q : ∀ j, j < 4 → (ptL (ptL (ptL (ptL L (a + 3) (ix (0)) ((jlshl (1 : Int64) (nI w)) - (1 : Int64))) (a + 3) (ix (1)) (jlshl (zl w h) ((nI w) - (1)))) (a + 3) (ix (2)) (jlshl ((ptL (ptL L (a + 3) (ix (0)) ((jlshl (1 : Int64) (nI w)) - (1 : Int64))) (a + 3) (ix (1)) (jlshl (zl w h) ((nI w) - (1)))) (a + 3) (ix (0))) ((G a 2) - (nI w)))) (a + 3) (ix (3)) (zl w h)) (a + 3) j = rmv w h j := by
      rw [g2, show ix (0 : Int32) = 0 from rfl, show ix (1 : Int32) = 1 from rfl, show ix (2 : Int32) = 2 from rfl, show ix (3 : Int32) = 3 from rfl]
      intro j hj
      match j, hj with
      | 0, _ => simp [ptL_r, rmv]
      | 1, _ => simp [ptL_r, rmv]
      | 2, _ => simp [ptL_r, rmv]
      | 3, _ => simp [ptL_r, rmv]
    refine hk _ _ (fun p a1 a2 => ?_) ?_ ?_ ?_ ?_ (fun p a1 a2 => ?_) (fun j hj => (h2 j hj).trans (q j hj)) (fun j hj => ?_)
    · simp only [pt_ne a2]; exact gp p a1
    · simp [pt_r, g0]
    · simp [pt_r, g1]
    · simp [pt_r, g2]
    · simp [pt_r, g3]
    · refine (h1 p a1).trans ?_
      rw [ptL_ne a2, ptL_ne a2, ptL_ne a2, ptL_ne a2]
    · show L' (a + 3) j = _
      rw [h1 (a + 3) (by omega)]
      exact q j hj
  · unfold wpX1_lay_b32 wpX1_lay_b32_body
    refine ⟨fun hc => absurd hc (nI_ge hi (by omega)), fun _ => ?_⟩
    rw [nI_1]
    exact ih
def sprG (w : Int32) (W : Nat → Int64) (x1 : Int64) : Int64 := (((x1 ||| (jlushr (x1 &&& ((W 0) ^^^ (-1 : Int64))) w)) ||| (jlshl (x1 &&& ((W 1) ^^^ (-1 : Int64))) (1))) ||| (jlshl (x1 &&& ((W 2) ^^^ (-1 : Int64))) w)) ||| (jlushr (x1 &&& ((W 3) ^^^ (-1 : Int64))) (1))
theorem x_spreadG {a : Nat} {F : Nat → Nat → Int32} {L : Nat → Nat → Int64} {r : Nat → Nat → Nat} {K : Int64 → cS → Prop} {v : Int64} (hk : K (sprG (F a 0) (L (a + 1)) v) (F, L, r)) : wpX1_spread a F L r v K := by
  unfold wpX1_spread wpX1_spread_b0
  exact ⟨vin (n := 0) (by decide) (by decide), vin (n := 1) (by decide) (by decide), vin (n := 2) (by decide) (by decide), vin (n := 3) (by decide) (by decide), hk⟩
def zrG (w h n : Nat) : Nat → Int64
  | 0 => jlshl 1 (nI (n - 1))
  | i + 1 => sprG (nI w) (rmv w h) (zrG w h n i)
def Sk (w h n M k : Nat) : Prop := (((2 ≤ nI w ∧ nI w ≤ 3) ∧ 2 ≤ nI h ∧ nI h ≤ 3) ∧ nI w * nI h = nI n ∧ 4 ≤ n ∧ n ≤ 9 ∧ nI h * (nI w - 1) + (nI h - 1) * nI w = nI M ∧ M ≤ 12 ∧ h ≤ 6 ∧ nI n - 1 = nI (n - 1) ∧ 0 < jshl 1 (nI M)) ∧ ((nI w - 2) * 2 + nI h - 2 = nI k ∧ k < 4) ∧ ∀ s, s < n → ¬ lg_cmp ((jlushr (zrG w h n (n - 1)) (nI s)) &&& (1 : Int64)) 0 = 0
theorem Sk22 : Sk 2 2 4 4 0 := ⟨by decide, by decide, by decide +kernel⟩
theorem Sk23 : Sk 2 3 6 7 1 := ⟨by decide, by decide, by decide +kernel⟩
theorem Sk32 : Sk 3 2 6 7 2 := ⟨by decide, by decide, by decide +kernel⟩
theorem Sk33 : Sk 3 3 9 12 3 := ⟨by decide, by decide, by decide +kernel⟩
theorem Sk_of {x y : Int32} (h : (2 ≤ x ∧ x ≤ 3) ∧ 2 ≤ y ∧ y ≤ 3) : ∃ w h n M k : Nat, x = nI w ∧ y = nI h ∧ Sk w h n M k := by
  obtain ⟨a, ha, rfl⟩ := i_mid (n := 3) rfl (Int32.le_trans (by decide) h.1.1) h.1.2
  obtain ⟨b, hb, rfl⟩ := i_mid (n := 3) rfl (Int32.le_trans (by decide) h.2.1) h.2.2
  have a2 : a = 2 ∨ a = 3 := by
    match a, ha, h.1.1 with
    | 0, _, h => exact absurd h (by decide)
    | 1, _, h => exact absurd h (by decide)
    | 2, _, _ => exact Or.inl rfl
    | 3, _, _ => exact Or.inr rfl
  have b2 : b = 2 ∨ b = 3 := by
    match b, hb, h.2.1 with
    | 0, _, h => exact absurd h (by decide)
    | 1, _, h => exact absurd h (by decide)
    | 2, _, _ => exact Or.inl rfl
    | 3, _, _ => exact Or.inr rfl
  rcases a2 with rfl | rfl <;> rcases b2 with rfl | rfl
  · exact ⟨2, 2, 4, 4, 0, rfl, rfl, Sk22⟩
  · exact ⟨2, 3, 6, 7, 1, rfl, rfl, Sk23⟩
  · exact ⟨3, 2, 6, 7, 2, rfl, rfl, Sk32⟩
  · exact ⟨3, 3, 9, 12, 3, rfl, rfl, Sk33⟩
theorem x_small {x y : Int32} {K : Int32 → Unit → Prop} (h1 : (2 ≤ x ∧ x ≤ 3) ∧ 2 ≤ y ∧ y ≤ 3 → K 1 ()) (h0 : ¬ ((2 ≤ x ∧ x ≤ 3) ∧ 2 ≤ y ∧ y ≤ 3) → K 0 ()) : wpX8_isSmall x y K := by
  unfold wpX8_isSmall wpX8_isSmall_b0 wpX8_isSmall_b24 wpX8_isSmall_b25
  refine ⟨fun a => ⟨Or.inl rfl, h0 (fun hc => absurd hc.1.1 (Int32.not_le.mpr a))⟩, fun a => ⟨fun b => ⟨Or.inl rfl, h0 (fun hc => absurd hc.1.2 (Int32.not_le.mpr b))⟩, fun b => ⟨fun c => ⟨Or.inl rfl, h0 (fun hc => absurd hc.2.1 (Int32.not_le.mpr c))⟩, fun c => ⟨fun d => ⟨Or.inl rfl, h0 (fun hc => absurd hc.2.2 (Int32.not_le.mpr d))⟩, fun d => ⟨Or.inr rfl, h1 ⟨⟨i_nlt a, i_nlt b⟩, i_nlt c, i_nlt d⟩⟩⟩⟩⟩⟩
/-- the small floor, as laid -/
def Gs (w h n : Nat) (F : Nat → Nat → Int32) : Prop := F 66 0 = nI w ∧ F 66 1 = nI h ∧ F 66 2 = nI n ∧ F 66 3 = nI (n - 1) ∧ F 17 0 = 0
theorem x_layFirst {F : Nat → Nat → Int32} {L : Nat → Nat → Int64} {r : Nat → Nat → Nat} {w h n M k : Nat} {K : cS → Prop} (S : Sk w h n M k) (h17 : F 17 0 = 0) (hk : ∀ F' L', Gs w h n F' → F' 96 3 = 0 → F' 96 4 = -1 → (∀ s, s < n → ¬ lg_cmp ((jlushr (L' 96 5) (nI s)) &&& (1 : Int64)) 0 = 0) → K (F', L', r)) : wpX8_layFirst F L r (nI w) (nI h) K := by
  obtain ⟨⟨hs, s1, s2, s3, s4, s5, s6, s7, s8⟩, ⟨s9, s10⟩, s11⟩ := S
  unfold wpX8_layFirst wpX8_layFirst_b0
  refine x_layE s6 (fun F1 L1 p1 e0 e1 e2 e3 q1 q2 _ => ?_)
  rw [s1] at e2 e3
  rw [s7] at e3
  dsimp only
  generalize hG : pt (pt F1 96 3 0) 96 4 (-1) = G
  have gp : ∀ p, p ≠ 96 → G p = F1 p := fun p hp => by rw [← hG, pt_ne hp, pt_ne hp]
  have g66 : G 66 = F1 66 := gp 66 (by decide)
  have e0 : G 66 0 = nI w := by rw [g66]; exact e0
  have e1 : G 66 1 = nI h := by rw [g66]; exact e1
  have e2 : G 66 2 = nI n := by rw [g66]; exact e2
  have e3 : G 66 3 = nI (n - 1) := by rw [g66]; exact e3
  have e17 : G 17 0 = 0 := by rw [gp 17 (by decide), p1 17 (by decide) (by decide)]; exact h17
  have hsp : ∀ v, sprG (G 66 0) (L1 (66 + 1)) v = sprG (nI w) (rmv w h) v := fun v => by
    unfold sprG
    rw [e0, q2 0 (by decide), q2 1 (by decide), q2 2 (by decide), q2 3 (by decide)]
  unfold wpX1_reach wpX1_reach_b0
  rw [e3]
  refine lp (w := fun m i => wpX1_reach_b9 66 m G L1 r (zrG w h n i) (nI (i + 1)) _) (n - 1) (fun m => ?_) (fun m i hi ih => ?_)
  · unfold wpX1_reach_b9 wpX1_reach_b9_body
    rw [e2, show n - 1 + 1 = n by omega]
    refine ⟨fun _ => hk _ _ ⟨e0, e1, e2, e3, e17⟩ ?_ ?_ (fun s hs => ?_), fun hc => absurd (Int32.le_refl _) hc⟩
    · show G 96 3 = 0
      rw [← hG]; simp [pt_r]
    · show G 96 4 = -1
      rw [← hG]; simp [pt_r]
    · have : (ptL L1 96 5 (zrG w h n (n - 1))) 96 5 = zrG w h n (n - 1) := by simp [ptL_r]
      rw [show _ = _ from this]
      exact s11 s hs
  · unfold wpX1_reach_b9 wpX1_reach_b9_body
    rw [e2]
    refine ⟨fun hc => absurd hc (nI_ge (by omega) (by omega)), fun _ => x_spreadG ?_⟩
    dsimp only
    rw [nI_1, hsp]
    exact ih
theorem x_next1 {F : Nat → Nat → Int32} {L : Nat → Nat → Int64} {r : Nat → Nat → Nat} {w h n M k s : Nat} {K : Int32 → cS → Prop} (S : Sk w h n M k) (G : Gs w h n F) (h4 : F 96 4 + 1 = nI s) (hs : s < n) (h3 : F 96 3 = 0) (hL : ¬ lg_cmp ((jlushr (L 96 5) (nI s)) &&& (1 : Int64)) 0 = 0) (hk : K 1 (pt F 96 4 (nI s), L, r)) : wpX8_nextStart F L r K := by
  obtain ⟨⟨hs', s1, s2, s3, s4, s5, s6, s7, s8⟩, _, s11⟩ := S
  obtain ⟨g0, g1, g2, g3, _⟩ := G
  unfold wpX8_nextStart wpX8_nextStart_b0 wpX1_wallNumbers wpX1_wallNumbers_b0
  rw [g0, g1, s4]
  refine ⟨1, ?_⟩
  unfold wpX8_nextStart_b12 wpX8_nextStart_b12_body wpX8_nextStart_b79
  dsimp only
  rw [h4]
  have e1 : pt F 96 4 (nI s) 96 4 = nI s := by simp [pt_r]
  have e2 : pt F 96 4 (nI s) 66 2 = nI n := by rw [pt_ne (by decide)]; exact g2
  have e3 : pt F 96 4 (nI s) 96 3 = 0 := by simp [pt_r, h3]
  rw [e1, e2, e3]
  exact ⟨fun hc => absurd hc (by decide), fun _ => ⟨fun _ => ⟨fun _ => ⟨fun hc => absurd hc hL, fun _ => hk⟩, fun hc => absurd s8 hc⟩, fun hc => absurd (Int32.not_le.mp (nI_ge hs (by omega))) hc⟩⟩
theorem x_reachT {a : Nat} {F : Nat → Nat → Int32} {L : Nat → Nat → Int64} {r : Nat → Nat → Nat} {n : Nat} {K : Int64 → cS → Prop} (h2 : F a 2 = nI n) (hn : 1 ≤ n) (hn' : n ≤ 36) (hk : ∀ v, K v (F, L, r)) : wpX1_reach a F L r K := by
  unfold wpX1_reach wpX1_reach_b0
  have H : ∃ m, ∀ v, wpX1_reach_b9 a m F L r v (nI (0 + 1)) K := by
    refine lp (w := fun m i => ∀ v, wpX1_reach_b9 a m F L r v (nI (i + 1)) K) (n - 1) (fun m v => ?_) (fun m i hi ih v => ?_)
    · unfold wpX1_reach_b9 wpX1_reach_b9_body
      rw [h2, show n - 1 + 1 = n by omega]
      exact ⟨fun _ => hk _, fun hc => absurd (Int32.le_refl _) hc⟩
    · unfold wpX1_reach_b9 wpX1_reach_b9_body
      rw [h2]
      refine ⟨fun hc => absurd hc (nI_ge (by omega) (by omega)), fun _ => x_spreadG ?_⟩
      dsimp only
      rw [nI_1]
      exact ih _
  obtain ⟨m, hm⟩ := H
  exact ⟨m, hm _⟩
theorem x_raiseT {a : Nat} {F : Nat → Nat → Int32} {L : Nat → Nat → Int64} {r : Nat → Nat → Nat} {M : Nat} {x : Int32} {K : cS → Prop} (hM : F a 1 * (F a 0 - 1) + (F a 1 - 1) * F a 0 = nI M) (hM' : M < 2 ^ 31) (hk : ∀ L', (∀ p, p ≠ a + 1 → L' p = L p) → K (F, L', r)) : wpX1_raiseWalls a F L r x K := by
  unfold wpX1_raiseWalls wpX1_raiseWalls_b0
  refine x_clearW (fun L1 h1 => ?_)
  refine lpi (w := fun n M x2 => wpX1_raiseWalls_b6 a n F M r x x2 K) (fun _ N => ∀ p, p ≠ a + 1 → N p = L p) M h1 (fun n N hN => ?_) (fun n i N hi hN ih => ?_)
  · unfold wpX1_raiseWalls_b6 wpX1_raiseWalls_b6_body wpX1_wallNumbers wpX1_wallNumbers_b0
    rw [hM]
    exact ⟨fun _ => hk _ hN, fun hc => absurd (Int32.le_refl _) hc⟩
  · unfold wpX1_raiseWalls_b6 wpX1_raiseWalls_b6_body wpX1_wallNumbers wpX1_wallNumbers_b0 wpX1_raiseWalls_b37
    rw [hM, nI_1]
    refine ⟨fun hc => absurd hc (nI_ge hi hM'), fun _ => ⟨fun _ => ih _ hN, fun _ => ?_⟩⟩
    have hp : ∀ q d, wpX1_putWall a F N r q d 1 (fun u34 => wpX1_raiseWalls_b6 a n u34.1 u34.2.1 u34.2.2 x (nI (i + 1)) K) := fun q d => x_putWall (fun L' hL' => ih _ (fun p hp => (hL' p hp).trans (hN p hp)))
    unfold wpX1_squareOfWall wpX1_squareOfWall_b0 wpX1_squareOfWall_b24 wpX1_sideOfWall wpX1_sideOfWall_b0 wpX1_sideOfWall_b20
    refine ⟨fun _ => ⟨fun _ => hp _ _, fun _ => hp _ _⟩, fun _ => ⟨fun h => ?_, fun _ => ⟨fun _ => hp _ _, fun _ => hp _ _⟩⟩⟩
    have h0 : ¬ F a 0 - 1 = 0 := fun e => by rw [e] at h; exact absurd h (by decide)
    exact ⟨h0, h0, ⟨fun _ => hp _ _, fun _ => hp _ _⟩⟩
theorem x_nextT {F : Nat → Nat → Int32} {L : Nat → Nat → Int64} {r : Nat → Nat → Nat} {w h n M k : Nat} {K : Int32 → cS → Prop} (S : Sk w h n M k) (G : Gs w h n F) (hk : ∀ v F' L', (∀ p, p ≠ 96 → F' p = F p) → K v (F', L', r)) : wpX8_nextStart F L r K := by
  obtain ⟨⟨hs', s1, s2, s3, s4, s5, s6, s7, s8⟩, _, s11⟩ := S
  obtain ⟨g0, g1, g2, g3, _⟩ := G
  unfold wpX8_nextStart wpX8_nextStart_b0 wpX1_wallNumbers wpX1_wallNumbers_b0
  rw [g0, g1, s4]
  refine lpi (w := fun m (u : (Nat → Nat → Int32) × (Nat → Nat → Int64)) x => wpX8_nextStart_b12 m u.1 u.2 r (jshl 1 (nI M)) x K) (a0 := (F, L)) (fun _ u => ∀ p, p ≠ 96 → u.1 p = F p) 36864 (fun _ _ => rfl) (fun m u hu => ?_) (fun m i u hi hu ih => ?_)
  · unfold wpX8_nextStart_b12 wpX8_nextStart_b12_body
    exact ⟨fun _ => hk _ _ _ hu, fun hc => absurd (by decide) hc⟩
  · unfold wpX8_nextStart_b12 wpX8_nextStart_b12_body wpX8_nextStart_b79
    have h79 : ∀ F1 L1, (∀ p, p ≠ 96 → F1 p = F p) → (((F1 96 3) < jshl 1 (nI M)) →
    (((lg_cmp ((jlushr (L1 96 5) (F1 96 4)) &&& (1 : Int64)) (0 : Int64)) = 0) →
      wpX8_nextStart_b12 m F1 L1 r (jshl 1 (nI M)) (nI i + (1)) K) ∧
    (¬ ((lg_cmp ((jlushr (L1 96 5) (F1 96 4)) &&& (1 : Int64)) (0 : Int64)) = 0) →
      K (1) (F1, L1, r))) ∧
  (¬ ((F1 96 3) < jshl 1 (nI M)) →
    K (0) (F1, L1, r)) := fun F1 L1 h1 => by
      rw [nI_1]
      exact ⟨fun _ => ⟨fun _ => ih (F1, L1) h1, fun _ => hk _ _ _ h1⟩, fun _ => hk _ _ _ h1⟩
    refine ⟨fun hc => absurd hc (nI_ge hi (by decide)), fun _ => ⟨fun _ => h79 _ _ (fun p hp => (pt_ne hp).trans (hu p hp)), fun _ => ?_⟩⟩
    generalize hH : (pt (pt (pt u.1 96 4 (u.1 96 4 + 1)) 96 4 0) 96 3 (pt (pt u.1 96 4 (u.1 96 4 + 1)) 96 4 0 96 3 + 1)) = H
    have hp : ∀ p, p ≠ 96 → H p = F p := fun p hp => by rw [← hH, pt_ne hp, pt_ne hp, pt_ne hp, hu p hp]
    have h66 : H 66 = F 66 := hp 66 (by decide)
    refine x_raiseT (M := M) (by rw [h66, g0, g1, s4]) (by omega) (fun L1 _ => ?_)
    refine x_reachT (n := n) (by show H 66 2 = _; rw [h66, g2]) (by omega) (by omega) (fun v => ?_)
    exact h79 _ _ hp
theorem x_sizeOf {w h n M k : Nat} {K : Int32 → Unit → Prop} (S : Sk w h n M k) (hk : K (nI k) ()) : wpX8_sizeOf (nI w) (nI h) K := by
  unfold wpX8_sizeOf wpX8_sizeOf_b0 wpX8_sizeOf_b21
  refine x_small (fun _ => ⟨fun hc => absurd hc (by decide), fun _ => ?_⟩) (fun hc => absurd S.1.1 hc)
  rw [S.2.1.1]
  exact hk
theorem x_held {K : Int32 → cS → Prop} {x y z : Int32} (hk : ∀ u, K (if ((2 ≤ x ∧ x ≤ 3) ∧ 2 ≤ y ∧ y ≤ 3) ∧ 0 ≤ z ∧ z ≤ 1 then 0 else -1) u) : wpX10_held cF0 cL0 cr0 x y z K := by
  unfold wpX10_held wpX10_held_b0 wpX10_held_b17
  refine x_small (fun h => ⟨fun hc => absurd hc (by decide), fun _ => ⟨fun h1 => ?_, fun h1 => ⟨fun h2 => ⟨by decide, ?_⟩, fun h2 => ?_⟩⟩⟩) (fun h => ⟨fun _ => ?_, fun hc => absurd rfl hc⟩)
  · rw [if_neg (fun hc => absurd hc.2.1 (Int32.not_le.mpr h1))] at hk; exact hk _
  · rw [if_pos ⟨h, i_nlt h1, h2⟩] at hk
    obtain ⟨w, hh, n, M, k, rfl, rfl, S⟩ := Sk_of h
    unfold wpX8_heldBy wpX8_heldBy_b0
    have k4 : k < 4 := S.2.1.2
    have vk : vp_in (nI k) 4 := vin k4 (by decide)
    have hb : ∀ j, j < 4 → jshr (cF0 96 6) (nI j) &&& 1 = 0 := by decide
    refine x_sizeOf S ⟨fun hc => absurd (hb k k4) hc, fun _ => x_layFirst S rfl (fun F1 L1 G1 e3 e4 hL => ?_)⟩
    unfold wpX8_findHeld wpX8_findHeld_b0
    refine ⟨vk, vk, 1, ?_⟩
    unfold wpX8_findHeld_b18 wpX8_findHeld_b18_body
    refine ⟨fun hc => absurd hc (by decide), fun _ => ?_⟩
    have n4 : 4 ≤ n := S.1.2.2.1
    have n9 : n ≤ 9 := S.1.2.2.2.1
    generalize hH : pt (pt F1 97 (ix (nI k)) (-2)) 98 (ix (nI k)) (-2) = H
    have hp : ∀ p, p ≠ 97 → p ≠ 98 → H p = F1 p := fun p a b => by rw [← hH, pt_ne b, pt_ne a]
    have h96 : H 96 = F1 96 := hp 96 (by decide) (by decide)
    have h66 : H 66 = F1 66 := hp 66 (by decide) (by decide)
    have h17 : H 17 = F1 17 := hp 17 (by decide) (by decide)
    have GH : Gs w hh n H := by
      unfold Gs
      rw [h66, h17]
      exact G1
    refine x_next1 (s := 0) S GH (by rw [h96, e4]; decide) (by omega) (by rw [h96, e3]) (hL 0 (by omega)) ⟨fun hc => absurd hc (by decide), fun _ => ?_⟩
    unfold wpX3_setDownWiped wpX3_setDownWiped_b0 wpX3_setDown wpX3_setDown_b0
    refine x_clearS (fun L2 _ _ _ => ?_)
    dsimp only
    generalize hJ : pt (pt (pt (pt (pt H 96 4 (nI 0)) 86 0 (pt H 96 4 (nI 0) 96 4)) 86 1 0) 86 2 0) 86 3 0 = J
    have jp : ∀ p, p ≠ 86 → p ≠ 96 → J p = H p := fun p a b => by rw [← hJ, pt_ne a, pt_ne a, pt_ne a, pt_ne a, pt_ne b]
    have j0 : J 86 0 = 0 := by rw [← hJ]; simp [pt_r]; rfl
    have j3 : J 96 3 = 0 := by rw [← hJ]; simp [pt_r, h96, e3]
    have j4 : J 96 4 = 0 := by rw [← hJ]; simp [pt_r]; rfl
    have jb : J 66 3 = nI (n - 1) := by rw [jp 66 (by decide) (by decide)]; exact GH.2.2.2.1
    have jl : J 17 0 = 0 := by rw [jp 17 (by decide) (by decide)]; exact GH.2.2.2.2
    have nz : ¬ (0 : Int32) = nI (n - 1) := fun e => by
      have := (nI_eq (by omega) (by omega)).mp (show nI 0 = nI (n - 1) from e)
      omega
    have fin : ∀ F2, F2 96 3 = 0 → F2 96 4 = 0 → vp_in (nI k) 4 ∧ vp_in (nI k) 4 ∧ wpX8_heldBy_b45 (cr0 0 3) (pt (pt (pt F2 97 (ix (nI k)) (F2 96 3)) 98 (ix (nI k)) ((pt F2 97 (ix (nI k)) (F2 96 3)) 96 4)) 96 6 ((pt (pt F2 97 (ix (nI k)) (F2 96 3)) 98 (ix (nI k)) ((pt F2 97 (ix (nI k)) (F2 96 3)) 96 4)) 96 6 ||| jshl 1 (nI k))) L2 cr0 z (nI k) (fun r30 u30 => K r30 (u30.1, u30.2.1, u30.2.2)) := fun F2 f3 f4 => by
      refine ⟨vk, vk, ?_⟩
      unfold wpX8_heldBy_b45 wpX8_heldBy_b67
      have a1 : ∀ v, (pt (pt (pt F2 97 (ix (nI k)) (F2 96 3)) 98 (ix (nI k)) ((pt F2 97 (ix (nI k)) (F2 96 3)) 96 4)) 96 6 v) 98 (ix (nI k)) = 0 := fun v => by simp [pt_r, f4]
      have a2 : ∀ v, (pt (pt (pt F2 97 (ix (nI k)) (F2 96 3)) 98 (ix (nI k)) ((pt F2 97 (ix (nI k)) (F2 96 3)) 96 4)) 96 6 v) 97 (ix (nI k)) = 0 := fun v => by simp [pt_r, f3]
      rw [a1, a2]
      exact ⟨fun _ => ⟨vk, hk _⟩, fun _ => ⟨vk, hk _⟩⟩
    refine x_arrN (show J 17 0 = 0 from jl) (by rw [j0, jb]; exact nz) (fun v => ⟨⟨fun hc => absurd rfl hc, fun _ => fin _ j3 j4⟩, ⟨fun hc => absurd rfl hc, fun _ => fin _ ?_ ?_⟩⟩)
    · show pt J 86 6 v 96 3 = 0
      rw [pt_ne (by decide)]; exact j3
    · show pt J 86 6 v 96 4 = 0
      rw [pt_ne (by decide)]; exact j4
  · rw [if_neg (fun hc => absurd hc.2.2 h2)] at hk; exact hk _
  · rw [if_neg (fun hc => h hc.1)] at hk; exact hk _
