theorem W5_16 : W16 W5 := by unfold W16; decide
theorem le_m2 {x : Int32} (h : x = -1 ∨ x = 0) : (-2 : Int32) ≤ x := by rcases h with h | h <;> rw [h] <;> decide
theorem m_laySmall {K : mS → Prop} {f : Nat → Int32} {w h n M k : Nat} (S : Sm w h n M) (hk16 : k < 16) (ek : ((4 : Int32) * (nI w - 2) + nI h) - 2 = nI k) (h12 : f 12 = 0) (h38 : nI w * nI h - 1 = nI (n - 1)) (hk : ∀ f' g', g' 59 k = 0 → g' 60 k = 0 → g' 61 k = 0 → g' 62 k = 0 → g' 63 k = nI (n - 1) → K (f', g')) : wpX11_laySmall f mg1 (nI w) (nI h) K := by
  have S0 := S
  obtain ⟨⟨s1, s2, s3, s4, s5, s6, s7, s8⟩, -⟩ := S0
  unfold wpX11_laySmall wpX11_laySmall_b0
  rw [ek]
  rintro y9 rfl
  have hin : vp_in (nI k) 16 := vin hk16 (by decide)
  have ik : ix (nI k) = k := ix_nI (by omega)
  refine ⟨hin, fun _ => ⟨hin, ?_⟩, fun hc => absurd rfl hc⟩
  rw [ik]
  refine m_putsA 4 480 rfl (by decide) ?_
  unfold wpX11_small wpX11_small_b0
  dsimp only
  refine ⟨hin, hin, hin, ?_⟩
  rw [h38]
  have Sf0 : Sf (upd (upd (upd f 38 (nI w)) 39 (nI h)) 40 (nI (n - 1))) w h n := ⟨by simp [upd_r, h12], by simp [upd_r], by simp [upd_r], by simp [upd_r]⟩
  generalize upd (upd (upd f 38 (nI w)) 39 (nI h)) 40 (nI (n - 1)) = f0 at Sf0 ⊢
  have g46 : ∀ q, q ≠ 57 → q ≠ 58 → q ≠ 59 → q ≠ 60 → q ≠ 61 → pt (pt (pt (ps f (pt mg1 58 k (vp_nar .boolean 1)) 480 36) 59 k (-2)) 60 k (-2)) 61 k (-1) q = mg1 q := fun q a1 a2 a3 a4 a5 => by
    rw [pt_ne a5, pt_ne a4, pt_ne a3, ps_k a1, pt_ne a2]
  have l0 : Lg (pt (pt (pt (ps f (pt mg1 58 k (vp_nar .boolean 1)) 480 36) 59 k (-2)) 60 k (-2)) 61 k (-1)) k n 0 := by
    unfold Lg
    rw [if_pos rfl]
    refine ⟨?_, ?_, ?_⟩
    · rw [pt_ne (by decide), pt_ne (by decide), pt_at, upd_r, if_pos rfl]
    · rw [pt_ne (by decide), pt_at, upd_r, if_pos rfl]
    · rw [pt_at, upd_r, if_pos rfl]
  generalize pt (pt (pt (ps f (pt mg1 58 k (vp_nar .boolean 1)) 480 36) 59 k (-2)) 60 k (-2)) 61 k (-1) = g0 at g46 l0 ⊢
  refine lpi (w := fun m (a : mS) x => wpX11_laySmall_b64 m a.1 a.2 (nI k) x K) (a0 := (f0, g0)) (fun i a => Sf a.1 w h n ∧ W16 (a.2 46) ∧ Lg a.2 k n i ∧ (i = 0 → a.2 46 = W5 ∧ a.2 54 = (fun _ => 0) ∧ a.2 55 = (fun _ => 0))) (2 ^ M) ⟨Sf0, by show W16 (g0 46); rw [g46 46 (by decide) (by decide) (by decide) (by decide) (by decide)]; exact W5_16, l0, fun _ => ⟨(g46 46 (by decide) (by decide) (by decide) (by decide) (by decide)).trans rfl, (g46 54 (by decide) (by decide) (by decide) (by decide) (by decide)).trans rfl, (g46 55 (by decide) (by decide) (by decide) (by decide) (by decide)).trans rfl⟩⟩ (fun m a ha => ?_) (fun m i a hi ha ih => ?_)
  · obtain ⟨⟨f1, g1⟩, hf, h16, hl, -⟩ := a, ha
    dsimp only at hf h16 hl ⊢
    unfold wpX11_laySmall_b64 wpX11_laySmall_b64_body wpX11_wallMany wpX11_wallMany_b0
    rw [hf.2.1, hf.2.2.1, s7]
    dsimp only
    rw [s8]
    refine ⟨fun _ => m_takesA 4 480 rfl (by decide) ?_, fun hc => absurd (Int32.le_refl _) hc⟩
    unfold Lg at hl
    rw [if_neg (by have := Nat.two_pow_pos M; omega)] at hl
    refine hk _ _ ?_ ?_ ?_ ?_ ?_ <;> dsimp only <;> rw [tg_57 (by decide)]
    · exact hl.1
    · exact hl.2.1
    · exact hl.2.2.1
    · exact hl.2.2.2.1
    · exact hl.2.2.2.2
  · obtain ⟨⟨f1, g1⟩, hf, h16, hl, h00⟩ := a, ha
    dsimp only at hf h16 hl h00 ⊢
    have hM : 2 ^ M ≤ 2 ^ 12 := Nat.pow_le_pow_right (by decide) s4
    unfold wpX11_laySmall_b64 wpX11_laySmall_b64_body wpX11_wallMany wpX11_wallMany_b0
    rw [hf.2.1, hf.2.2.1, s7]
    dsimp only
    rw [s8]
    refine ⟨fun hc => absurd hc (nI_ge hi (by omega)), fun _ => ?_⟩
    refine m_wallsBy S hf h16 (fun g2 q1 q2 q3 q4 => ?_)
    have e59 : ∀ q, 59 ≤ q → g2 q = g1 q := fun q hq => q1 q (by omega) (by omega) (by omega)
    refine lpi (w := fun m (a : mS) x => wpX11_laySmall_b84 _ m a.1 a.2 (nI k) (nI i) x K) (a0 := (f1, g2)) (fun s a => Sf a.1 w h n ∧ a.2 46 = g2 46 ∧ a.2 54 = g2 54 ∧ (if i = 0 then Lh a.2 k n s else Lg a.2 k n 1)) n ⟨hf, rfl, rfl, ?_⟩ (fun m2 a ha => ?_) (fun m2 s a hs ha ih2 => ?_)
    · dsimp only
      by_cases h0 : i = 0
      · rw [if_pos h0]
        subst h0
        unfold Lg at hl
        unfold Lh
        rw [if_pos rfl] at hl ⊢
        rw [e59 59 (by decide), e59 60 (by decide), e59 61 (by decide)]
        exact hl
      · rw [if_neg h0]
        unfold Lg at hl ⊢
        rw [if_neg h0] at hl
        rw [if_neg (by decide), e59 59 (by decide), e59 60 (by decide), e59 61 (by decide), e59 62 (by decide), e59 63 (by decide)]
        exact hl
    · obtain ⟨⟨f3, g3⟩, hf3, r46, r54, hh⟩ := a, ha
      dsimp only at hf3 r46 r54 hh ⊢
      unfold wpX11_laySmall_b84 wpX11_laySmall_b84_body wpX11_squares wpX11_squares_b0
      rw [hf3.2.1, hf3.2.2.1, s1]
      refine ⟨fun _ => ?_, fun hc => absurd (Int32.le_refl _) hc⟩
      rw [nI_1]
      refine ih (f3, g3) ⟨hf3, by show W16 (g3 46); rw [r46]; exact q2, ?_, fun hc => absurd hc (Nat.succ_ne_zero i)⟩
      unfold Lg
      rw [if_neg (Nat.succ_ne_zero i)]
      by_cases h0 : i = 0
      · rw [if_pos h0] at hh
        unfold Lh at hh
        rw [if_neg (by omega), if_neg (Nat.lt_irrefl n)] at hh
        exact hh
      · rw [if_neg h0] at hh
        unfold Lg at hh
        rw [if_neg (by decide)] at hh
        exact hh
    · obtain ⟨⟨f3, g3⟩, hf3, r46, r54, hh⟩ := a, ha
      dsimp only at hf3 r46 r54 hh ⊢
      unfold wpX11_laySmall_b84 wpX11_laySmall_b84_body wpX11_squares wpX11_squares_b0 wpX11_laySmall_b113
      rw [hf3.2.1, hf3.2.2.1, s1]
      refine ⟨fun hc => absurd hc (nI_ge hs (by omega)), fun _ => ⟨vin (by omega) (by decide), fun hfar => ?_, fun hfar => ?_⟩⟩
      · dsimp only at hfar
        rw [ix_nI (by omega), r54] at hfar
        rw [nI_1]
        refine ih2 (f3, g3) ⟨hf3, r46, r54, ?_⟩
        have sn : s ≠ n - 1 := fun e => q3 (by rw [← e]; exact hfar)
        by_cases h0 : i = 0
        · rw [if_pos h0] at hh ⊢
          have s0 : s ≠ 0 := fun e => by
            obtain ⟨z1, z2, z3⟩ := h00 h0
            refine q4 (by rw [h0]; rfl) z1 z2 z3 ?_
            rw [← e]; exact hfar
          unfold Lh at hh ⊢
          rw [if_neg s0, if_pos hs] at hh
          rw [if_neg (Nat.succ_ne_zero s), if_pos (by omega)]
          exact hh
        · rw [if_neg h0] at hh ⊢
          exact hh
      · refine m_smallRun S hf3 hk16 hs (fun f4 g4 b1 b2 b3 b4 => ?_)
        dsimp only at b2 b3 b4
        rw [nI_1]
        refine ih2 (f4, g4) ⟨b1, (b2 46 (by omega)).trans r46, (b2 54 (by omega)).trans r54, ?_⟩
        dsimp only
        by_cases h0 : i = 0
        · rw [if_pos h0] at hh ⊢
          subst h0
          unfold Lh at hh ⊢
          rw [if_neg (Nat.succ_ne_zero s)]
          by_cases sn : s < n - 1
          · rw [if_pos (by omega)]
            obtain ⟨c1, c2⟩ := b3 sn
            by_cases s0 : s = 0
            · rw [if_pos s0] at hh
              rw [if_pos hh.1] at c1
              rw [hh.2.2] at c2
              rcases c2 with c2 | c2
              · exact absurd (by decide) c2
              · refine ⟨c1.1, ?_, c2.1⟩
                rw [c1.2, s0]; rfl
            · rw [if_neg s0, if_pos hs] at hh
              rw [if_neg (by rw [hh.1]; decide)] at c1
              rw [hh.2.2] at c2
              rcases c2 with c2 | c2
              · exact absurd (by decide) c2
              · exact ⟨c1.1.trans hh.1, c1.2.trans hh.2.1, c2.1⟩
          · rw [if_neg (by omega)]
            have es : s = n - 1 := by omega
            rw [if_neg (by omega), if_pos hs] at hh
            obtain ⟨c1, c2, c3⟩ := b4 es
            rw [if_neg (show ¬ (0 : Int32) ≤ g3 61 k by rw [hh.2.2]; decide)] at c3
            refine ⟨c1.trans hh.1, c2.trans hh.2.1, c3.1, c3.2.1, ?_⟩
            rw [c3.2.2, es]
        · rw [if_neg h0] at hh ⊢
          unfold Lg at hh ⊢
          rw [if_neg (by decide)] at hh ⊢
          by_cases sn : s < n - 1
          · obtain ⟨c1, c2⟩ := b3 sn
            rw [if_neg (by rw [hh.1]; decide)] at c1
            rw [hh.2.2.1] at c2
            rcases c2 with c2 | c2
            · exact absurd (by decide) c2
            · exact ⟨c1.1.trans hh.1, c1.2.trans hh.2.1, c2.1, c2.2.1.trans hh.2.2.2.1, c2.2.2.trans hh.2.2.2.2⟩
          · obtain ⟨c1, c2, c3⟩ := b4 (by omega)
            rw [if_pos (show (0 : Int32) ≤ g3 61 k by rw [hh.2.2.1]; decide)] at c3
            exact ⟨c1.trans hh.1, c2.trans hh.2.1, c3.1.trans hh.2.2.1, c3.2.1.trans hh.2.2.2.1, c3.2.2.trans hh.2.2.2.2⟩
theorem m_small {x y : Int32} {K : Int32 → Unit → Prop} (h1 : (2 ≤ x ∧ x ≤ 3) ∧ 2 ≤ y ∧ y ≤ 3 → K 1 ()) (h0 : ¬ ((2 ≤ x ∧ x ≤ 3) ∧ 2 ≤ y ∧ y ≤ 3) → K 0 ()) : wpX11_isSmallFloor x y K := by
  unfold wpX11_isSmallFloor wpX11_isSmallFloor_b0 wpX11_isSmallFloor_b22 wpX11_isSmallFloor_b23
  refine m_isIn (fun a b => ⟨fun hc => absurd hc (by decide), fun _ => ?_⟩) (fun h => ⟨fun _ => ⟨Or.inl rfl, h0 (fun hc => h.elim (Int32.not_lt.mpr hc.1.1) (Int32.not_lt.mpr hc.1.2))⟩, fun hc => absurd rfl hc⟩)
  exact m_isIn (fun c d => ⟨fun hc => absurd hc (by decide), fun _ => ⟨Or.inr rfl, h1 ⟨⟨a, b⟩, c, d⟩⟩⟩) (fun h => ⟨fun _ => ⟨Or.inl rfl, h0 (fun hc => h.elim (Int32.not_lt.mpr hc.2.1) (Int32.not_lt.mpr hc.2.2))⟩, fun hc => absurd rfl hc⟩)
theorem sm_four {x y : Int32} (h : (2 ≤ x ∧ x ≤ 3) ∧ 2 ≤ y ∧ y ≤ 3) : ∃ w h' n M k : Nat, x = nI w ∧ y = nI h' ∧ Sm w h' n M ∧ k < 16 ∧ ((4 : Int32) * (nI w - 2) + nI h') - 2 = nI k ∧ nI w * nI h' - 1 = nI (n - 1) ∧ n = w * h' := by
  obtain ⟨⟨a, b⟩, c, d⟩ := h
  obtain ⟨i, hi, rfl⟩ := i_mid (n := 3) rfl (Int32.le_trans (by decide) a) b
  obtain ⟨j, hj, rfl⟩ := i_mid (n := 3) rfl (Int32.le_trans (by decide) c) d
  rcases (show i = 0 ∨ i = 1 ∨ i = 2 ∨ i = 3 by omega) with rfl | rfl | rfl | rfl
  · exact absurd a (by decide)
  · exact absurd a (by decide)
  · rcases (show j = 0 ∨ j = 1 ∨ j = 2 ∨ j = 3 by omega) with rfl | rfl | rfl | rfl
    · exact absurd c (by decide)
    · exact absurd c (by decide)
    · exact ⟨2, 2, 4, 4, 0, rfl, rfl, Sm22, by decide, rfl, rfl, rfl⟩
    · exact ⟨2, 3, 6, 7, 1, rfl, rfl, Sm23, by decide, rfl, rfl, rfl⟩
  · rcases (show j = 0 ∨ j = 1 ∨ j = 2 ∨ j = 3 by omega) with rfl | rfl | rfl | rfl
    · exact absurd c (by decide)
    · exact absurd c (by decide)
    · exact ⟨3, 2, 6, 7, 4, rfl, rfl, Sm32, by decide, rfl, rfl, rfl⟩
    · exact ⟨3, 3, 9, 12, 5, rfl, rfl, Sm33, by decide, rfl, rfl, rfl⟩
theorem m_held {K : Int32 → mS → Prop} {x y z : Int32} (hk : ∀ u, K (if ((2 ≤ x ∧ x ≤ 3) ∧ 2 ≤ y ∧ y ≤ 3) ∧ 0 ≤ z ∧ z ≤ 1 then 0 else -1) u) : wpX11_held mf1 mg1 x y z K := by
  unfold wpX11_held wpX11_held_b0 wpX11_held_b22 wpX11_held_b62
  refine m_small (fun hs => ⟨fun hc => absurd hc (by decide), fun _ => ?_⟩) (fun hs => ⟨fun _ => ?_, fun hc => absurd rfl hc⟩)
  · refine m_isIn (fun a b => ⟨fun _ => ?_, fun hc => absurd hc (by decide)⟩) (fun h => ⟨fun hc => absurd rfl hc, fun _ => ?_⟩)
    · rw [if_pos ⟨hs, a, b⟩] at hk
      obtain ⟨w, h, n, M, k, rfl, rfl, S, k16, ek, en, -⟩ := sm_four hs
      refine m_laySmall S k16 ek rfl en (fun f' g' e59 e60 _ _ _ => ?_)
      rw [ek]
      rintro y39 rfl
      rw [ix_nI (by omega)]
      dsimp only
      rw [e59, e60]
      exact ⟨fun _ => ⟨vin k16 (by decide), hk _⟩, fun _ => ⟨vin k16 (by decide), hk _⟩⟩
    · rw [if_neg (fun hc => h.elim (Int32.not_lt.mpr hc.2.1) (Int32.not_lt.mpr hc.2.2))] at hk; exact hk _
  · rw [if_neg (fun hc => hs hc.1)] at hk; exact hk _
theorem m_longest {K : Int32 → mS → Prop} {x y z : Int32} (hk : ∀ u, K (if ((2 ≤ x ∧ x ≤ 3) ∧ 2 ≤ y ∧ y ≤ 3) ∧ 0 ≤ z ∧ z ≤ 2 then (if z = 2 then x * y - 1 else 0) else -1) u) : wpX11_longest mf1 mg1 x y z K := by
  unfold wpX11_longest wpX11_longest_b0 wpX11_longest_b22 wpX11_longest_b77
  refine m_small (fun hs => ⟨fun hc => absurd hc (by decide), fun _ => ?_⟩) (fun hs => ⟨fun _ => ?_, fun hc => absurd rfl hc⟩)
  · refine m_isIn (fun a b => ⟨fun _ => ?_, fun hc => absurd hc (by decide)⟩) (fun h => ⟨fun hc => absurd rfl hc, fun _ => ?_⟩)
    · rw [if_pos ⟨hs, a, b⟩] at hk
      obtain ⟨w, h, n, M, k, rfl, rfl, S, k16, ek, en, -⟩ := sm_four hs
      refine m_laySmall S k16 ek rfl en (fun f' g' _ _ e61 e62 e63 => ?_)
      rw [ek]
      rintro y39 rfl
      rw [ix_nI (by omega)]
      dsimp only
      rw [e61, e62, e63, ← en]
      refine ⟨fun h0 => ⟨fun h1 => ⟨vin k16 (by decide), ?_⟩, fun h1 => ⟨vin k16 (by decide), ?_⟩⟩, fun h0 => ⟨vin k16 (by decide), ?_⟩⟩
      · have : z = 2 := by
          obtain ⟨j, hj, rfl⟩ := i_mid (n := 2) rfl a b
          rcases (show j = 0 ∨ j = 1 ∨ j = 2 by omega) with rfl | rfl | rfl
          · exact absurd rfl h0
          · exact absurd rfl h1
          · rfl
        rw [if_pos this] at hk
        exact hk _
      · subst h1; exact hk _
      · subst h0; exact hk _
    · rw [if_neg (fun hc => h.elim (Int32.not_lt.mpr hc.2.1) (Int32.not_lt.mpr hc.2.2))] at hk; exact hk _
  · rw [if_neg (fun hc => hs hc.1)] at hk; exact hk _

theorem m_unlike {f : Nat → Int32} {g : Nat → Nat → Int32} {K : Int32 → mS → Prop} {w h n M s : Nat} {y : Int32} (S : Sm w h n M) (hf : Sf f w h n) (hs : s < n) (hk : ∀ f' g', Sf f' w h n → (∀ q, q < 47 ∨ (48 < q ∧ q < 64) → g' q = g q) → K 0 (f', g')) : wpX11_isUnlike f g (nI s) y K := by
  obtain ⟨⟨s1, s2, s3, -⟩, -⟩ := S
  obtain ⟨f12, f38, f39, f40⟩ := hf
  unfold wpX11_isUnlike wpX11_isUnlike_b0
  refine m_setDown (n := n) (by rw [f38, f39]; exact s1) (by omega) ?_
  have zk : ∀ q, q < 47 ∨ 48 < q → zz g n q = g q := fun q hq => zz_k ⟨by omega, by omega⟩
  have A : (upd (upd (upd (upd f 41 (nI s)) 42 0) 43 0) 44 0) 12 = 0 ∧ (upd (upd (upd (upd f 41 (nI s)) 42 0) 43 0) 44 0) 38 = nI w ∧ (upd (upd (upd (upd f 41 (nI s)) 42 0) 43 0) 44 0) 39 = nI h ∧ (upd (upd (upd (upd f 41 (nI s)) 42 0) 43 0) 44 0) 40 = nI (n - 1) ∧ (upd (upd (upd (upd f 41 (nI s)) 42 0) 43 0) 44 0) 41 = nI s ∧ (upd (upd (upd (upd f 41 (nI s)) 42 0) 43 0) 44 0) 42 = 0 := ⟨by simp [upd_r, f12], by simp [upd_r, f38], by simp [upd_r, f39], by simp [upd_r, f40], by simp [upd_r], by simp [upd_r]⟩
  generalize upd (upd (upd (upd f 41 (nI s)) 42 0) 43 0) 44 0 = f1 at A ⊢
  generalize hz : zz g n = g1
  rw [hz] at zk
  obtain ⟨a12, a38, a39, a40, a41, a42⟩ := A
  have B : ∀ v : Int32, (upd (upd (upd (upd (upd f1 41 (nI s)) 42 0) 43 0) 44 0) 52 v) 12 = 0 ∧ (upd (upd (upd (upd (upd f1 41 (nI s)) 42 0) 43 0) 44 0) 52 v) 38 = nI w ∧ (upd (upd (upd (upd (upd f1 41 (nI s)) 42 0) 43 0) 44 0) 52 v) 39 = nI h ∧ (upd (upd (upd (upd (upd f1 41 (nI s)) 42 0) 43 0) 44 0) 52 v) 40 = nI (n - 1) ∧ (upd (upd (upd (upd (upd f1 41 (nI s)) 42 0) 43 0) 44 0) 52 v) 41 = nI s ∧ (upd (upd (upd (upd (upd f1 41 (nI s)) 42 0) 43 0) 44 0) 52 v) 42 = 0 := fun v => ⟨by simp [upd_r, a12], by simp [upd_r, a38], by simp [upd_r, a39], by simp [upd_r, a40], by simp [upd_r], by simp [upd_r]⟩
  have last : ∀ (f2 : Nat → Int32) (g2 : Nat → Nat → Int32), f2 12 = 0 → f2 38 = nI w → f2 39 = nI h → f2 40 = nI (n - 1) → (∀ q, q < 47 ∨ (48 < q ∧ q < 64) → g2 q = g q) → K 0 (upd f2 52 (-1), g2) := fun f2 g2 c1 c2 c3 c4 c5 => hk _ _ ⟨by simp [upd_r, c1], by simp [upd_r, c2], by simp [upd_r, c3], by simp [upd_r, c4]⟩ c5
  by_cases hb : s = n - 1
  · have e : f1 41 = f1 40 := by rw [a41, a40, hb]
    refine ⟨1, ?_⟩
    unfold wpX11_isUnlike_b7 wpX11_isUnlike_b7_body wpX11_isUnlike_b53 wpX11_isUnlike_b69
    refine ⟨fun hc => absurd hc (by decide), fun _ => ⟨fun _ => ⟨fun hc => absurd e hc, fun _ => ?_⟩, fun hc => absurd e hc⟩⟩
    refine m_setDown (n := n) (show f1 38 * f1 39 = nI n by rw [a38, a39]; exact s1) (by omega) ⟨1, ?_⟩
    obtain ⟨b12, b38, b39, b40, b41, b42⟩ := B y
    dsimp only
    generalize upd (upd (upd (upd (upd f1 41 (nI s)) 42 0) 43 0) 44 0) 52 y = f2 at b12 b38 b39 b40 b41 b42 ⊢
    have e2 : f2 41 = f2 40 := by rw [b41, b40, hb]
    unfold wpX11_isUnlike_b87 wpX11_isUnlike_b87_body wpX11_isUnlike_b156 wpX11_isUnlike_b190 wpX11_isUnlike_b198
    refine ⟨fun hc => absurd hc (by decide), fun _ => ⟨fun _ => ⟨fun hc => absurd rfl hc, fun _ => ⟨fun hc => absurd rfl hc, fun _ => ⟨fun hc => absurd e2 hc, fun _ => ⟨fun _ => ⟨Or.inl rfl, ?_⟩, fun hc => absurd rfl hc⟩⟩⟩⟩, fun hc => absurd e2 hc⟩⟩
    exact last _ _ b12 b38 b39 b40 (fun q hq => by rw [zz_k ⟨by omega, by omega⟩]; exact zk q (by omega))
  · have e : ¬ f1 41 = f1 40 := by rw [a41, a40]; exact fun hc => hb ((nI_eq (by omega) (by omega)).mp hc)
    refine lpi (w := fun m a x => wpX11_isUnlike_b7 m f1 a (nI s) y x K) (fun i a => (∀ q, q < 47 ∨ (48 < q ∧ q < 64) → a q = g q) ∧ ∀ j, j < i → a 64 j = 4 * nI s + 0) 100 ⟨fun q hq => zk q (by omega), fun j hj => absurd hj (Nat.not_lt_zero j)⟩ (fun m a ha => ?_) (fun m i a hi ha ih => ?_)
    · unfold wpX11_isUnlike_b7 wpX11_isUnlike_b7_body wpX11_isUnlike_b53 wpX11_isUnlike_b69
      refine ⟨fun _ => ⟨fun _ => ?_, fun hc => absurd hc e⟩, fun hc => absurd (Int32.le_refl _) hc⟩
      refine m_setDown (n := n) (show f1 38 * f1 39 = nI n by rw [a38, a39]; exact s1) (by omega) ?_
      obtain ⟨b12, b38, b39, b40, b41, b42⟩ := B y
      dsimp only
      generalize upd (upd (upd (upd (upd f1 41 (nI s)) 42 0) 43 0) 44 0) 52 y = f2 at b12 b38 b39 b40 b41 b42 ⊢
      have e2 : ¬ f2 41 = f2 40 := by rw [b41, b40]; exact fun hc => hb ((nI_eq (by omega) (by omega)).mp hc)
      refine lpi (w := fun m (_ : Unit) x => wpX11_isUnlike_b87 m f2 (zz a n) (nI 100) 0 x 0 K) (fun _ _ => True) 100 trivial (fun m _ _ => ?_) (fun m i _ hi _ ih => ?_) (a0 := ())
      · unfold wpX11_isUnlike_b87 wpX11_isUnlike_b87_body wpX11_isUnlike_b156 wpX11_isUnlike_b190 wpX11_isUnlike_b198
        refine ⟨fun _ => ⟨fun hc => absurd rfl hc, fun _ => ⟨fun hc => absurd rfl hc, fun _ => ⟨fun _ => ⟨fun _ => ⟨Or.inl rfl, ?_⟩, fun hc => absurd rfl hc⟩, fun hc => absurd hc e2⟩⟩⟩, fun hc => absurd (Int32.le_refl _) hc⟩
        exact last _ _ b12 b38 b39 b40 (fun q hq => by rw [zz_k ⟨by omega, by omega⟩]; exact ha.1 q hq)
      · unfold wpX11_isUnlike_b87 wpX11_isUnlike_b87_body wpX11_isUnlike_b148
        refine ⟨fun hc => absurd hc (nI_ge hi (by decide)), fun _ => ⟨fun hc => absurd hc e2, fun _ => ⟨fun hc => absurd rfl hc, fun _ => ?_⟩⟩⟩
        refine m_ticks b12 ⟨fun hc => absurd hc (nI_ge (b := 100) hi (by decide)), fun _ => ⟨vin (by omega) (by decide), fun _ => ?_, fun hc => absurd ?_ hc⟩⟩
        · rw [nI_1]; exact ih () trivial
        · dsimp only
          rw [ix_nI (by omega), zz_k ⟨by decide, by decide⟩, ha.2 i hi, b41, b42]
    · unfold wpX11_isUnlike_b7 wpX11_isUnlike_b7_body
      refine ⟨fun hc => absurd hc (nI_ge hi (by decide)), fun _ => ⟨fun hc => absurd hc e, fun _ => ?_⟩⟩
      refine m_ticks a12 ⟨vin (by omega) (by decide), ?_⟩
      dsimp only
      rw [ix_nI (by omega), nI_1, a41, a42]
      refine ih _ ⟨fun q hq => by rw [pt_ne (by omega)]; exact ha.1 q hq, fun j hj => ?_⟩
      rw [pt_at, upd_r]
      by_cases hji : j = i
      · rw [if_pos hji]
      · rw [if_neg hji]; exact ha.2 j (by omega)
theorem m_needs {K : Int32 → mS → Prop} {x y z : Int32} (hk : ∀ u, K (if (0 ≤ x ∧ x ≤ 2) ∧ (2 ≤ y ∧ y ≤ 3) ∧ 2 ≤ z ∧ z ≤ 3 then 0 else -1) u) : wpX11_needs mf1 mg1 x y z K := by
  unfold wpX11_needs wpX11_needs_b0 wpX11_needs_b22
  refine m_isIn (fun a b => ⟨fun hc => absurd hc (by decide), fun _ => ?_⟩) (fun h => ⟨fun _ => ?_, fun hc => absurd rfl hc⟩)
  · refine m_small (fun hs => ⟨fun _ => ?_, fun hc => absurd hc (by decide)⟩) (fun hs => ⟨fun hc => absurd rfl hc, fun _ => ?_⟩)
    · rw [if_pos ⟨⟨a, b⟩, hs⟩] at hk
      obtain ⟨w, h, n, M, k, rfl, rfl, S, -, -, en, -⟩ := sm_four hs
      have S0 := S
      obtain ⟨⟨s1, s2, s3, s4, s5, s6, s7, s8⟩, -⟩ := S0
      refine m_putsA 4 480 rfl (by decide) ?_
      unfold wpX11_small wpX11_small_b0
      dsimp only
      rw [en]
      have Sf0 : Sf (upd (upd (upd (upd mf1 2 0) 38 (nI w)) 39 (nI h)) 40 (nI (n - 1))) w h n := ⟨by simp [upd_r]; rfl, by simp [upd_r], by simp [upd_r], by simp [upd_r]⟩
      generalize upd (upd (upd (upd mf1 2 0) 38 (nI w)) 39 (nI h)) 40 (nI (n - 1)) = f0 at Sf0 ⊢
      have g46 : W16 (ps (upd mf1 2 0) mg1 480 36 46) := by rw [ps_k (by decide)]; exact W5_16
      generalize ps (upd mf1 2 0) mg1 480 36 = g0 at g46 ⊢
      refine lpi (w := fun m (a : mS) v => wpX11_needs_b41 m a.1 a.2 x 0 v K) (a0 := (f0, g0)) (fun i a => Sf a.1 w h n ∧ W16 (a.2 46)) (2 ^ M) ⟨Sf0, g46⟩ (fun m a ha => ?_) (fun m i a hi ha ih => ?_)
      · obtain ⟨⟨f1, g1⟩, hf, h16⟩ := a, ha
        dsimp only at hf h16 ⊢
        unfold wpX11_needs_b41 wpX11_needs_b41_body wpX11_wallMany wpX11_wallMany_b0 wpX11_needs_b120 wpX11_needs_b135
        rw [hf.2.1, hf.2.2.1, s7]
        dsimp only
        rw [s8]
        exact ⟨fun _ => m_takesA 4 480 rfl (by decide) ⟨fun _ => hk _, fun hc => absurd rfl hc⟩, fun hc => absurd (Int32.le_refl _) hc⟩
      · obtain ⟨⟨f1, g1⟩, hf, h16⟩ := a, ha
        dsimp only at hf h16 ⊢
        have hM : 2 ^ M ≤ 2 ^ 12 := Nat.pow_le_pow_right (by decide) s4
        unfold wpX11_needs_b41 wpX11_needs_b41_body wpX11_wallMany wpX11_wallMany_b0
        rw [hf.2.1, hf.2.2.1, s7]
        dsimp only
        rw [s8]
        refine ⟨fun hc => absurd hc (nI_ge hi (by omega)), fun _ => ⟨fun hc => absurd rfl hc, fun _ => ?_⟩⟩
        refine m_wallsBy S hf h16 (fun g2 q1 q2 q3 q4 => ?_)
        refine lpi (w := fun m (a : mS) v => wpX11_needs_b66 _ m a.1 a.2 x 0 (nI i) v K) (a0 := (f1, g2)) (fun s a => Sf a.1 w h n ∧ W16 (a.2 46)) n ⟨hf, q2⟩ (fun m2 a ha => ?_) (fun m2 s a hs ha ih2 => ?_)
        · obtain ⟨⟨f3, g3⟩, hf3, h3⟩ := a, ha
          dsimp only at hf3 h3 ⊢
          unfold wpX11_needs_b66 wpX11_needs_b66_body wpX11_squares wpX11_squares_b0 wpX11_needs_b114
          rw [hf3.2.1, hf3.2.2.1, s1]
          refine ⟨fun _ => ?_, fun hc => absurd (Int32.le_refl _) hc⟩
          rw [nI_1]
          exact ih (f3, g3) ⟨hf3, h3⟩
        · obtain ⟨⟨f3, g3⟩, hf3, h3⟩ := a, ha
          dsimp only at hf3 h3 ⊢
          unfold wpX11_needs_b66 wpX11_needs_b66_body wpX11_squares wpX11_squares_b0 wpX11_needs_b105 wpX11_needs_b106
          rw [hf3.2.1, hf3.2.2.1, s1]
          refine ⟨fun hc => absurd hc (nI_ge hs (by omega)), fun _ => ⟨fun hc => absurd rfl hc, fun _ => ⟨vin (by omega) (by decide), fun _ => ?_, fun _ => ?_⟩⟩⟩
          · rw [nI_1]; exact ih2 (f3, g3) ⟨hf3, h3⟩
          · refine m_unlike S hf3 hs (fun f4 g4 b1 b2 => ⟨fun _ => ?_, fun hc => absurd rfl hc⟩)
            rw [nI_1]
            exact ih2 (f4, g4) ⟨b1, by show W16 (g4 46); rw [b2 46 (by omega)]; exact h3⟩
    · rw [if_neg (fun hc => hs hc.2)] at hk; exact hk _
  · rw [if_neg (fun hc => h.elim (Int32.not_lt.mpr hc.1.1) (Int32.not_lt.mpr hc.1.2))] at hk; exact hk _
