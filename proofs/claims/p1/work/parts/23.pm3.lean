theorem isB_of {r : Int32} (h : r = 0 ∨ r = 1) : isB r := h
theorem m_isWall {f : Nat → Int32} {g : Nat → Nat → Int32} {x d : Int32} {K : Int32 → mS → Prop} (hx : vp_in x 36) (h1 : jshr (g 46 (ix x)) d &&& 1 = 1 → K 1 (f, g)) (h0 : ¬ jshr (g 46 (ix x)) d &&& 1 = 1 → K 0 (f, g)) : wpX11_isWall f g x d K := by
  unfold wpX11_isWall wpX11_isWall_b0
  exact ⟨hx, m_isOf (fun h => ⟨Or.inr rfl, h1 h⟩) (fun h => ⟨Or.inl rfl, h0 h⟩)⟩
def aheadV (f : Nat → Int32) (x d : Int32) : Int32 := if d = 0 then x - f 38 else if d = 1 then x + 1 else if d = 2 then x + f 38 else x - 1
theorem m_ahead {f : Nat → Int32} {g : Nat → Nat → Int32} {x d : Int32} {K : Int32 → mS → Prop} (hk : K (aheadV f x d) (f, g)) : wpX11_ahead f g x d K := by
  unfold wpX11_ahead wpX11_ahead_b0 wpX11_ahead_b41
  unfold aheadV at hk
  refine ⟨fun h0 => ⟨fun h1 => ⟨fun h2 => ?_, fun h2 => ?_⟩, fun h1 => ?_⟩, fun h0 => ?_⟩
  · rw [if_neg h0, if_neg h1, if_neg h2] at hk; exact hk
  · rw [if_neg h0, if_neg h1, if_pos h2] at hk; exact hk
  · rw [if_neg h0, if_pos h1] at hk; exact hk
  · rw [if_pos h0] at hk; exact hk
theorem m_bell {K : Int32 → mS → Prop} {x : Int32} (hk : ∀ u, K (if ¬ x < 0 ∧ ¬ (25 : Int32) ≤ x then 1 else 0) u) : wpX11_bell mf1 mg1 x K := by
  unfold wpX11_bell wpX11_bell_b0
  refine m_isSq (fun h1 h2 => ?_) (fun h => ?_)
  · rw [if_pos ⟨h1, h2⟩] at hk
    exact ⟨fun _ => hk _, fun hc => absurd hc (by decide)⟩
  · rw [if_neg (fun hc => h.elim hc.1 hc.2)] at hk
    exact ⟨fun hc => absurd rfl hc, fun _ => hk _⟩
theorem m_lift {K : Int32 → mS → Prop} {x d : Int32} (hk : ∀ u, K (if (¬ x < 0 ∧ ¬ (25 : Int32) ≤ x) ∧ 0 ≤ d ∧ d ≤ 3 then 1 else 0) u) : wpX11_lift mf1 mg1 x d K := by
  unfold wpX11_lift wpX11_lift_b0 wpX11_lift_b22
  refine m_isSq (fun h1 h2 => ⟨fun hc => absurd hc (by decide), fun _ => ?_⟩) (fun h => ⟨fun _ => ?_, fun hc => absurd rfl hc⟩)
  · refine m_isIn (fun h3 h4 => ⟨fun _ => ?_, fun hc => absurd hc (by decide)⟩) (fun h => ⟨fun hc => absurd rfl hc, fun _ => ?_⟩)
    · rw [if_pos ⟨⟨h1, h2⟩, h3, h4⟩] at hk; exact hk _
    · rw [if_neg (fun hc => h.elim (Int32.not_lt.mpr hc.2.1) (Int32.not_lt.mpr hc.2.2))] at hk; exact hk _
  · rw [if_neg (fun hc => h.elim hc.1.1 hc.1.2)] at hk; exact hk _
/-- is a wall around the floor of 5 by 5 there -/
def rim5 (s d : Nat) : Bool := if d = 0 then s < 5 else if d = 1 then s % 5 = 4 else if d = 2 then 20 ≤ s else s % 5 = 0
theorem rim5_m0 : ∀ s, s < 25 → ((5 : Int32) ≤ nI s ↔ ¬ rim5 s 0 = true) := by decide
theorem rim5_m1 : ∀ s, s < 25 → (jrem (nI s) 5 = 5 - 1 ↔ rim5 s 1 = true) := by decide
theorem rim5_m2 : ∀ s, s < 25 → (nI s < 5 * 5 - 5 ↔ ¬ rim5 s 2 = true) := by decide
theorem rim5_m3 : ∀ s, s < 25 → (jrem (nI s) 5 = 0 ↔ rim5 s 3 = true) := by decide
theorem wl5_b : ∀ s, s < 25 → ∀ d, d < 4 → (jshr (wl5.getD s 0) (nI d) &&& 1 = 1 ↔ rim5 s d = true) := by decide
theorem four {P : Nat → Prop} {d : Nat} (hd : d < 4) (h0 : P 0) (h1 : P 1) (h2 : P 2) (h3 : P 3) : P d := by
  rcases (show d = 0 ∨ d = 1 ∨ d = 2 ∨ d = 3 by omega) with rfl | rfl | rfl | rfl <;> assumption
theorem m_around {f : Nat → Int32} {g : Nat → Nat → Int32} {K : Int32 → mS → Prop} {s d : Nat} (hf : f 38 = 5) (hf2 : f 39 = 5) (hs : s < 25) (hd : d < 4) (hk : K (if rim5 s d then 1 else 0) (f, g)) : wpX11_isAround f g (nI s) (nI d) K := by
  unfold wpX11_isAround wpX11_isAround_b0 wpX11_isAround_b88 wpX11_squares wpX11_squares_b0
  simp only [hf, hf2]
  rcases (show d = 0 ∨ d = 1 ∨ d = 2 ∨ d = 3 by omega) with rfl | rfl | rfl | rfl
  · refine ⟨fun hc => absurd rfl hc, fun _ => ⟨fun h => ⟨Or.inl rfl, ?_⟩, fun h => ⟨Or.inr rfl, ?_⟩⟩⟩
    · rw [if_neg ((rim5_m0 s hs).mp h)] at hk; exact hk
    · rw [if_pos (Classical.not_not.mp (fun hc => h ((rim5_m0 s hs).mpr hc)))] at hk; exact hk
  · refine ⟨fun _ => ⟨fun hc => absurd rfl hc, fun _ => ⟨by decide, fun h => ⟨Or.inl rfl, ?_⟩, fun h => ⟨Or.inr rfl, ?_⟩⟩⟩, fun hc => absurd hc (by decide)⟩
    · rw [if_neg (fun hc => h ((rim5_m1 s hs).mpr hc))] at hk; exact hk
    · rw [if_pos ((rim5_m1 s hs).mp h)] at hk; exact hk
  · refine ⟨fun _ => ⟨fun _ => ⟨fun hc => absurd rfl hc, fun _ => ⟨fun h => ⟨Or.inl rfl, ?_⟩, fun h => ⟨Or.inr rfl, ?_⟩⟩⟩, fun hc => absurd hc (by decide)⟩, fun hc => absurd hc (by decide)⟩
    · rw [if_neg ((rim5_m2 s hs).mp h)] at hk; exact hk
    · rw [if_pos (Classical.not_not.mp (fun hc => h ((rim5_m2 s hs).mpr hc)))] at hk; exact hk
  · refine ⟨fun _ => ⟨fun _ => ⟨fun _ => ⟨by decide, fun h => ⟨Or.inl rfl, ?_⟩, fun h => ⟨Or.inr rfl, ?_⟩⟩, fun hc => absurd hc (by decide)⟩, fun hc => absurd hc (by decide)⟩, fun hc => absurd hc (by decide)⟩
    · rw [if_neg (fun hc => h ((rim5_m3 s hs).mpr hc))] at hk; exact hk
    · rw [if_pos ((rim5_m3 s hs).mp h)] at hk; exact hk
theorem ah5 : ∀ s, s < 25 → ∀ d, d < 4 → ¬ rim5 s d = true → vp_in (aheadV mf1 (nI s) (nI d)) 36 := by unfold vp_in; decide
theorem m_putWall {f : Nat → Int32} {g : Nat → Nat → Int32} {K : mS → Prop} {x d on : Int32} (h1 : vp_in x 36) (h2 : vp_in (aheadV f x d) 36) (hk : ∀ g', K (f, g')) : wpX11_putWall f g x d on K := by
  unfold wpX11_putWall wpX11_putWall_b0
  refine m_ahead ?_
  unfold wpX11_putWall_b49 wpX11_putWall_b89
  exact ⟨fun _ => ⟨h1, h1, fun _ => ⟨h2, h2, hk _⟩, fun _ => ⟨h2, h2, hk _⟩⟩, fun _ => ⟨h1, h1, fun _ => ⟨h2, h2, hk _⟩, fun _ => ⟨h2, h2, hk _⟩⟩⟩
theorem m_wall {K : Int32 → mS → Prop} {x d on : Int32} (hon : isB on) (hk1 : ∀ s t : Nat, s < 25 → t < 4 → x = nI s → d = nI t → rim5 s t = false → ∀ u, K on u) (hk2 : ∀ s t : Nat, s < 25 → t < 4 → x = nI s → d = nI t → rim5 s t = true → ∀ u, K 0 u) (hk0 : ((x < 0 ∨ (25 : Int32) ≤ x) ∨ (d < 0 ∨ 3 < d)) → ∀ u, K 0 u) : wpX11_wall mf1 mg1 x d on K := by
  unfold wpX11_wall wpX11_wall_b0 wpX11_wall_b41
  refine m_isSq (fun h1 h2 => ⟨fun hc => absurd hc (by decide), fun _ => ?_⟩) (fun h => ⟨fun _ => hk0 (Or.inl h) _, fun hc => absurd rfl hc⟩)
  refine m_isIn (fun h3 h4 => ⟨fun hc => absurd hc (by decide), fun _ => ?_⟩) (fun h => ⟨fun _ => hk0 (Or.inr h) _, fun hc => absurd rfl hc⟩)
  obtain ⟨s, hs, rfl⟩ := i_sq (n := 25) rfl h1 h2
  obtain ⟨t, ht, rfl⟩ := i_mid (n := 3) rfl h3 h4
  have ht4 : t < 4 := by omega
  refine m_around rfl rfl hs ht4 ?_
  cases hr : rim5 s t
  · refine ⟨fun hc => absurd rfl hc, fun _ => ?_⟩
    have hin : vp_in (nI s) 36 := vin (by omega) (by decide)
    have e46 : (upd mf1 2 0, mg1).2 46 (ix (nI s)) = wl5.getD s 0 := by rw [ix_nI (by omega)]; rfl
    have hb : ¬ jshr (mg1 46 (ix (nI s))) (nI t) &&& 1 = 1 := fun hc => by
      rw [ix_nI (by omega)] at hc
      have := (wl5_b s hs t ht4).mp hc
      rw [hr] at this
      cases this
    refine m_isWall hin (fun h => absurd h hb) (fun _ => ⟨fun h => ?_, fun h => ?_⟩)
    · refine m_putWall hin (ah5 s hs t ht4 (by rw [hr]; decide)) (fun g' => ?_)
      have e : on = 1 := hon.elim (fun e => absurd e.symm h) id
      have := hk1 s t hs ht4 rfl rfl hr
      rw [e] at this
      exact this _
    · have := hk1 s t hs ht4 rfl rfl hr
      rw [← h] at this
      exact this _
  · exact ⟨fun _ => hk2 s t hs ht4 rfl rfl hr _, fun hc => absurd hc (by decide)⟩
theorem m_wipe {K : Int32 → mS → Prop} (hk : ∀ u, K 0 u) : wpX11_wipe mf1 mg1 K := by
  unfold wpX11_wipe wpX11_wipe_b0
  refine lpi (w := fun n (_ : Unit) x => wpX11_wipe_b9 n (upd mf1 2 0) mg1 0 x K) (fun _ _ => True) 25 trivial (fun n _ _ => ?_) (fun n i _ hi _ ih => ?_) (a0 := ())
  · unfold wpX11_wipe_b9 wpX11_wipe_b9_body wpX11_squares wpX11_squares_b0
    exact ⟨fun _ => m_wipes (n := 25) rfl (by decide) (hk _), fun hc => absurd (Int32.le_refl _) hc⟩
  · unfold wpX11_wipe_b9 wpX11_wipe_b9_body wpX11_squares wpX11_squares_b0 wpX11_wipe_b36 wpX11_wipe_b41
    refine ⟨fun hc => absurd hc (nI_ge hi (by decide)), fun _ => ⟨vin (by omega) (by decide), fun hc => absurd rfl hc, fun _ => ⟨vin (by omega) (by decide), fun _ => ?_, fun hc => absurd rfl hc⟩⟩⟩
    rw [nI_1]
    exact ih () trivial
/-- a numbered loop up to a number that is not written out -/
theorem m_tick {f : Nat → Int32} {g : Nat → Nat → Int32} {K : Int32 → mS → Prop} {x : Int32} (h : f 12 = 0) (hk : ∀ u, K (if 0 ≤ x ∧ x ≤ 5000 then 0 else -1) u) : wpX11_tick f g x K := by
  unfold wpX11_tick wpX11_tick_b0
  refine m_isIn (fun h1 h2 => ⟨fun _ => ?_, fun hc => absurd hc (by decide)⟩) (fun h => ⟨fun hc => absurd rfl hc, fun _ => ?_⟩)
  · rw [if_pos ⟨h1, h2⟩] at hk
    obtain ⟨j, hj, rfl⟩ := i_mid (n := 5000) rfl h1 h2
    refine lpi (w := fun n f x => wpX11_tick_b22 n f g (nI j) 0 x K) (fun _ f => f 12 = 0) j (by simp [upd_r, h]) (fun n f _ => ?_) (fun n i f hi hf ih => ?_)
    · unfold wpX11_tick_b22 wpX11_tick_b22_body
      exact ⟨fun _ => hk _, fun hc => absurd (Int32.le_refl _) hc⟩
    · unfold wpX11_tick_b22 wpX11_tick_b22_body
      refine ⟨fun hc => absurd hc (nI_ge hi (by omega)), fun _ => m_ticks hf ⟨fun _ => ?_, fun hc => absurd (by decide) hc⟩⟩
      unfold wpX11_tick_b48
      rw [nI_1]
      exact ih _ (by simp [upd_r, hf])
  · rw [if_neg (fun hc => h.elim (Int32.not_lt.mpr hc.1) (Int32.not_lt.mpr hc.2))] at hk; exact hk _
theorem m_run {f : Nat → Int32} {g : Nat → Nat → Int32} {K : Int32 → mS → Prop} {x : Int32} (h : f 12 = 0) (hb : ¬ f 41 = f 40) (hk : ∀ u, K (if 0 ≤ x ∧ x ≤ 5000 then -2 else -1) u) : wpX11_run f g x K := by
  unfold wpX11_run wpX11_run_b0
  refine m_isIn (fun h1 h2 => ⟨fun _ => ?_, fun hc => absurd hc (by decide)⟩) (fun h => ⟨fun hc => absurd rfl hc, fun _ => ?_⟩)
  · rw [if_pos ⟨h1, h2⟩] at hk
    obtain ⟨j, hj, rfl⟩ := i_mid (n := 5000) rfl h1 h2
    refine lpi (w := fun n f x => wpX11_run_b20 n f g (nI j) x K) (fun _ f => f 12 = 0 ∧ ¬ f 41 = f 40) j (by simp [upd_r, h, hb]) (fun n f hf => ?_) (fun n i f hi hf ih => ?_)
    · unfold wpX11_run_b20 wpX11_run_b20_body
      exact ⟨fun hc => absurd hc hf.2, fun _ => ⟨fun hc => absurd rfl hc, fun _ => hk _⟩⟩
    · unfold wpX11_run_b20 wpX11_run_b20_body
      refine ⟨fun hc => absurd hc hf.2, fun _ => ⟨fun _ => m_ticks hf.1 ?_, fun hc => absurd ((nI_eq (by omega) (by omega)).mp hc) (by omega)⟩⟩
      rw [nI_1]
      exact ih _ (by simp [upd_r, hf])
  · rw [if_neg (fun hc => h.elim (Int32.not_lt.mpr hc.1) (Int32.not_lt.mpr hc.2))] at hk; exact hk _
theorem m_comesIn {f : Nat → Int32} {g : Nat → Nat → Int32} {K : Int32 → mS → Prop} {j : Nat} (hj : j < 2 ^ 31) (h : f 12 = 0) (h1 : f 41 = f 40 → K 0 (f, g)) (h2 : ¬ f 41 = f 40 → K (-2) (f, g)) : wpX11_comesIn f g (nI j) K := by
  unfold wpX11_comesIn wpX11_comesIn_b0
  by_cases hb : f 41 = f 40
  · refine ⟨1, ?_⟩
    unfold wpX11_comesIn_b2 wpX11_comesIn_b2_body
    exact ⟨fun _ => h1 hb, fun hc => absurd hb hc⟩
  · refine lpi (w := fun n (_ : Unit) x => wpX11_comesIn_b2 n f g (nI j) x K) (fun _ _ => True) j trivial (fun n _ _ => ?_) (fun n i _ hi _ ih => ?_) (a0 := ())
    · unfold wpX11_comesIn_b2 wpX11_comesIn_b2_body
      exact ⟨fun hc => absurd hc hb, fun _ => ⟨fun hc => absurd rfl hc, fun _ => h2 hb⟩⟩
    · unfold wpX11_comesIn_b2 wpX11_comesIn_b2_body
      refine ⟨fun hc => absurd hc hb, fun _ => ⟨fun _ => m_ticks h ?_, fun hc => absurd ((nI_eq (by omega) (by omega)).mp hc) (by omega)⟩⟩
      rw [nI_1]
      exact ih () trivial
theorem m_mouse {K : Int32 → mS → Prop} {x : Int32} (hk : ∀ u, K (if 0 ≤ x ∧ x ≤ 3 then 0 else -1) u) : wpX11_mouse mf1 mg1 x K := by
  unfold wpX11_mouse wpX11_mouse_b0
  refine ⟨fun h => ?_, fun h => ?_, fun h => ?_, fun h => ?_, fun h => ?_, fun h => ?_⟩
  · subst h; exact hk _
  · subst h; exact hk _
  · subst h; exact hk _
  · subst h; exact hk _
  · subst h; exact hk _
  · rw [if_neg] at hk
    · exact hk _
    · rintro ⟨a, b⟩
      rw [Int32.le_iff_toInt_le] at a b
      have e0 : (0 : Int32).toInt = 0 := rfl
      have e3 : (3 : Int32).toInt = 3 := rfl
      omega
theorem m_relays {K : Int32 → mS → Prop} (hk : ∀ u, K 0 u) : wpX11_relays mf1 mg1 K := hk _
theorem m_stuck {K : Int32 → mS → Prop} (hk : ∀ u, K 0 u) : wpX11_stuck mf1 mg1 K := hk _
theorem m_race {K : Int32 → mS → Prop} (hk : ∀ u, K (-1) u) : wpX11_race mf1 mg1 K := ⟨fun hc => absurd rfl hc, fun _ => hk _⟩
theorem m_stick {K : Int32 → mS → Prop} {x y : Int32} (hk : ∀ u, K 0 u) : wpX11_stick mf1 mg1 x y K := by
  unfold wpX11_stick wpX11_stick_b0 wpX11_stick_b26
  exact ⟨fun _ => hk _, fun h => ⟨fun _ => hk _, fun hc => absurd (i_nlt h) hc⟩⟩
theorem m_restore {K : Int32 → mS → Prop} {x : Int32} (hk : ∀ u, K 0 u) : wpX11_restore mf1 mg1 x K := by
  unfold wpX11_restore wpX11_restore_b0 wpX11_restore_b23
  refine m_isIn (fun h1 h2 => ⟨fun hc => absurd hc (by decide), fun _ => ?_⟩) (fun h => ⟨fun _ => hk _, fun hc => absurd rfl hc⟩)
  obtain ⟨j, hj, rfl⟩ := i_mid (n := 3) rfl h1 h2
  exact ⟨vin (by omega) (by decide), fun hc => absurd rfl hc, fun _ => hk _⟩
