theorem m_ticks {f : Nat → Int32} {g : Nat → Nat → Int32} {K : Int32 → mS → Prop} (h : f 12 = 0) (hk : K (-1) (f, g)) : wpX11_ticks f g K := by
  unfold wpX11_ticks wpX11_ticks_b0
  refine ⟨1, ?_⟩
  unfold wpX11_ticks_b2 wpX11_ticks_b2_body
  rw [h]
  exact ⟨fun _ => hk, fun hc => absurd (Int32.le_refl 0) hc⟩
theorem m_feed {f : Nat → Int32} {g : Nat → Nat → Int32} {K : Int32 → mS → Prop} {a b c d e : Int32} (h : f 1 = 0) (hk : ∀ u, K 20 u) : wpX11_feed f g a b c d e K := by
  unfold wpX11_feed wpX11_feed_b0
  rw [h]
  refine ⟨fun _ => ?_, fun hc => absurd (by decide) hc⟩
  have h1 : (upd f 2 0) 1 = 0 := by simp [upd_r, h]
  generalize upd f 2 0 = f' at h1
  refine lpi (w := fun n g x => wpX11_feed_b23 n f' g a b c d e x K) (fun _ _ => True) 20 trivial (fun n g _ => ?_) (fun n i g hi _ ih => ?_)
  · unfold wpX11_feed_b23 wpX11_feed_b23_body
    rw [h1]
    exact ⟨fun _ => hk _, fun hc => absurd (Int32.le_refl _) hc⟩
  · have l76 : ∀ k0 : Int32, wpX11_feed_b76 (fun f g x1 x2 x3 x4 x5 x6 => wpX11_feed_b23 n f g x1 x2 x3 x4 x5 x6 K) f' g k0 a b c d e (nI i) K := by
      intro k0
      unfold wpX11_feed_b76
      rw [h1, Int32.zero_add]
      refine ⟨vin (by omega) (by decide), ?_⟩
      rw [nI_1]
      exact ih _ trivial
    unfold wpX11_feed_b23 wpX11_feed_b23_body
    exact ⟨fun hc => absurd hc (nI_ge hi (by decide)), fun _ => ⟨fun _ => ⟨fun _ => ⟨fun _ => ⟨fun _ => l76 _, fun _ => l76 _⟩, fun _ => l76 _⟩, fun _ => l76 _⟩, fun _ => l76 _⟩⟩
theorem m_take {f : Nat → Int32} {g : Nat → Nat → Int32} {K : mS → Prop} (h : f 7 = f 6) (hk : K (upd (upd f 10 (f 7)) 8 0, g)) : wpX11_take f g K := by
  unfold wpX11_take
  refine ⟨1, ?_⟩
  unfold wpX11_take_b0 wpX11_take_b0_body wpX11_take_b52 wpX11_take_b407
  exact ⟨fun _ => ⟨fun hc => absurd h hc, fun _ => hk⟩, fun hc => absurd (h ▸ Int32.le_refl _) hc⟩
theorem i_z {x : Int32} (h : ¬ x < 0) (h2 : x ≤ 0) : x = 0 := Int32.le_antisymm h2 (i_nlt h)
theorem m_rules {f : Nat → Int32} {g : Nat → Nat → Int32} {K : Int32 → mS → Prop} {x : Int32} (h : f 1 = 0) (hk : ∀ u, K (if x = 0 then 0 else -2) u) : wpX11_rules f g x K := by
  unfold wpX11_rules wpX11_rules_b0 wpX11_starts wpX11_starts_b0 wpX11_starts_b12
  have h1 : (upd f 2 0) 1 = 0 := by simp [upd_r, h]
  rw [h1]
  by_cases hx : x = 0
  · subst hx
    refine ⟨fun hc => absurd hc (by decide), fun _ => ⟨fun _ => ⟨Or.inl rfl, ?_⟩, fun hc => absurd (Int32.le_refl 0) hc⟩⟩
    refine m_take (by simp [upd_r]) ?_
    refine ⟨fun _ => ⟨1, ?_⟩, fun hc => absurd hc (by decide)⟩
    unfold wpX11_rules_b19 wpX11_rules_b19_body
    refine ⟨fun _ => ⟨1, ?_⟩, fun hc => absurd (by simp [upd_r]) hc⟩
    unfold wpX11_rules_b49 wpX11_rules_b49_body
    refine ⟨fun _ => ⟨1, ?_⟩, fun hc => absurd (by simp [upd_r]) hc⟩
    unfold wpX11_rules_b95 wpX11_rules_b95_body
    refine ⟨fun _ => ?_, fun hc => absurd (by simp [upd_r]) hc⟩
    refine lpi (w := fun n g x => wpX11_rules_b199 n _ g x K) (fun _ _ => True) 16 trivial (fun n g _ => ?_) (fun n i g hi _ ih => ?_)
    · unfold wpX11_rules_b199 wpX11_rules_b199_body
      refine ⟨fun _ => ?_, fun hc => absurd (Int32.le_refl _) hc⟩
      simp only [upd_r]
      exact hk _
    · unfold wpX11_rules_b199 wpX11_rules_b199_body
      refine ⟨fun hc => absurd hc (nI_ge hi (by decide)), fun _ => ⟨vin (by omega) (by decide), ?_⟩⟩
      rw [nI_1]
      exact ih _ trivial
  · rw [if_neg hx] at hk
    exact ⟨fun _ => ⟨fun hc => absurd rfl hc, fun _ => hk _⟩, fun h0 => ⟨fun h2 => absurd (i_z h0 h2) hx, fun _ => ⟨fun hc => absurd rfl hc, fun _ => hk _⟩⟩⟩
theorem m_net {f : Nat → Int32} {g : Nat → Nat → Int32} {K : Int32 → mS → Prop} {x : Int32} (h : f 1 = 0) (hk : ∀ u, K (if x = 0 then 0 else -2) u) : wpX11_net f g x K := by
  unfold wpX11_net wpX11_net_b0 wpX11_starts wpX11_starts_b0 wpX11_starts_b12
  have h1 : (upd f 2 0) 1 = 0 := by simp [upd_r, h]
  rw [h1]
  by_cases hx : x = 0
  · subst hx
    refine ⟨fun hc => absurd hc (by decide), fun _ => ⟨fun _ => ⟨Or.inr rfl, ?_⟩, fun hc => absurd (Int32.le_refl 0) hc⟩⟩
    refine m_take (by simp [upd_r]) ?_
    refine ⟨fun _ => ?_, fun hc => absurd hc (by decide)⟩
    refine lpi (w := fun n g x => wpX11_net_b34 n _ g x K) (fun _ _ => True) 24 trivial (fun n g _ => ?_) (fun n i g hi _ ih => ?_)
    · unfold wpX11_net_b34 wpX11_net_b34_body
      refine ⟨fun _ => ⟨1, ?_⟩, fun hc => absurd (Int32.le_refl _) hc⟩
      unfold wpX11_net_b66 wpX11_net_b66_body
      refine ⟨fun _ => ⟨1, ?_⟩, fun hc => absurd (by simp [upd_r]) hc⟩
      unfold wpX11_net_b85 wpX11_net_b85_body
      refine ⟨fun _ => ?_, fun hc => absurd (by simp [upd_r]) hc⟩
      refine lpi (w := fun n g x => wpX11_net_b174 n _ g x K) (fun _ _ => True) 64 trivial (fun n g _ => ?_) (fun n i g hi _ ih => ?_)
      · unfold wpX11_net_b174 wpX11_net_b174_body
        refine ⟨fun _ => ?_, fun hc => absurd (Int32.le_refl _) hc⟩
        refine lpi (w := fun n g x => wpX11_net_b233 n _ g x K) (fun _ _ => True) 24 trivial (fun n g _ => ?_) (fun n i g hi _ ih => ?_)
        · unfold wpX11_net_b233 wpX11_net_b233_body wpX11_forgets wpX11_forgets_b0
          refine ⟨fun _ => ?_, fun hc => absurd (Int32.le_refl _) hc⟩
          refine lpi (w := fun n g x => wpX11_net_b296 n _ g x K) (fun _ _ => True) 4 trivial (fun n g _ => ?_) (fun n i g hi _ ih => ?_)
          · unfold wpX11_net_b296 wpX11_net_b296_body
            refine ⟨fun _ => ?_, fun hc => absurd (Int32.le_refl _) hc⟩
            simp only [upd_r]
            exact hk _
          · unfold wpX11_net_b296 wpX11_net_b296_body
            refine ⟨fun hc => absurd hc (nI_ge hi (by decide)), fun _ => ⟨vin (by omega) (by decide), ?_⟩⟩
            rw [nI_1]
            exact ih _ trivial
        · unfold wpX11_net_b233 wpX11_net_b233_body
          have e : (24 : Int32) + nI i = nI (24 + i) := nI_add 24 i
          rw [e]
          refine ⟨fun hc => absurd hc (nI_ge hi (by decide)), fun _ => ⟨vin (by omega) (by decide), vin (by omega) (by decide), vin (by omega) (by decide), vin (by omega) (by decide), ?_⟩⟩
          rw [nI_1]
          exact ih _ trivial
      · unfold wpX11_net_b174 wpX11_net_b174_body
        have e : (64 : Int32) + nI i = nI (64 + i) := nI_add 64 i
        rw [e]
        refine ⟨fun hc => absurd hc (nI_ge hi (by decide)), fun _ => ⟨vin (by omega) (by decide), vin (by omega) (by decide), vin (by omega) (by decide), vin (by omega) (by decide), vin (by omega) (by decide), vin (by omega) (by decide), ?_⟩⟩
        rw [nI_1]
        exact ih _ trivial
    · unfold wpX11_net_b34 wpX11_net_b34_body
      have e : (24 : Int32) + nI i = nI (24 + i) := nI_add 24 i
      rw [e]
      refine ⟨fun hc => absurd hc (nI_ge hi (by decide)), fun _ => ⟨vin (by omega) (by decide), vin (by omega) (by decide), ?_⟩⟩
      rw [nI_1]
      exact ih _ trivial
  · rw [if_neg hx] at hk
    exact ⟨fun _ => ⟨fun hc => absurd rfl hc, fun _ => hk _⟩, fun h0 => ⟨fun h2 => absurd (i_z h0 h2) hx, fun _ => ⟨fun hc => absurd rfl hc, fun _ => hk _⟩⟩⟩
theorem m_fault {K : Int32 → mS → Prop} {x : Int32} (hk : ∀ u, K (if x = 0 then 0 else -1) u) : wpX11_fault mf1 mg1 x K := by
  unfold wpX11_fault wpX11_fault_b0 wpX11_fault_b29
  refine ⟨fun hx => ?_, fun hx => ?_⟩
  · rw [if_neg hx] at hk
    exact ⟨fun _ => hk _, fun _ => hk _⟩
  · rw [if_pos hx] at hk
    exact hk _
theorem m_floor {f : Nat → Int32} {g : Nat → Nat → Int32} {K : Int32 → mS → Prop} {w h : Int32} (hk : ∀ u, K (if (2 ≤ w ∧ w ≤ 6) ∧ 2 ≤ h ∧ h ≤ 6 then 1 else 0) u) : wpX11_floor f g w h K := by
  unfold wpX11_floor wpX11_floor_b0 wpX11_floor_b25
  refine m_isIn (fun h1 h2 => ⟨fun hc => absurd hc (by decide), fun _ => ?_⟩) (fun hc => ⟨fun _ => ?_, fun hc => absurd rfl hc⟩)
  · refine m_isIn (fun h3 h4 => ⟨fun _ => ?_, fun hc => absurd hc (by decide)⟩) (fun hc => ⟨fun hc => absurd rfl hc, fun _ => ?_⟩)
    · rw [if_pos ⟨⟨h1, h2⟩, h3, h4⟩] at hk
      obtain ⟨a, ha, rfl⟩ := i_mid (n := 6) rfl (Int32.le_trans (by decide) h1) h2
      obtain ⟨b, hb, rfl⟩ := i_mid (n := 6) rfl (Int32.le_trans (by decide) h3) h4
      have ha0 : a ≠ 0 := by rintro rfl; exact absurd h1 (by decide)
      refine m_begins (n := a * b) (pk_mul a b) (Nat.le_trans (Nat.mul_le_mul ha hb) (by decide)) ?_ (fun _ _ => hk _)
      exact nI_ne0 (Nat.pos_of_ne_zero ha0) (by omega)
    · rw [if_neg] at hk
      · exact hk _
      · rintro ⟨-, h3, h4⟩
        rcases hc with hc | hc
        · exact absurd h3 (Int32.not_le.mpr hc)
        · exact absurd h4 (Int32.not_le.mpr hc)
  · rw [if_neg] at hk
    · exact hk _
    · rintro ⟨⟨h3, h4⟩, -⟩
      rcases hc with hc | hc
      · exact absurd h3 (Int32.not_le.mpr hc)
      · exact absurd h4 (Int32.not_le.mpr hc)
