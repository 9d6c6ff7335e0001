theorem m_setDown {f : Nat → Int32} {g : Nat → Nat → Int32} {K : mS → Prop} {x : Int32} {n : Nat} (hn : f 38 * f 39 = nI n) (h36 : n ≤ 36) (hk : K (upd (upd (upd (upd f 41 x) 42 0) 43 0) 44 0, zz g n)) : wpX11_setDown f g x K := by
  unfold wpX11_setDown wpX11_setDown_b0
  exact m_wipes hn h36 hk
theorem zz_k {g : Nat → Nat → Int32} {n k : Nat} (h : k ≠ 47 ∧ k ≠ 48) : zz g n k = g k := by
  funext s
  simp [zz, h]
theorem m_comes {K : Int32 → mS → Prop} {x : Int32} (hk : ∀ u, K (if x = 0 then 24 else if x = 1 then 0 else -1) u) : wpX11_comes mf1 mg1 x K := by
  unfold wpX11_comes wpX11_comes_b0
  refine m_isIn (fun h1 h2 => ⟨fun _ => ?_, fun hc => absurd hc (by decide)⟩) (fun h => ⟨fun hc => absurd rfl hc, fun _ => ?_⟩)
  · refine m_putsA 4 480 rfl (by decide) ?_
    refine m_layFarA (n := 25) (b := 24) (wl := W5) (w := 5) (fr := fun _ => 0) (q := fun _ => 0) (by decide) (by decide) rfl (show ps (upd mf1 2 0) mg1 480 36 46 = W5 from (ps_k (by decide)).trans rfl) rfl (show ps (upd mf1 2 0) mg1 480 36 54 = fun _ => 0 from (ps_k (by decide)).trans rfl) (show ps (upd mf1 2 0) mg1 480 36 55 = fun _ => 0 from (ps_k (by decide)).trans rfl) OK5 (fun g' hg h54 _ => ?_)
    refine lpi (w := fun n (a : mS × Int32 × Int32) x4 => wpX11_comes_b32 n a.1.1 a.1.2 x a.2.1 a.2.2 x4 K) (a0 := ((upd mf1 2 0, g'), 0, -1)) (fun i a => (a.1.1 12 = 0 ∧ a.1.1 38 = 5 ∧ a.1.1 39 = 5 ∧ a.1.1 40 = 24) ∧ (∀ s, s < 25 → a.1.2 54 s = D5.getD s 0) ∧ a.2.1 = nI (min i 24) ∧ a.2.2 = if i = 0 then -1 else 0) 25 ⟨⟨rfl, rfl, rfl, rfl⟩, fun s hs => (h54 s).trans (D5_m s hs), rfl, rfl⟩ (fun n a ha => ?_) (fun n i a hi ha ih => ?_)
    · obtain ⟨⟨⟨f, g⟩, x2, x3⟩, ⟨h12, h38, h39, h40⟩, hd, e2, e3⟩ := a, ha
      dsimp only at h12 h38 h39 h40 hd e2 e3 ⊢
      unfold wpX11_comes_b32 wpX11_comes_b32_body wpX11_squares wpX11_squares_b0 wpX11_comes_b110
      simp only [h38, h39]
      refine ⟨fun _ => m_takesA 4 480 rfl (by decide) ⟨fun hx => ?_, fun hx => ?_⟩, fun hc => absurd (by decide) hc⟩
      · rw [if_neg hx] at hk
        have : x = 1 := by
          obtain ⟨j, hj, rfl⟩ := i_mid (n := 1) rfl h1 h2
          rcases (show j = 0 ∨ j = 1 by omega) with rfl | rfl
          · exact absurd rfl hx
          · rfl
        rw [if_pos this] at hk
        rw [e3]
        exact hk _
      · rw [if_pos hx] at hk
        rw [e2]
        exact hk _
    · obtain ⟨⟨⟨f, g⟩, x2, x3⟩, ⟨h12, h38, h39, h40⟩, hd, e2, e3⟩ := a, ha
      dsimp only at h12 h38 h39 h40 hd e2 e3 ⊢
      unfold wpX11_comes_b32 wpX11_comes_b32_body wpX11_squares wpX11_squares_b0 wpX11_comes_b86 wpX11_comes_b90
      simp only [h38, h39]
      refine ⟨fun hc => absurd hc (nI_ge (b := 25) hi (by decide)), fun _ => ⟨vin (by omega) (by decide), fun _ => ?_, fun hc => absurd hc ?_⟩⟩
      · refine m_setDown (n := 25) (by rw [h38, h39]; rfl) (by decide) ?_
        have I2 : ∀ y2 y3 : Int32, y2 = nI (min (i + 1) 24) → y3 = 0 → wpX11_comes_b32 n (upd (upd (upd (upd f 41 (nI i)) 42 0) 43 0) 44 0) (zz g 25) x y2 y3 (nI (i + 1)) K := fun y2 y3 a1 a2 => ih ((upd (upd (upd (upd f 41 (nI i)) 42 0) 43 0) 44 0, zz g 25), y2, y3) ⟨⟨by simp [upd_r, h12], by simp [upd_r, h38], by simp [upd_r, h39], by simp [upd_r, h40]⟩, fun s hs => by show zz g 25 54 s = _; rw [zz_k (by decide)]; exact hd s hs, a1, by rw [if_neg (Nat.succ_ne_zero i)]; exact a2⟩
        refine m_comesIn (j := 2000) (by decide) (by simp [upd_r, h12]) (fun hb => ⟨fun hc => absurd hc (by decide), fun _ => ?_⟩) (fun hb => ⟨fun _ => ⟨fun hc => ?_, fun hc => ?_⟩, fun hc => absurd rfl hc⟩)
        · have e : nI i = 24 := by simpa [upd_r, h40] using hb
          have ei : i = 24 := (nI_eq (b := 24) (by omega) (by decide)).mp e
          rw [nI_1]
          refine I2 _ _ (by rw [e2, ei]; rfl) (by rw [e3, ei]; rfl)
        · have ei : i ≠ 24 := fun e => hb (by simp [upd_r, h40, e]; rfl)
          have e0 : i ≠ 0 := fun e => hc (by rw [e2, e]; rfl)
          rw [nI_1]
          refine I2 _ _ ?_ (by rw [e3, if_neg e0])
          rw [e2, show min i 24 = i by omega, show min (i + 1) 24 = i + 1 by omega, nI_1]
        · have ei : i ≠ 24 := fun e => hb (by simp [upd_r, h40, e]; rfl)
          have e0 : i = 0 := by
            rw [e2] at hc
            have := (nI_eq (b := 0) (by omega) (by decide)).mp hc
            omega
          subst e0
          rw [nI_1]
          exact I2 _ _ (by rw [e2]; rfl) rfl
      · rw [ix_nI (by omega), hd i hi]
        exact D5_n i hi
  · rw [if_neg (fun e => by subst e; revert h; decide), if_neg (fun e => by subst e; revert h; decide)] at hk
    exact hk _
theorem m_second {K : Int32 → mS → Prop} {x y : Int32} (hk : ∀ u, K (if (¬ x < 0 ∧ ¬ (25 : Int32) ≤ x) ∧ 0 ≤ y ∧ y ≤ 3 then (if x = 24 then 0 else -2) else -1) u) : wpX11_second mf1 mg1 x y K := by
  unfold wpX11_second wpX11_second_b0 wpX11_second_b22
  refine m_isSq (fun h1 h2 => ⟨fun hc => absurd hc (by decide), fun _ => ?_⟩) (fun h => ⟨fun _ => ?_, fun hc => absurd rfl hc⟩)
  · refine m_isIn (fun h3 h4 => ⟨fun _ => ?_, fun hc => absurd hc (by decide)⟩) (fun h => ⟨fun hc => absurd rfl hc, fun _ => ?_⟩)
    · rw [if_pos ⟨⟨h1, h2⟩, h3, h4⟩] at hk
      refine m_putsA 4 480 rfl (by decide) ?_
      refine m_setDown (n := 25) rfl (by decide) ?_
      have b97a : ∀ f g, f 53 = 0 → x = 24 → wpX11_second_b97 f g y 0 0 0 K := fun f g e53 ex => by
        rw [if_pos ex] at hk
        unfold wpX11_second_b97 wpX11_second_b133 wpX11_second_b163
        rw [e53]
        exact m_takesA 4 480 rfl (by decide) ⟨fun _ => ⟨fun _ => ⟨fun _ => ⟨fun _ => ⟨fun _ => hk _, fun _ => hk _⟩, fun _ => hk _⟩, fun _ => hk _⟩, fun hc => absurd hc (by decide)⟩, fun _ => ⟨fun _ => ⟨fun _ => ⟨fun _ => ⟨fun _ => hk _, fun _ => hk _⟩, fun _ => hk _⟩, fun _ => hk _⟩, fun hc => absurd hc (by decide)⟩⟩
      have b97b : ∀ f g z, ¬ x = 24 → wpX11_second_b97 f g y (-2) z (-2) K := fun f g z ex => by
        rw [if_neg ex] at hk
        unfold wpX11_second_b97 wpX11_second_b130
        exact m_takesA 4 480 rfl (by decide) ⟨fun _ => ⟨fun hc => absurd rfl hc, fun _ => hk _⟩, fun _ => ⟨fun hc => absurd rfl hc, fun _ => hk _⟩⟩
      refine m_comesIn (j := 2000) (by decide) rfl (fun hb => ⟨fun hc => absurd hc (by decide), fun _ => ?_⟩) (fun hb => ⟨fun _ => ?_, fun hc => absurd rfl hc⟩)
      · have ex : x = 24 := hb
        refine m_comesIn (j := 2000) (by decide) rfl (fun _ => ?_) (fun hc => absurd (show x = 24 from ex) hc)
        exact b97a _ _ rfl ex
      · exact b97b _ _ _ (fun ex => hb ex)
    · rw [if_neg (fun hc => h.elim (Int32.not_lt.mpr hc.2.1) (Int32.not_lt.mpr hc.2.2))] at hk; exact hk _
  · rw [if_neg (fun hc => h.elim hc.1.1 hc.1.2)] at hk; exact hk _
