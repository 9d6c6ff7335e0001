def W5 (s : Nat) : Int32 := wl5.getD s 0
/-- as on a fresh object, as far as a tick sees it -/
def Fq (f : Nat → Int32) (g : Nat → Nat → Int32) : Prop := f 12 = 0 ∧ f 20 = 0 ∧ f 38 = 5 ∧ f 39 = 5 ∧ f 40 = 24 ∧ f 41 = 0 ∧ f 42 = 0 ∧ f 49 = 0 ∧ f 50 = 0 ∧ (∀ s, g 25 s = 0) ∧ (∀ s, g 26 s = 0) ∧ (∀ s, g 46 s = W5 s) ∧ (∀ s, g 47 s = 0)
theorem Fq_1 : Fq mf1 mg1 := ⟨rfl, rfl, rfl, rfl, rfl, rfl, rfl, rfl, rfl, fun _ => rfl, fun _ => rfl, fun _ => rfl, fun _ => rfl⟩
theorem Fq_u {f : Nat → Int32} {g : Nat → Nat → Int32} {k : Nat} {v : Int32} (h : Fq f g) (hk : k ≠ 12 ∧ k ≠ 20 ∧ k ≠ 38 ∧ k ≠ 39 ∧ k ≠ 40 ∧ k ≠ 41 ∧ k ≠ 42 ∧ k ≠ 49 ∧ k ≠ 50) : Fq (upd f k v) g := by
  obtain ⟨h1, h2, h3, h4, h5, h6, h7, h8, h9⟩ := hk
  unfold Fq at h ⊢
  simp only [upd_r, if_neg (Ne.symm h1), if_neg (Ne.symm h2), if_neg (Ne.symm h3), if_neg (Ne.symm h4), if_neg (Ne.symm h5), if_neg (Ne.symm h6), if_neg (Ne.symm h7), if_neg (Ne.symm h8), if_neg (Ne.symm h9)]
  exact h
theorem Fq_p {f : Nat → Int32} {g : Nat → Nat → Int32} {k i : Nat} {v : Int32} (h : Fq f g) (hk : k ≠ 25 ∧ k ≠ 26 ∧ k ≠ 46 ∧ k ≠ 47) : Fq f (pt g k i v) := by
  obtain ⟨h1, h2, h3, h4⟩ := hk
  unfold Fq at h ⊢
  rw [pt_ne (Ne.symm h1), pt_ne (Ne.symm h2), pt_ne (Ne.symm h3), pt_ne (Ne.symm h4)]
  exact h
theorem m_felt {f : Nat → Int32} {g : Nat → Nat → Int32} {K : Int32 → mS → Prop} (h : vp_in (f 41) 36) (hk : ∀ r, K r (f, g)) : wpX11_felt f g K := by
  unfold wpX11_felt wpX11_felt_b0
  have l77 : ∀ a b, wpX11_felt_b77 f g a b K := fun a b => hk _
  have l57 : ∀ a b, wpX11_felt_b57 f g a b K := fun a b => ⟨h, fun _ => l77 _ _, fun _ => l77 _ _⟩
  have l36 : ∀ a b, wpX11_felt_b36 f g a b K := fun a b => ⟨h, fun _ => l57 _ _, fun _ => l57 _ _⟩
  have l20 : ∀ a, wpX11_felt_b20 f g a K := fun a => ⟨fun _ => l36 _ _, fun _ => l36 _ _⟩
  exact m_isWall h (fun _ => ⟨fun _ => l20 _, fun _ => l20 _⟩) (fun _ => ⟨fun _ => l20 _, fun _ => l20 _⟩)
theorem m_works0 {f : Nat → Int32} {g : Nat → Nat → Int32} {K : Int32 → mS → Prop} {x y z : Int32} (hx : vp_in x 48) (h1 : g 25 (ix x) = 0) (h2 : g 26 (ix x) = 0) (hk : K 0 (f, g)) : wpX11_works f g x y z K := by
  unfold wpX11_works wpX11_works_b0
  refine ⟨hx, 1, ?_⟩
  unfold wpX11_works_b8 wpX11_works_b8_body wpX11_works_b256 wpX11_works_b257
  rw [h1, h2]
  exact ⟨hx, fun _ => ⟨hx, hx, fun _ => ⟨Or.inl rfl, hk⟩, fun hc => absurd (Int32.le_refl 0) hc⟩, fun hc => absurd (Int32.le_refl 0) hc⟩
theorem m_pulls0 {f : Nat → Int32} {g : Nat → Nat → Int32} {K : mS → Prop} (h : Fq f g) (hk : K (upd f 45 0, g)) : wpX11_pulls f g K := by
  unfold wpX11_pulls wpX11_pulls_b0
  have h41 : f 41 = 0 := h.2.2.2.2.2.1
  have h20 : f 20 = 0 := h.2.1
  obtain ⟨-, -, -, -, -, -, -, -, -, h25, h26, -, -⟩ := h
  refine m_felt (by rw [h41]; exact vin (n := 0) (by decide) (by decide)) (fun r => ⟨1, ?_⟩)
  unfold wpX11_pulls_b9 wpX11_pulls_b9_body
  rw [show ((f, g) : mS).1 20 = 0 from h20]
  refine ⟨fun _ => ?_, fun hc => absurd (Int32.le_refl 0) hc⟩
  refine m_works0 (vin (n := 23) (by decide) (by decide)) (h25 _) (h26 _) ⟨fun _ => ?_, fun hc => absurd rfl hc⟩
  unfold wpX11_pulls_b101
  refine m_works0 (vin (n := 21) (by decide) (by decide)) (h25 _) (h26 _) ?_
  refine m_works0 (vin (n := 22) (by decide) (by decide)) (h25 _) (h26 _) ?_
  refine m_works0 (vin (n := 20) (by decide) (by decide)) (h25 _) (h26 _) ?_
  exact ⟨fun _ => ⟨fun _ => ⟨fun _ => hk, fun hc => absurd rfl hc⟩, fun hc => absurd rfl hc⟩, fun hc => absurd rfl hc⟩
theorem m_told0 {f : Nat → Int32} {g : Nat → Nat → Int32} {K : mS → Prop} (h : Fq f g) (hk : ∀ f', Fq f' g → f' 53 = f 53 → K (f', g)) : wpX11_pullsTold f g K := by
  unfold wpX11_pullsTold wpX11_pullsTold_b0
  refine m_felt (by rw [h.2.2.2.2.2.1]; exact vin (n := 0) (by decide) (by decide)) (fun r => ?_)
  refine m_pulls0 (Fq_u (Fq_u h (by decide)) (by decide)) ?_
  refine hk _ (Fq_u (Fq_u (Fq_u (Fq_u (Fq_u h (by decide)) (by decide)) (by decide)) (by decide)) (by decide)) ?_
  simp [upd_r]
theorem m_pull {K : Int32 → mS → Prop} {x : Int32} (hk : ∀ u, K (if 0 ≤ x ∧ x ≤ 5000 then 0 else -1) u) : wpX11_pull mf1 mg1 x K := by
  unfold wpX11_pull wpX11_pull_b0
  refine m_isIn (fun h1 h2 => ⟨fun _ => ?_, fun hc => absurd hc (by decide)⟩) (fun h => ⟨fun hc => absurd rfl hc, fun _ => ?_⟩)
  · rw [if_pos ⟨h1, h2⟩] at hk
    obtain ⟨j, hj, rfl⟩ := i_mid (n := 5000) rfl h1 h2
    refine lpi (w := fun n f x => wpX11_pull_b25 n f mg1 (nI j) x K) (fun _ f => Fq f mg1 ∧ f 53 = 0) j ⟨Fq_u (Fq_u Fq_1 (by decide)) (by decide), rfl⟩ (fun n f hf => ?_) (fun n i f hi hf ih => ?_)
    · unfold wpX11_pull_b25 wpX11_pull_b25_body
      rw [hf.2]
      exact ⟨fun _ => hk _, fun hc => absurd (Int32.le_refl _) hc⟩
    · unfold wpX11_pull_b25 wpX11_pull_b25_body
      refine ⟨fun hc => absurd hc (nI_ge hi (by omega)), fun _ => m_told0 hf.1 (fun f' h1 h2 => ?_)⟩
      rw [nI_1]
      exact ih _ ⟨h1, h2.trans hf.2⟩
  · rw [if_neg (fun hc => h.elim (Int32.not_lt.mpr hc.1) (Int32.not_lt.mpr hc.2))] at hk; exact hk _
theorem Fq_nb {f : Nat → Int32} {g : Nat → Nat → Int32} (h : Fq f g) : ¬ f 41 = f 40 := by
  rw [h.2.2.2.2.2.1, h.2.2.2.2.1]
  decide
theorem m_pullRun {K : Int32 → mS → Prop} {x : Int32} (hk : ∀ u, K (if 0 ≤ x ∧ x ≤ 5000 then -2 else -1) u) : wpX11_pullRun mf1 mg1 x K := by
  unfold wpX11_pullRun wpX11_pullRun_b0
  refine m_isIn (fun h1 h2 => ⟨fun _ => ?_, fun hc => absurd hc (by decide)⟩) (fun h => ⟨fun hc => absurd rfl hc, fun _ => ?_⟩)
  · rw [if_pos ⟨h1, h2⟩] at hk
    obtain ⟨j, hj, rfl⟩ := i_mid (n := 5000) rfl h1 h2
    refine lpi (w := fun n f x => wpX11_pullRun_b20 n f mg1 (nI j) x K) (fun _ f => Fq f mg1) j (Fq_u Fq_1 (by decide)) (fun n f hf => ?_) (fun n i f hi hf ih => ?_)
    · unfold wpX11_pullRun_b20 wpX11_pullRun_b20_body
      exact ⟨fun hc => absurd hc (Fq_nb hf), fun _ => ⟨fun hc => absurd rfl hc, fun _ => hk _⟩⟩
    · unfold wpX11_pullRun_b20 wpX11_pullRun_b20_body
      refine ⟨fun hc => absurd hc (Fq_nb hf), fun _ => ⟨fun _ => m_told0 hf (fun f' h1 h2 => ?_), fun hc => absurd ((nI_eq (by omega) (by omega)).mp hc) (by omega)⟩⟩
      rw [nI_1]
      exact ih _ h1
  · rw [if_neg (fun hc => h.elim (Int32.not_lt.mpr hc.1) (Int32.not_lt.mpr hc.2))] at hk; exact hk _
/-- the same, kept at a -/
def Sq (g : Nat → Nat → Int32) (a : Nat) : Prop := g 57 a = 5 ∧ g 57 (a + 1) = 5 ∧ g 57 (a + 2) = 24 ∧ g 57 (a + 3) = 0 ∧ g 57 (a + 4) = 0 ∧ (∀ s, s < 36 → g 57 (a + 8 + s) = W5 s) ∧ ∀ s, s < 36 → g 57 (a + 44 + s) = 0
theorem Sq_ps {f : Nat → Int32} {g : Nat → Nat → Int32} {a : Nat} (h : Fq f g) : Sq (ps f g a 36) a := by
  obtain ⟨-, -, h38, h39, h40, h41, h42, -, -, -, -, h46, h47⟩ := h
  refine ⟨?_, ?_, ?_, ?_, ?_, fun s hs => ?_, fun s hs => ?_⟩
  · simp [ps, h38]
  · simp [ps, h39]
  · simp [ps, h40]
  · simp [ps, h41]
  · simp [ps, h42]
  · simp only [ps, if_true]
    rw [if_neg (by omega), if_pos (by omega), show a + 8 + s - (a + 8) = s by omega, h46]
  · simp only [ps, if_true]
    rw [if_neg (by omega), if_neg (by omega), if_pos (by omega), h47]
theorem ps_o {f : Nat → Int32} {g : Nat → Nat → Int32} {a s : Nat} (h : s < a ∨ a + 120 ≤ s) : ps f g a 36 57 s = g 57 s := by
  simp only [ps, if_true]
  rw [if_neg (by omega), if_neg (by omega), if_neg (by omega), if_neg (by omega)]
theorem Sq_po {f : Nat → Int32} {g : Nat → Nat → Int32} {a b : Nat} (hab : b + 120 ≤ a ∨ a + 120 ≤ b) (h : Sq g b) : Sq (ps f g a 36) b := by
  obtain ⟨h0, h1, h2, h3, h4, h5, h6⟩ := h
  refine ⟨?_, ?_, ?_, ?_, ?_, fun s hs => ?_, fun s hs => ?_⟩
  · rw [ps_o (by omega)]; exact h0
  · rw [ps_o (by omega)]; exact h1
  · rw [ps_o (by omega)]; exact h2
  · rw [ps_o (by omega)]; exact h3
  · rw [ps_o (by omega)]; exact h4
  · rw [ps_o (by omega)]; exact h5 s hs
  · rw [ps_o (by omega)]; exact h6 s hs
theorem ps_k {f : Nat → Int32} {g : Nat → Nat → Int32} {a k : Nat} (h : k ≠ 57) : ps f g a 36 k = g k := by
  funext s
  simp only [ps, if_neg h]
theorem Fq_ps {f f2 : Nat → Int32} {g : Nat → Nat → Int32} {a : Nat} (h : Fq f g) : Fq f (ps f2 g a 36) := by
  unfold Fq at h ⊢
  rw [ps_k (by decide), ps_k (by decide), ps_k (by decide), ps_k (by decide)]
  exact h
theorem tg_57 {g : Nat → Nat → Int32} {a : Nat} {k : Nat} (h : k ≠ 46 ∧ k ≠ 47 ∧ k ≠ 48) : tg g a 36 k = g k := by
  funext s
  simp only [tg, if_neg h.1, if_neg h.2.1, if_neg h.2.2, ite_self]
theorem Sq_tg {g : Nat → Nat → Int32} {a b : Nat} (h : Sq g b) : Sq (tg g a 36) b := by
  unfold Sq at h ⊢
  rw [tg_57 (by decide)]
  exact h
theorem Sq_p {g : Nat → Nat → Int32} {b k i : Nat} {v : Int32} (h : Sq g b) (hk : k ≠ 57) : Sq (pt g k i v) b := by
  unfold Sq at h ⊢
  rw [pt_ne (Ne.symm hk)]
  exact h
theorem Fq_t {f : Nat → Int32} {g : Nat → Nat → Int32} {a : Nat} (h : Fq f g) (hs : Sq g a) : Fq (tf f g a) (tg g a 36) := by
  obtain ⟨h12, h20, h38, h39, h40, h41, h42, h49, h50, h25, h26, h46, h47⟩ := h
  obtain ⟨s0, s1, s2, s3, s4, s5, s6⟩ := hs
  refine ⟨?_, ?_, ?_, ?_, ?_, ?_, ?_, ?_, ?_, fun s => ?_, fun s => ?_, fun s => ?_, fun s => ?_⟩
  · simpa [tf] using h12
  · simpa [tf] using h20
  · simpa [tf] using s0
  · simpa [tf] using s1
  · simpa [tf] using s2
  · simpa [tf] using s3
  · simpa [tf] using s4
  · simpa [tf] using h49
  · simpa [tf] using h50
  · rw [tg_57 (by decide)]; exact h25 s
  · rw [tg_57 (by decide)]; exact h26 s
  · by_cases hs : s < 36
    · simp only [tg, if_pos hs, if_true]; exact s5 s hs
    · simp only [tg, if_neg hs]; exact h46 s
  · by_cases hs : s < 36
    · simp only [tg, if_pos hs, if_true]; exact s6 s hs
    · simp only [tg, if_neg hs]; exact h47 s
theorem m_layLike {f : Nat → Int32} {g : Nat → Nat → Int32} {K : mS → Prop} {t : Nat} (ht : t ≤ 500) (h : Fq f g) (hs : Sq g 480) (hk : ∀ f' g', Fq f' g' → Sq g' 480 → (∀ j, j < t → g' 71 j = 0) → K (f', g')) : wpX11_layLike f g (nI t) K := by
  unfold wpX11_layLike wpX11_layLike_b0
  refine m_takesA 4 480 rfl (by decide) ?_
  refine lpi (w := fun n (a : mS) x => wpX11_layLike_b20 n a.1 a.2 (nI t) x K) (a0 := (_, _)) (fun i a => Fq a.1 a.2 ∧ Sq a.2 480 ∧ ∀ j, j < i → a.2 71 j = 0) t ⟨Fq_u (Fq_t h hs) (by decide), Sq_tg hs, fun j hj => absurd hj (Nat.not_lt_zero j)⟩ (fun n a ha => ?_) (fun n i a hi ha ih => ?_)
  · unfold wpX11_layLike_b20 wpX11_layLike_b20_body
    exact ⟨fun _ => hk _ _ ha.1 ha.2.1 ha.2.2, fun hc => absurd (Int32.le_refl _) hc⟩
  · unfold wpX11_layLike_b20 wpX11_layLike_b20_body
    refine ⟨fun hc => absurd hc (nI_ge hi (by omega)), fun _ => m_pulls0 ha.1 ⟨vin (by omega) (by decide), ?_⟩⟩
    rw [nI_1, ix_nI (by omega)]
    have e1 : (upd a.1 45 0) 41 = 0 := by simp [upd_r]; exact ha.1.2.2.2.2.2.1
    have e2 : (upd a.1 45 0) 42 = 0 := by simp [upd_r]; exact ha.1.2.2.2.2.2.2.1
    refine ih (_, _) ⟨Fq_p (Fq_u ha.1 (by decide)) (by decide), Sq_p ha.2.1 (by decide), fun j hj => ?_⟩
    · show pt a.2 71 i (4 * (upd a.1 45 0) 41 + (upd a.1 45 0) 42) 71 j = 0
      rw [pt_r, if_pos rfl, e1, e2]
      by_cases hji : j = i
      · rw [if_pos hji]; rfl
      · rw [if_neg hji]; exact ha.2.2 j (by omega)
theorem m_isLike {f : Nat → Int32} {g : Nat → Nat → Int32} {K : Int32 → mS → Prop} {t : Nat} (ht : t ≤ 500) (h : Fq f g) (hs : Sq g 480) (h71 : ∀ j, j < t → g 71 j = 0) (hk : ∀ f' g', Fq f' g' → Sq g' 480 → K 1 (f', g')) : wpX11_isLike f g (nI t) K := by
  unfold wpX11_isLike wpX11_isLike_b0
  refine m_takesA 4 480 rfl (by decide) ?_
  refine lpi (w := fun n (a : mS) x => wpX11_isLike_b22 n a.1 a.2 (nI t) 1 x K) (a0 := (_, _)) (fun i a => Fq a.1 a.2 ∧ Sq a.2 480 ∧ ∀ j, j < t → a.2 71 j = 0) t ⟨Fq_u (Fq_t h hs) (by decide), Sq_tg hs, fun j hj => by show tg g (480) 36 71 j = 0; rw [tg_57 (by decide)]; exact h71 j hj⟩ (fun n a ha => ?_) (fun n i a hi ha ih => ?_)
  · unfold wpX11_isLike_b22 wpX11_isLike_b22_body wpX11_isLike_b67
    exact ⟨fun _ => ⟨Or.inr rfl, hk _ _ ha.1 ha.2.1⟩, fun hc => absurd (Int32.le_refl _) hc⟩
  · unfold wpX11_isLike_b22 wpX11_isLike_b22_body wpX11_isLike_b60
    have e1 : (upd a.1 45 0) 41 = 0 := by simp [upd_r]; exact ha.1.2.2.2.2.2.1
    have e2 : (upd a.1 45 0) 42 = 0 := by simp [upd_r]; exact ha.1.2.2.2.2.2.2.1
    refine ⟨fun hc => absurd hc (nI_ge hi (by omega)), fun _ => ⟨fun hc => absurd hc (by decide), fun _ => m_pulls0 ha.1 ⟨vin (by omega) (by decide), fun hc => absurd ?_ hc, fun _ => ?_⟩⟩⟩
    · show a.2 71 (ix (nI i)) = 4 * (upd a.1 45 0) 41 + (upd a.1 45 0) 42
      rw [e1, e2, ix_nI (by omega), ha.2.2 i hi]
      rfl
    · rw [nI_1]
      exact ih (_, _) ⟨Fq_u ha.1 (by decide), ha.2.1, ha.2.2⟩
theorem m_suspect {f : Nat → Int32} {g : Nat → Nat → Int32} {K : mS → Prop} {t : Nat} (ht : t ≤ 500) (h : Fq f g) (hk : ∀ f' g', f' 72 = 0 → f' 73 = 0 → K (f', g')) : wpX11_suspect f g (nI t) K := by
  unfold wpX11_suspect wpX11_suspect_b0
  refine m_putsA 4 480 rfl (by decide) ?_
  unfold wpX11_isSound wpX11_isSound_b0
  refine m_layLike ht (Fq_ps h) (Sq_ps h) (fun f1 g1 a1 a2 a3 => ?_)
  refine m_isLike ht ?_ a2 a3 (fun f2 g2 b1 b2 => ?_)
  · obtain ⟨c1, c2, c3, c4, c5, c6, c7, c8, c9, c10⟩ := a1
    refine ⟨?_, ?_, ?_, ?_, ?_, ?_, ?_, ?_, ?_, c10⟩ <;> simp [upd_r, c1, c2, c3, c4, c5, c6, c7]
  · refine m_takesA 4 480 rfl (by decide) ⟨Or.inr rfl, ⟨fun hc => absurd hc (by decide), fun _ => ?_⟩⟩
    exact hk _ _ rfl rfl
theorem m_suspects {K : Int32 → mS → Prop} {x y : Int32} (hk : ∀ u, K (if (1 ≤ x ∧ x ≤ 500) ∧ 0 ≤ y ∧ y ≤ 1 then 0 else -1) u) : wpX11_suspects mf1 mg1 x y K := by
  unfold wpX11_suspects wpX11_suspects_b0 wpX11_suspects_b25 wpX11_suspects_b47
  refine m_isIn (fun h1 h2 => ⟨fun hc => absurd hc (by decide), fun _ => ?_⟩) (fun h => ⟨fun _ => ?_, fun hc => absurd rfl hc⟩)
  · refine m_isIn (fun h3 h4 => ⟨fun _ => ?_, fun hc => absurd hc (by decide)⟩) (fun h => ⟨fun hc => absurd rfl hc, fun _ => ?_⟩)
    · rw [if_pos ⟨⟨h1, h2⟩, h3, h4⟩] at hk
      obtain ⟨j, hj, rfl⟩ := i_mid (n := 500) rfl (Int32.le_trans (by decide) h1) h2
      refine m_suspect hj (Fq_u Fq_1 (by decide)) (fun f' g' e1 e2 => ⟨fun _ => ?_, fun _ => ?_⟩)
      · rw [show ((f', g') : mS).1 73 = 0 from e2]; exact hk _
      · rw [show ((f', g') : mS).1 72 = 0 from e1]; exact hk _
    · rw [if_neg (fun hc => h.elim (Int32.not_lt.mpr hc.2.1) (Int32.not_lt.mpr hc.2.2))] at hk; exact hk _
  · rw [if_neg (fun hc => h.elim (Int32.not_lt.mpr hc.1.1) (Int32.not_lt.mpr hc.1.2))] at hk; exact hk _
theorem m_many0 {K : Int32 → Unit → Prop} (hk : K 0 ()) : wpX11_manyOf 0 K := by
  unfold wpX11_manyOf wpX11_manyOf_b0
  refine lpi (w := fun n (_ : Unit) x => wpX11_manyOf_b4 n 0 0 x K) (fun _ _ => True) 20 trivial (fun n _ _ => ?_) (fun n i _ hi _ ih => ?_) (a0 := ())
  · unfold wpX11_manyOf_b4 wpX11_manyOf_b4_body
    exact ⟨fun _ => hk, fun hc => absurd (Int32.le_refl _) hc⟩
  · unfold wpX11_manyOf_b4 wpX11_manyOf_b4_body
    refine ⟨fun hc => absurd hc (nI_ge hi (by decide)), fun _ => ?_⟩
    have e : ∀ i, i < 20 → (0 : Int32) + (jshr 0 (nI i) &&& 1) = 0 := by decide
    rw [e i hi, nI_1]
    exact ih () trivial
theorem m_trial {K : Int32 → mS → Prop} {x y : Int32} (hk : ∀ u, K (-1) u) : wpX11_trial mf1 mg1 x y K := by
  unfold wpX11_trial wpX11_trial_b0 wpX11_trial_b25
  refine m_isIn (fun h1 h2 => ⟨fun hc => absurd hc (by decide), fun _ => ?_⟩) (fun h => ⟨fun _ => hk _, fun hc => absurd rfl hc⟩)
  refine m_isIn (fun h3 h4 => ⟨fun _ => ?_, fun hc => absurd hc (by decide)⟩) (fun h => ⟨fun hc => absurd rfl hc, fun _ => hk _⟩)
  obtain ⟨j, hj, rfl⟩ := i_mid (n := 500) rfl (Int32.le_trans (by decide) h1) h2
  refine m_suspect hj (Fq_u Fq_1 (by decide)) (fun f' g' e1 e2 => ?_)
  rw [show ((f', g') : mS).1 72 = 0 from e1, show ((f', g') : mS).1 73 = 0 from e2]
  exact m_many0 (m_many0 ⟨fun hc => absurd hc (by decide), fun _ => hk _⟩)
/-- the ways told aside, the first i squares -/
theorem m_same {K : Int32 → mS → Prop} {x : Int32} (hk : ∀ u, K (if 1 ≤ x ∧ x ≤ 500 then 0 else -1) u) : wpX11_same mf1 mg1 x K := by
  unfold wpX11_same wpX11_same_b0
  refine m_isIn (fun h1 h2 => ⟨fun _ => ?_, fun hc => absurd hc (by decide)⟩) (fun h => ⟨fun hc => absurd rfl hc, fun _ => ?_⟩)
  · rw [if_pos ⟨h1, h2⟩] at hk
    obtain ⟨t, ht, rfl⟩ := i_mid (n := 500) rfl (Int32.le_trans (by decide) h1) h2
    have F1 : Fq (upd mf1 2 0) mg1 := Fq_u Fq_1 (by decide)
    refine m_putsA 4 480 rfl (by decide) ?_
    refine m_putsA 5 600 rfl (by decide) ?_
    refine m_putsA 6 720 rfl (by decide) ?_
    have F2 : Fq (upd (upd mf1 2 0) 45 ((upd mf1 2 0) 49 &&& (upd mf1 2 0) 50)) (ps (upd mf1 2 0) mg1 (480) 36) := Fq_ps (Fq_u F1 (by decide))
    have S4 : Sq (ps (upd mf1 2 0) mg1 (480) 36) 480 := Sq_ps F1
    refine lpi (w := fun n (a : mS) x => wpX11_same_b51 n a.1 a.2 (nI t) 0 (x + 1) K) (a0 := (_, _)) (fun i a => Fq a.1 a.2 ∧ Sq a.2 600 ∧ Sq a.2 720) t ⟨Fq_ps (Fq_ps F2), Sq_po (by decide) (Sq_ps F2), Sq_ps (Fq_ps F2)⟩ (fun n a ha => ?_) (fun n i a hi ha ih => ?_)
    · show wpX11_same_b51 (n + 1) a.1 a.2 (nI t) 0 (nI t + 1) K
      rw [nI_1]
      unfold wpX11_same_b51 wpX11_same_b51_body wpX11_same_b224
      refine ⟨fun _ => m_takesA 4 480 rfl (by decide) (hk _), fun hc => absurd (nI_lt (Nat.lt_succ_self t) (by omega)) hc⟩
    · show wpX11_same_b51 (n + 1) a.1 a.2 (nI t) 0 (nI i + 1) K
      rw [nI_1]
      unfold wpX11_same_b51 wpX11_same_b51_body
      refine ⟨fun hc => absurd hc (nI_nlt (by omega) (by omega)), fun _ => ⟨fun hc => absurd rfl hc, fun _ => ?_⟩⟩
      refine m_takesA 5 600 rfl (by decide) ?_
      have G1 : Fq (tf a.1 a.2 600) (tg a.2 600 36) := Fq_t ha.1 ha.2.1
      refine m_pulls0 G1 ?_
      have G2 : Fq (upd (tf a.1 a.2 600) 45 0) (tg a.2 600 36) := Fq_u G1 (by decide)
      refine m_putsA 5 600 rfl (by decide) ?_
      have G3 : Fq (upd (tf a.1 a.2 600) 45 0) (ps (upd (tf a.1 a.2 600) 45 0) (tg a.2 600 36) 600 36) := Fq_ps G2
      have S5 : Sq (ps (upd (tf a.1 a.2 600) 45 0) (tg a.2 600 36) 600 36) 600 := Sq_ps G2
      have S6 : Sq (ps (upd (tf a.1 a.2 600) 45 0) (tg a.2 600 36) 600 36) 720 := Sq_po (by decide) (Sq_tg ha.2.2)
      dsimp only
      rw [G2.2.2.2.2.2.1, G2.2.2.2.2.2.2.1]
      generalize upd (tf a.1 a.2 600) 45 0 = f1 at G3 S5 S6 ⊢
      generalize ps f1 (tg a.2 600 36) 600 36 = g1 at G3 S5 S6 ⊢
      refine lpi (w := fun m g x => wpX11_same_b90 _ m f1 g (nI t) (nI (i + 1)) (4 * 0 + 0) x K) (fun j g => Fq f1 g ∧ Sq g 600 ∧ Sq g 720 ∧ ∀ s, s < j → g 70 s = 0) 25 ⟨G3, S5, S6, fun s hs => absurd hs (Nat.not_lt_zero s)⟩ (fun m g hg => ?_) (fun m j g hj hg ih2 => ?_)
      · unfold wpX11_same_b90 wpX11_same_b90_body wpX11_squares wpX11_squares_b0
        rw [hg.1.2.2.1, hg.1.2.2.2.1]
        refine ⟨fun _ => ?_, fun hc => absurd (by decide) hc⟩
        refine m_takesA 6 720 rfl (by decide) ?_
        have T1 : Fq (tf f1 g 720) (tg g 720 36) := Fq_t hg.1 hg.2.2.1
        refine m_ticks T1.1 ?_
        refine m_putsA 6 720 rfl (by decide) ?_
        have T2 : Fq (tf f1 g 720) (ps (tf f1 g 720) (tg g 720 36) 720 36) := Fq_ps T1
        have U5 : Sq (ps (tf f1 g 720) (tg g 720 36) 720 36) 600 := Sq_po (by decide) (Sq_tg hg.2.1)
        have U6 : Sq (ps (tf f1 g 720) (tg g 720 36) 720 36) 720 := Sq_ps T1
        have U7 : ∀ s, s < 25 → ps (tf f1 g 720) (tg g 720 36) 720 36 70 s = 0 := fun s hs => by
          rw [ps_k (by decide), tg_57 (by decide)]; exact hg.2.2.2 s hs
        have e : 4 * (tf f1 g 720) 41 + (tf f1 g 720) 42 = (4 * 0 + 0 : Int32) := by rw [T1.2.2.2.2.2.1, T1.2.2.2.2.2.2.1]
        refine ⟨fun _ => ?_, fun hc => absurd e hc⟩
        unfold wpX11_same_b158
        dsimp only
        generalize ps (tf f1 g 720) (tg g 720 36) 720 36 = g2 at T2 U5 U6 U7 ⊢
        generalize tf f1 g 720 = f2 at T2 ⊢
        refine lpi (w := fun m (_ : Unit) x => wpX11_same_b163 _ m f2 g2 (nI t) (nI (i + 1)) 0 x K) (fun _ _ => True) 25 trivial (fun m _ _ => ?_) (fun m j _ hj _ ih3 => ?_) (a0 := ())
        · unfold wpX11_same_b163 wpX11_same_b163_body wpX11_squares wpX11_squares_b0 wpX11_same_b217
          rw [T2.2.2.1, T2.2.2.2.1]
          refine ⟨fun _ => ⟨fun _ => ?_, fun hc => absurd rfl hc⟩, fun hc => absurd (by decide) hc⟩
          exact ih (f2, g2) ⟨T2, U5, U6⟩
        · unfold wpX11_same_b163 wpX11_same_b163_body wpX11_squares wpX11_squares_b0 wpX11_same_b199
          rw [T2.2.2.1, T2.2.2.2.1]
          refine ⟨fun hc => absurd hc (nI_ge (b := 25) hj (by decide)), fun _ => ⟨fun hc => absurd rfl hc, fun _ => ⟨vin (by omega) (by decide), vin (by omega) (by decide), fun _ => ?_, fun hc => absurd ?_ hc⟩⟩⟩
          · rw [nI_1]
            exact ih3 () trivial
          · show g2 47 (ix (nI j)) = g2 70 (ix (nI j))
            rw [ix_nI (by omega), U7 j hj]
            exact T2.2.2.2.2.2.2.2.2.2.2.2.2 j
      · unfold wpX11_same_b90 wpX11_same_b90_body wpX11_squares wpX11_squares_b0
        rw [hg.1.2.2.1, hg.1.2.2.2.1]
        refine ⟨fun hc => absurd hc (nI_ge (b := 25) hj (by decide)), fun _ => ⟨vin (by omega) (by decide), vin (by omega) (by decide), ?_⟩⟩
        rw [nI_1, ix_nI (by omega)]
        refine ih2 _ ⟨Fq_p hg.1 (by decide), Sq_p hg.2.1 (by decide), Sq_p hg.2.2.1 (by decide), fun s hs => ?_⟩
        show pt g 70 j (g 47 j) 70 s = 0
        rw [pt_r, if_pos rfl]
        by_cases hsj : s = j
        · rw [if_pos hsj]; exact hg.1.2.2.2.2.2.2.2.2.2.2.2.2 j
        · rw [if_neg hsj]; exact hg.2.2.2 s (by omega)
  · rw [if_neg (fun hc => h.elim (Int32.not_lt.mpr hc.1) (Int32.not_lt.mpr hc.2))] at hk; exact hk _
