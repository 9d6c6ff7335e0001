/-! The law on a script of one call at most. -/
noncomputable def rwv (x d on : Int32) : Int32 := @ite _ (∃ s t : Nat, s < 25 ∧ t < 4 ∧ x = nI s ∧ d = nI t ∧ rim5 s t = false) (Classical.propDecidable _) on 0
theorem rwv_1 {x d on : Int32} {s t : Nat} (hs : s < 25) (ht : t < 4) (ex : x = nI s) (ed : d = nI t) (h : rim5 s t = false) : rwv x d on = on := by
  unfold rwv
  exact if_pos ⟨s, t, hs, ht, ex, ed, h⟩
theorem rwv_2 {x d on : Int32} {s t : Nat} (hs : s < 25) (ht : t < 4) (ex : x = nI s) (ed : d = nI t) (h : rim5 s t = true) : rwv x d on = 0 := by
  unfold rwv
  refine if_neg ?_
  rintro ⟨s', t', hs', ht', ex', ed', h'⟩
  have e1 : s = s' := (nI_eq (by omega) (by omega)).mp (ex.symm.trans ex')
  have e2 : t = t' := (nI_eq (by omega) (by omega)).mp (ed.symm.trans ed')
  rw [e1, e2, h'] at h
  cases h
theorem rwv_0 {x d on : Int32} (h : (x < 0 ∨ (25 : Int32) ≤ x) ∨ (d < 0 ∨ (4 : Int32) ≤ d)) : rwv x d on = 0 := by
  unfold rwv
  refine if_neg ?_
  rintro ⟨s', t', hs', ht', rfl, rfl, h'⟩
  have p1 : ∀ s, s < 25 → ¬ (nI s < 0 ∨ (25 : Int32) ≤ nI s) := by decide
  have p2 : ∀ s, s < 4 → ¬ (nI s < 0 ∨ (4 : Int32) ≤ nI s) := by decide
  rcases h with h | h
  · exact p1 s' hs' h
  · exact p2 t' ht' h
theorem x_wallv {K : Int32 → cS → Prop} {x d on : Int32} (hon : isB on) (hk : ∀ u, K (rwv x d on) u) : wpX10_wall cF0 cL0 cr0 x d on K :=
  x_wall hon (fun s t hs ht ex ed h u => by have := hk u; rw [rwv_1 hs ht ex ed h] at this; exact this) (fun s t hs ht ex ed h u => by have := hk u; rw [rwv_2 hs ht ex ed h] at this; exact this) (fun h u => by have := hk u; rw [rwv_0 h] at this; exact this)
theorem m_wallv {K : Int32 → mS → Prop} {x d on : Int32} (hon : isB on) (hk : ∀ u, K (rwv x d on) u) : wpX11_wall mf1 mg1 x d on K :=
  m_wall hon (fun s t hs ht ex ed h u => by have := hk u; rw [rwv_1 hs ht ex ed h] at this; exact this) (fun s t hs ht ex ed h u => by have := hk u; rw [rwv_2 hs ht ex ed h] at this; exact this) (fun h u => by
    have := hk u
    rw [rwv_0 (h.imp id (fun h => h.imp id (fun h => by
      rw [Int32.lt_iff_toInt_lt] at h
      rw [Int32.le_iff_toInt_le]
      have e3 : (3 : Int32).toInt = 3 := rfl
      have e4 : (4 : Int32).toInt = 4 := rfl
      omega)))] at this
    exact this)
theorem x_lookX {K : Int32 → cS → Prop} {KX : String → cS → Prop} {x y : Int32} (hk : ∀ s : Nat, s < 25 → x = nI s → (y = 0 → ∀ u, K 0 u) ∧ (y = 1 → ∀ u, K 0 u) ∧ (y = 2 → ∀ u, K (W5 s) u) ∧ (y = 3 → ∀ u, K (D5.getD s 0) u) ∧ ((y.toInt < 0 ∨ 3 < y.toInt) → ∀ u, KX XN u)) (hk0 : (x < 0 ∨ (25 : Int32) ≤ x) → ∀ u, KX XI u) : wpX10_lookX cF0 cL0 cr0 x y K KX := by
  unfold wpX10_lookX
  refine x_has (fun h1 h2 => ⟨fun _ => ?_, fun hc => absurd hc (by decide)⟩) (fun h => ⟨fun hc => absurd rfl hc, fun _ => hk0 h _⟩)
  obtain ⟨s, hs, rfl⟩ := i_sq (n := 25) rfl h1 h2
  obtain ⟨a, b, c, d, e⟩ := hk s hs rfl
  exact ⟨fun h => x_way0 hs rfl rfl (a h _), fun h => x_yes0 hs (fun _ => rfl) (b h _), fun h => x_wallsOf hs (c h _), fun h => x_far hs (d h _), fun h => e h _⟩
theorem lg_self (v : Int64) : lg_cmp v v = 0 := by unfold lg_cmp; simp
set_option maxHeartbeats 4000000 in
theorem law1 {N : Nat} {xs : Nat → Int32} {ou : Nat → Int64} (hN : N ≤ 6) : ∃ n, n ≤ 2 ∧ wpL_lawX_b23 N xs n cF0 cL0 cr0 mf1 mg1 ou 0 (fun r _ => r = 1) := by
  refine ⟨2, Nat.le_refl _, ?_⟩
  unfold wpL_lawX_b23 wpL_lawX_b23_body
  refine ⟨fun _ => rfl, fun h6 => ?_⟩
  have hN6 : N = 6 := by
    match N, hN with
    | 0, _ => exact absurd (by decide) h6
    | 1, _ => exact absurd (by decide) h6
    | 2, _ => exact absurd (by decide) h6
    | 3, _ => exact absurd (by decide) h6
    | 4, _ => exact absurd (by decide) h6
    | 5, _ => exact absurd (by decide) h6
    | 6, _ => rfl
  subst hN6
  have v0 : vp_in (0 : Int32) 6 := by unfold vp_in; decide
  have v1 : vp_in ((0 : Int32) + 1) 6 := by unfold vp_in; decide
  have v2 : vp_in ((0 : Int32) + 2) 6 := by unfold vp_in; decide
  have v3 : vp_in ((0 : Int32) + 3) 6 := by unfold vp_in; decide
  have v4 : vp_in ((0 : Int32) + 4) 6 := by unfold vp_in; decide
  have v5 : vp_in ((0 : Int32) + 5) 6 := by unfold vp_in; decide
  have w0 : vp_in (0 : Int32) 1 := by unfold vp_in; decide
  have hb : ∀ F L r f g ou', wpL_lawX_b1182 (fun F L r f g ou x4 => wpL_lawX_b23 6 xs 1 F L r f g ou x4 (fun r _ => r = 1)) 6 xs F L r f g ou' 0 (fun r _ => r = 1) := fun F L r f g ou' => by
    unfold wpL_lawX_b1182 wpL_lawX_b23 wpL_lawX_b23_body
    exact ⟨fun _ => rfl, fun hc => absurd (by decide) hc⟩
  refine ⟨v0, fun _ => ?_, fun _ => ?_, fun _ => ?_, fun _ => ?_, fun _ => ?_, fun _ => ?_, fun _ => ?_, fun _ => ?_, fun _ => ?_, fun _ => ?_, fun _ => ?_, fun _ => ?_, fun _ => ?_, fun _ => ?_, fun _ => ?_, fun _ => ?_, fun _ => ?_, fun _ => ?_, fun _ => ?_, fun _ => ?_, fun _ => ?_, fun _ => ?_, fun _ => ?_, fun _ => ?_, fun _ => ?_, fun _ => ?_, fun _ => ?_, fun _ => ?_, fun _ => ?_, fun _ => ?_, fun _ => ?_, fun _ => hb _ _ _ _ _ _⟩
  · exact ⟨v1, v2, v3, v4, v5, x_feed (fun _ => ⟨v1, v2, v3, v4, v5, m_feed rfl (fun _ => ⟨fun _ => hb _ _ _ _ _ _, fun hc => absurd rfl hc⟩)⟩)⟩
  · exact ⟨v1, x_rules (fun _ => ⟨v1, m_rules rfl (fun _ => ⟨fun _ => hb _ _ _ _ _ _, fun hc => absurd rfl hc⟩)⟩)⟩
  · exact ⟨v1, x_net (fun _ => ⟨v1, m_net rfl (fun _ => ⟨fun _ => hb _ _ _ _ _ _, fun hc => absurd rfl hc⟩)⟩)⟩
  · exact ⟨v1, x_fault (fun _ => ⟨v1, m_fault (fun _ => ⟨fun _ => hb _ _ _ _ _ _, fun hc => absurd rfl hc⟩)⟩)⟩
  · exact ⟨v1, v2, x_floor (fun _ => ⟨v1, v2, m_floor (fun _ => ⟨fun _ => hb _ _ _ _ _ _, fun hc => absurd rfl hc⟩)⟩)⟩
  · have hB : ∀ on : Int32, isB on → (xs (ix ((0 : Int32) + 3)) = 0 → on = 0) → (¬ xs (ix ((0 : Int32) + 3)) = 0 → on = 1) → wpL_lawX_b392 (fun F L r f g ou x4 => wpL_lawX_b23 6 xs 1 F L r f g ou x4 (fun r _ => r = 1)) 6 xs cF0 cL0 cr0 mf1 mg1 ou (xs (ix ((0 : Int32) + 1))) (xs (ix ((0 : Int32) + 2))) on 0 (fun r _ => r = 1) := fun on hon h0 h1 => by
      unfold wpL_lawX_b392
      refine x_wallv hon (fun u => ⟨v1, v2, v3, fun e => ?_, fun e => ?_⟩)
      · unfold wpL_lawX_b422
        rw [h0 e]
        exact m_wallv (Or.inl rfl) (fun _ => ⟨fun _ => hb _ _ _ _ _ _, fun hc => absurd rfl hc⟩)
      · unfold wpL_lawX_b422
        rw [h1 e]
        exact m_wallv (Or.inr rfl) (fun _ => ⟨fun _ => hb _ _ _ _ _ _, fun hc => absurd rfl hc⟩)
    exact ⟨v1, v2, v3, fun e => hB 0 (Or.inl rfl) (fun _ => rfl) (fun hc => absurd e hc), fun e => hB 1 (Or.inr rfl) (fun hc => absurd hc e) (fun _ => rfl)⟩
  · exact ⟨v1, x_bell (fun _ => ⟨v1, m_bell (fun _ => ⟨fun _ => hb _ _ _ _ _ _, fun hc => absurd rfl hc⟩)⟩)⟩
  · exact ⟨v1, v2, x_lift (fun _ => ⟨v1, v2, m_lift (fun _ => ⟨fun _ => hb _ _ _ _ _ _, fun hc => absurd rfl hc⟩)⟩)⟩
  · exact x_wipe (fun _ => m_wipe (fun _ => ⟨fun _ => hb _ _ _ _ _ _, fun hc => absurd rfl hc⟩))
  · exact ⟨v1, x_tick (fun _ => ⟨v1, m_tick rfl (fun _ => ⟨fun _ => hb _ _ _ _ _ _, fun hc => absurd rfl hc⟩)⟩)⟩
  · exact ⟨v1, x_run (fun _ => ⟨v1, m_run rfl (by decide) (fun _ => ⟨fun _ => hb _ _ _ _ _ _, fun hc => absurd rfl hc⟩)⟩)⟩
  · exact ⟨v1, x_mouse (fun _ => ⟨v1, m_mouse (fun _ => ⟨fun _ => hb _ _ _ _ _ _, fun hc => absurd rfl hc⟩)⟩)⟩
  · refine ⟨v1, v2, ?_⟩
    have h645 : ∀ F L r f g ou', wpL_lawX_b645 (fun F L r f g ou x4 => wpL_lawX_b23 6 xs 1 F L r f g ou x4 (fun r _ => r = 1)) 6 xs F L r f g ou' 0 (fun r _ => r = 1) := fun F L r f g ou' => hb F L r f g ou'
    have p1 : ∀ s, s < 25 → ¬ (nI s < 0 ∨ (25 : Int32) ≤ nI s) := by decide
    have p2 : ∀ v : Int32, (vp_updL ou 0 v.toInt64) (ix (0 : Int32)) = v.toInt64 := fun v => rfl
    refine x_lookX (fun s hs ex => ⟨fun ey u => ⟨v1, v2, ?_⟩, fun ey u => ⟨v1, v2, ?_⟩, fun ey u => ⟨v1, v2, ?_⟩, fun ey u => ⟨v1, v2, ?_⟩, fun ey u => Or.inr ⟨rfl, ⟨v1, v2, ?_⟩⟩⟩) (fun h u => Or.inl ⟨rfl, ⟨v1, v2, ?_⟩⟩)
    · refine m_look (fun s' hs' ex' => ?_) (fun h' => absurd (ex ▸ h') (p1 s hs))
      have es : s = s' := (nI_eq (by omega) (by omega)).mp (ex.symm.trans ex')
      subst es
      refine ⟨fun e u' hu => ?_, fun e u' hu => ?_, fun e u' hu => ?_, fun e u' hu => ?_, fun e u' hu => ?_⟩
      · unfold wpX11_thrown wpX11_thrown_b0
        dsimp only
        rw [hu]
        exact ⟨fun _ => ⟨fun hc => absurd rfl hc, fun _ => ⟨w0, fun _ => h645 _ _ _ _ _ _, fun hc => absurd (by rw [p2]; exact lg_self _) hc⟩⟩, fun hc => absurd rfl hc⟩
      · exact absurd (ey.symm.trans e) (by decide)
      · exact absurd (ey.symm.trans e) (by decide)
      · exact absurd (ey.symm.trans e) (by decide)
      · rw [ey] at e; exact absurd e (by decide)
    · refine m_look (fun s' hs' ex' => ?_) (fun h' => absurd (ex ▸ h') (p1 s hs))
      have es : s = s' := (nI_eq (by omega) (by omega)).mp (ex.symm.trans ex')
      subst es
      refine ⟨fun e u' hu => ?_, fun e u' hu => ?_, fun e u' hu => ?_, fun e u' hu => ?_, fun e u' hu => ?_⟩
      · exact absurd (ey.symm.trans e) (by decide)
      · unfold wpX11_thrown wpX11_thrown_b0
        dsimp only
        rw [hu]
        exact ⟨fun _ => ⟨fun hc => absurd rfl hc, fun _ => ⟨w0, fun _ => h645 _ _ _ _ _ _, fun hc => absurd (by rw [p2]; exact lg_self _) hc⟩⟩, fun hc => absurd rfl hc⟩
      · exact absurd (ey.symm.trans e) (by decide)
      · exact absurd (ey.symm.trans e) (by decide)
      · rw [ey] at e; exact absurd e (by decide)
    · refine m_look (fun s' hs' ex' => ?_) (fun h' => absurd (ex ▸ h') (p1 s hs))
      have es : s = s' := (nI_eq (by omega) (by omega)).mp (ex.symm.trans ex')
      subst es
      refine ⟨fun e u' hu => ?_, fun e u' hu => ?_, fun e u' hu => ?_, fun e u' hu => ?_, fun e u' hu => ?_⟩
      · exact absurd (ey.symm.trans e) (by decide)
      · exact absurd (ey.symm.trans e) (by decide)
      · unfold wpX11_thrown wpX11_thrown_b0
        dsimp only
        rw [hu]
        exact ⟨fun _ => ⟨fun hc => absurd rfl hc, fun _ => ⟨w0, fun _ => h645 _ _ _ _ _ _, fun hc => absurd (by rw [p2]; exact lg_self _) hc⟩⟩, fun hc => absurd rfl hc⟩
      · exact absurd (ey.symm.trans e) (by decide)
      · rw [ey] at e; exact absurd e (by decide)
    · refine m_look (fun s' hs' ex' => ?_) (fun h' => absurd (ex ▸ h') (p1 s hs))
      have es : s = s' := (nI_eq (by omega) (by omega)).mp (ex.symm.trans ex')
      subst es
      refine ⟨fun e u' hu => ?_, fun e u' hu => ?_, fun e u' hu => ?_, fun e u' hu => ?_, fun e u' hu => ?_⟩
      · exact absurd (ey.symm.trans e) (by decide)
      · exact absurd (ey.symm.trans e) (by decide)
      · exact absurd (ey.symm.trans e) (by decide)
      · unfold wpX11_thrown wpX11_thrown_b0
        dsimp only
        rw [hu]
        exact ⟨fun _ => ⟨fun hc => absurd rfl hc, fun _ => ⟨w0, fun _ => h645 _ _ _ _ _ _, fun hc => absurd (by rw [p2]; exact lg_self _) hc⟩⟩, fun hc => absurd rfl hc⟩
      · rw [ey] at e; exact absurd e (by decide)
    · refine m_look (fun s' hs' ex' => ?_) (fun h' => absurd (ex ▸ h') (p1 s hs))
      have es : s = s' := (nI_eq (by omega) (by omega)).mp (ex.symm.trans ex')
      subst es
      refine ⟨fun e u' hu => ?_, fun e u' hu => ?_, fun e u' hu => ?_, fun e u' hu => ?_, fun e u' hu => ?_⟩
      · rw [e] at ey; exact absurd ey (by decide)
      · rw [e] at ey; exact absurd ey (by decide)
      · rw [e] at ey; exact absurd ey (by decide)
      · rw [e] at ey; exact absurd ey (by decide)
      · unfold wpX11_thrown wpX11_thrown_b0
        dsimp only
        rw [hu]
        exact ⟨fun _ => ⟨fun _ => h645 _ _ _ _ _ _, fun hc => absurd hc (by decide)⟩, fun hc => absurd rfl hc⟩
    · refine m_look (fun s' hs' ex' => absurd (ex' ▸ h) (p1 s' hs')) (fun h' u' hu => ?_)
      unfold wpX11_thrown wpX11_thrown_b0
      dsimp only
      rw [hu]
      exact ⟨fun _ => ⟨fun _ => h645 _ _ _ _ _ _, fun hc => absurd hc (by decide)⟩, fun hc => absurd rfl hc⟩
  · exact ⟨v1, x_comes (fun _ => ⟨v1, m_comes (fun _ => ⟨fun _ => hb _ _ _ _ _ _, fun hc => absurd rfl hc⟩)⟩)⟩
  · exact ⟨v1, v2, x_second (fun _ => ⟨v1, v2, m_second (fun _ => ⟨fun _ => hb _ _ _ _ _ _, fun hc => absurd rfl hc⟩)⟩)⟩
  · exact ⟨v1, v2, v3, x_held (fun _ => ⟨v1, v2, v3, m_held (fun _ => ⟨fun _ => hb _ _ _ _ _ _, fun hc => absurd rfl hc⟩)⟩)⟩
  · exact ⟨v1, v2, v3, x_longest (fun _ => ⟨v1, v2, v3, m_longest (fun _ => ⟨fun _ => hb _ _ _ _ _ _, fun hc => absurd rfl hc⟩)⟩)⟩
  · exact ⟨v1, v2, v3, x_needs (fun _ => ⟨v1, v2, v3, m_needs (fun _ => ⟨fun _ => hb _ _ _ _ _ _, fun hc => absurd rfl hc⟩)⟩)⟩
  · exact ⟨v1, x_knows (fun _ => ⟨v1, m_knows (fun _ => ⟨fun _ => hb _ _ _ _ _ _, fun hc => absurd rfl hc⟩)⟩)⟩
  · exact ⟨v1, x_pull (fun _ => ⟨v1, m_pull (fun _ => ⟨fun _ => hb _ _ _ _ _ _, fun hc => absurd rfl hc⟩)⟩)⟩
  · exact ⟨v1, x_pullRun (fun _ => ⟨v1, m_pullRun (fun _ => ⟨fun _ => hb _ _ _ _ _ _, fun hc => absurd rfl hc⟩)⟩)⟩
  · exact x_relays (fun _ => m_relays (fun _ => ⟨fun _ => hb _ _ _ _ _ _, fun hc => absurd rfl hc⟩))
  · exact x_race (fun _ => m_race (fun _ => ⟨fun _ => hb _ _ _ _ _ _, fun hc => absurd rfl hc⟩))
  · exact ⟨v1, v2, x_stick (fun _ => ⟨v1, v2, m_stick (fun _ => ⟨fun _ => hb _ _ _ _ _ _, fun hc => absurd rfl hc⟩)⟩)⟩
  · exact x_stuck (fun _ => m_stuck (fun _ => ⟨fun _ => hb _ _ _ _ _ _, fun hc => absurd rfl hc⟩))
  · exact ⟨v1, x_same (fun _ => ⟨v1, m_same (fun _ => ⟨fun _ => hb _ _ _ _ _ _, fun hc => absurd rfl hc⟩)⟩)⟩
  · exact ⟨v1, v2, x_suspects (fun _ => ⟨v1, v2, m_suspects (fun _ => ⟨fun _ => hb _ _ _ _ _ _, fun hc => absurd rfl hc⟩)⟩)⟩
  · exact ⟨v1, v2, x_trial (fun _ => ⟨v1, v2, m_trial (fun _ => ⟨fun _ => hb _ _ _ _ _ _, fun hc => absurd rfl hc⟩)⟩)⟩
  · exact ⟨v1, x_keep (fun _ => ⟨v1, m_keep (fun _ => ⟨fun _ => hb _ _ _ _ _ _, fun hc => absurd rfl hc⟩)⟩)⟩
  · exact ⟨v1, x_restore (fun _ => ⟨v1, m_restore (fun _ => ⟨fun _ => hb _ _ _ _ _ _, fun hc => absurd rfl hc⟩)⟩)⟩
  · exact ⟨v1, x_count (fun _ => ⟨v1, m_count (fun _ => ⟨fun _ => hb _ _ _ _ _ _, fun hc => absurd rfl hc⟩)⟩)⟩
