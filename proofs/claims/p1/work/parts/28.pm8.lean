/-! small floors -/
def vatw (w h k : Int32) : Int32 := if h * (w - 1) ≤ k then 4 * (k - h * (w - 1)) + 2 else 4 * (k / (w - 1) * w + jrem k (w - 1)) + 1
/-- the walls of a plain small floor, beyond it those of the first floor -/
def pw0 (w n : Nat) : Nat → Int32 := fun s => if s < n then pv (nI w) (nI n) (nI s) else W5 s
def Sm (w h n M : Nat) : Prop := (nI w * nI h = nI n ∧ n ≤ 9 ∧ 4 ≤ n ∧ M ≤ 12 ∧ ¬ nI w = 0 ∧ ¬ nI w - 1 = 0 ∧ nI h * (nI w - 1) + nI w * (nI h - 1) = nI M ∧ jshl 1 (nI M) = nI (2 ^ M)) ∧
  (∀ k, k < M → vp_in (vatw (nI w) (nI h) (nI k) / 4) 36 ∧ vp_in (aV (nI w) (vatw (nI w) (nI h) (nI k) / 4) (jrem (vatw (nI w) (nI h) (nI k)) 4)) 36 ∧ (jrem (vatw (nI w) (nI h) (nI k)) 4 = 1 ∨ jrem (vatw (nI w) (nI h) (nI k)) 4 = 2)) ∧
  OKW (pw0 w n) (nI w) n ∧ ¬ (bz (pw0 w n) (nI w) (b0 (n - 1) (fun _ => 0) (fun _ => 0)) n).1 0 = -1
theorem Sm22 : Sm 2 2 4 4 := ⟨by decide, by unfold vp_in; decide, by unfold OKW; decide +kernel, by decide +kernel⟩
theorem Sm23 : Sm 2 3 6 7 := ⟨by decide, by unfold vp_in; decide, by unfold OKW; decide +kernel, by decide +kernel⟩
theorem Sm32 : Sm 3 2 6 7 := ⟨by decide, by unfold vp_in; decide, by unfold OKW; decide +kernel, by decide +kernel⟩
theorem Sm33 : Sm 3 3 9 12 := ⟨by decide, by unfold vp_in; decide, by unfold OKW; decide +kernel, by decide +kernel⟩
/-- four bits -/
def W16 (wl : Nat → Int32) : Prop := ∀ s, s < 36 → ∃ v, v < 16 ∧ wl s = nI v
theorem or16 : (List.range 16).all (fun a => (List.range 16).all fun b => (List.range 4).all fun d => !(jshr (nI a) (nI d) &&& 1 == 1) || (jshr (nI a ||| nI b) (nI d) &&& 1 == 1)) = true := by decide +kernel
theorem or16' : (List.range 16).all (fun a => (List.range 16).all fun b => (nI a ||| nI b == nI (a ||| b)) && decide (a ||| b < 16)) = true := by decide +kernel
theorem or_b {a b d : Nat} (ha : a < 16) (hb : b < 16) (hd : d < 4) (h : jshr (nI a) (nI d) &&& 1 = 1) : jshr (nI a ||| nI b) (nI d) &&& 1 = 1 := by
  have h1 := List.all_eq_true.mp or16 a (List.mem_range.mpr ha)
  have h2 := List.all_eq_true.mp h1 b (List.mem_range.mpr hb)
  have h3 := List.all_eq_true.mp h2 d (List.mem_range.mpr hd)
  rw [h] at h3
  simpa using h3
theorem or_n {a b : Nat} (ha : a < 16) (hb : b < 16) : ∃ v, v < 16 ∧ nI a ||| nI b = nI v := by
  have h1 := List.all_eq_true.mp or16' a (List.mem_range.mpr ha)
  have h2 := List.all_eq_true.mp h1 b (List.mem_range.mpr hb)
  simp only [Bool.and_eq_true, decide_eq_true_eq, beq_iff_eq] at h2
  exact ⟨_, h2.2, h2.1⟩
theorem pv16 (w n x : Int32) : ∃ v, v < 16 ∧ pv w n x = nI v := by
  unfold pv
  by_cases h1 : w ≤ x <;> by_cases h2 : jrem x w = w - 1 <;> by_cases h3 : x < n - w <;> by_cases h4 : jrem x w = 0 <;> simp only [h1, h2, h3, h4, if_true, if_false]
  all_goals first | exact ⟨0, by decide, rfl⟩ | exact ⟨1, by decide, rfl⟩ | exact ⟨2, by decide, rfl⟩ | exact ⟨3, by decide, rfl⟩ | exact ⟨4, by decide, rfl⟩ | exact ⟨5, by decide, rfl⟩ | exact ⟨6, by decide, rfl⟩ | exact ⟨7, by decide, rfl⟩ | exact ⟨8, by decide, rfl⟩ | exact ⟨9, by decide, rfl⟩ | exact ⟨10, by decide, rfl⟩ | exact ⟨11, by decide, rfl⟩ | exact ⟨12, by decide, rfl⟩ | exact ⟨13, by decide, rfl⟩ | exact ⟨14, by decide, rfl⟩ | exact ⟨15, by decide, rfl⟩ | (split <;> first | exact ⟨0, by decide, rfl⟩ | exact ⟨1, by decide, rfl⟩ | exact ⟨2, by decide, rfl⟩ | exact ⟨3, by decide, rfl⟩ | exact ⟨4, by decide, rfl⟩ | exact ⟨5, by decide, rfl⟩ | exact ⟨6, by decide, rfl⟩ | exact ⟨7, by decide, rfl⟩ | exact ⟨8, by decide, rfl⟩ | exact ⟨9, by decide, rfl⟩ | exact ⟨10, by decide, rfl⟩ | exact ⟨11, by decide, rfl⟩ | exact ⟨12, by decide, rfl⟩ | exact ⟨13, by decide, rfl⟩ | exact ⟨14, by decide, rfl⟩ | exact ⟨15, by decide, rfl⟩)
/-- more walls: still no way out -/
theorem up_or {wl : Nat → Int32} {w : Int32} {n i b : Nat} (hi : i < 36) (hb : b < 16) (hn : n ≤ 36) (h1 : W16 wl) (h2 : OKW wl w n) : W16 (upd wl i (wl i ||| nI b)) ∧ OKW (upd wl i (wl i ||| nI b)) w n := by
  obtain ⟨v, hv, ev⟩ := h1 i hi
  refine ⟨fun s hs => ?_, fun s hs d hd hx => ?_⟩
  · rw [upd_r]
    by_cases h : s = i
    · rw [if_pos h, ev]; exact or_n hv hb
    · rw [if_neg h]; exact h1 s hs
  · rw [upd_r] at hx
    by_cases h : s = i
    · rw [if_pos h, ev] at hx
      refine h2 s hs d hd (fun hc => hx ?_)
      rw [h, ev] at hc
      exact or_b hv hb hd hc
    · rw [if_neg h] at hx
      exact h2 s hs d hd hx
theorem m_putWall1 {f : Nat → Int32} {g : Nat → Nat → Int32} {K : mS → Prop} {x d : Int32} (h1 : vp_in x 36) (h2 : vp_in (aV (f 38) x d) 36) (hk : K (f, pt (pt g 46 (ix x) (g 46 (ix x) ||| jshl 1 d)) 46 (ix (aV (f 38) x d)) ((pt g 46 (ix x) (g 46 (ix x) ||| jshl 1 d)) 46 (ix (aV (f 38) x d)) ||| jshl 1 (jrem (d + 2) 4)))) : wpX11_putWall f g x d 1 K := by
  unfold wpX11_putWall wpX11_putWall_b0
  refine m_ahead ?_
  unfold wpX11_putWall_b49 wpX11_putWall_b89
  exact ⟨fun hc => absurd hc (by decide), fun _ => ⟨h1, h1, fun hc => absurd hc (by decide), fun _ => ⟨h2, h2, hk⟩⟩⟩
theorem m_wallAtw {f : Nat → Int32} {g : Nat → Nat → Int32} {K : Int32 → mS → Prop} {x w h : Int32} (h38 : f 38 = w) (h39 : f 39 = h) (hw : ¬ w - 1 = 0) (hk : K (vatw w h x) (f, g)) : wpX11_wallAt f g x K := by
  unfold wpX11_wallAt wpX11_wallAt_b0
  unfold vatw at hk
  rw [h38, h39]
  refine ⟨fun hc => ?_, fun hc => ⟨hw, hw, ?_⟩⟩
  · rw [if_pos hc] at hk; exact hk
  · rw [if_neg hc] at hk; exact hk
def Sf (f : Nat → Int32) (w h n : Nat) : Prop := f 12 = 0 ∧ f 38 = nI w ∧ f 39 = nI h ∧ f 40 = nI (n - 1)
theorem is0 : ∀ k, k < 12 → ¬ jshr 0 (nI k) &&& 1 = 1 := by decide
theorem m_wallsBy {f : Nat → Int32} {g : Nat → Nat → Int32} {K : mS → Prop} {w h n M : Nat} {set : Int32} (S : Sm w h n M) (hf : Sf f w h n) (h16 : W16 (g 46)) (hk : ∀ g', (∀ k, k ≠ 46 → k ≠ 54 → k ≠ 55 → g' k = g k) → W16 (g' 46) → ¬ g' 54 (n - 1) = -1 → (set = 0 → g 46 = W5 → g 54 = (fun _ => 0) → g 55 = (fun _ => 0) → ¬ g' 54 0 = -1) → K (f, g')) : wpX11_wallsBy f g set K := by
  obtain ⟨⟨s1, s2, s3, s4, s5, s6, s7, s8⟩, sat, sok, sfar⟩ := S
  obtain ⟨f12, f38, f39, f40⟩ := hf
  unfold wpX11_wallsBy wpX11_wallsBy_b0
  refine m_plain (n := n) (by rw [f38, f39]; exact s1) (by omega) (by rw [f38]; exact s5) ?_
  rw [f38]
  have r46 : ∀ s, pz (nI w) (nI n) g n 46 s = if s < n then pv (nI w) (nI n) (nI s) else g 46 s := fun s => by simp [pz]
  have ok0 : OKW (pz (nI w) (nI n) g n 46) (nI w) n := fun s hs d hd hx => by
    refine sok s hs d hd (fun hc => hx ?_)
    rw [r46, if_pos hs]
    simpa [pw0, hs] using hc
  have w0 : W16 (pz (nI w) (nI n) g n 46) := fun s hs => by
    rw [r46]
    by_cases h : s < n
    · rw [if_pos h]; exact pv16 _ _ _
    · rw [if_neg h]; exact h16 s hs
  have k0 : ∀ k, k ≠ 46 → pz (nI w) (nI n) g n k = g k := fun k hk => by funext s; simp [pz, hk]
  refine lpi (w := fun m a x => wpX11_wallsBy_b6 m f a set x K) (fun i a => W16 (a 46) ∧ OKW (a 46) (nI w) n ∧ (∀ k, k ≠ 46 → a k = g k) ∧ (set = 0 → a 46 = pz (nI w) (nI n) g n 46)) M ⟨w0, ok0, k0, fun _ => rfl⟩ (fun m a ha => ?_) (fun m i a hi ha ih => ?_)
  · unfold wpX11_wallsBy_b6 wpX11_wallsBy_b6_body wpX11_wallMany wpX11_wallMany_b0
    rw [f38, f39, s7]
    refine ⟨fun _ => ?_, fun hc => absurd (Int32.le_refl _) hc⟩
    refine m_layFarA (n := n) (b := n - 1) (wl := a 46) (w := nI w) (fr := g 54) (q := g 55) (by omega) (by omega) f40 rfl f38 (ha.2.2.1 54 (by decide)) (ha.2.2.1 55 (by decide)) ha.2.1 (fun g' h1 h2 h3 => ?_)
    refine hk g' (fun k a1 a2 a3 => (h1 k a2 a3).trans (ha.2.2.1 k a1)) (by rw [h1 46 (by decide) (by decide)]; exact ha.1) h3 (fun e e46 e54 e55 => ?_)
    rw [h2 0, ha.2.2.2 e, e54, e55]
    have : pz (nI w) (nI n) g n 46 = pw0 w n := by
      funext s
      rw [r46, e46]
      rfl
    rw [this]
    exact sfar
  · unfold wpX11_wallsBy_b6 wpX11_wallsBy_b6_body wpX11_wallMany wpX11_wallMany_b0 wpX11_wallsBy_b41
    rw [f38, f39, s7]
    refine ⟨fun hc => absurd hc (nI_ge hi (by omega)), fun _ => ?_⟩
    refine m_isOf (fun ho => ⟨fun hc => absurd hc (by decide), fun _ => ?_⟩) (fun ho => ⟨fun _ => ?_, fun hc => absurd rfl hc⟩)
    · refine m_wallAtw f38 f39 s6 (m_wallAtw f38 f39 s6 ?_)
      obtain ⟨v1, v2, v3⟩ := sat i hi
      dsimp only
      refine m_putWall1 v1 (by rw [f38]; exact v2) ?_
      dsimp only
      rw [f38, nI_1]
      have l1 : ∃ b, b < 16 ∧ jshl 1 (jrem (vatw (nI w) (nI h) (nI i)) 4) = nI b := by
        rcases v3 with e | e <;> rw [e]
        · exact ⟨2, by decide, rfl⟩
        · exact ⟨4, by decide, rfl⟩
      have l2 : ∃ b, b < 16 ∧ jshl 1 (jrem (jrem (vatw (nI w) (nI h) (nI i)) 4 + 2) 4) = nI b := by
        rcases v3 with e | e <;> rw [e]
        · exact ⟨8, by decide, rfl⟩
        · exact ⟨1, by decide, rfl⟩
      obtain ⟨b1, hb1, eb1⟩ := l1
      obtain ⟨b2, hb2, eb2⟩ := l2
      have hp1 : ix (vatw (nI w) (nI h) (nI i) / 4) < 36 := vp_lt v1
      have hp2 : ix (aV (nI w) (vatw (nI w) (nI h) (nI i) / 4) (jrem (vatw (nI w) (nI h) (nI i)) 4)) < 36 := vp_lt v2
      rw [eb1, eb2]
      generalize ix (vatw (nI w) (nI h) (nI i) / 4) = p1 at hp1 ⊢
      generalize ix (aV (nI w) (vatw (nI w) (nI h) (nI i) / 4) (jrem (vatw (nI w) (nI h) (nI i)) 4)) = p2 at hp2 ⊢
      obtain ⟨u1, u2⟩ := up_or (i := p1) (b := b1) hp1 hb1 (by omega) ha.1 ha.2.1
      obtain ⟨u3, u4⟩ := up_or (i := p2) (b := b2) hp2 hb2 (by omega) u1 u2
      have e46 : (pt (pt a 46 p1 (a 46 p1 ||| nI b1)) 46 p2 ((pt a 46 p1 (a 46 p1 ||| nI b1)) 46 p2 ||| nI b2)) 46 = upd (upd (a 46) p1 (a 46 p1 ||| nI b1)) p2 ((upd (a 46) p1 (a 46 p1 ||| nI b1)) p2 ||| nI b2) := by rw [pt_at, pt_at]
      refine ih _ ⟨by rw [e46]; exact u3, by rw [e46]; exact u4, fun k hk => by rw [pt_ne hk, pt_ne hk]; exact ha.2.2.1 k hk, fun e => ?_⟩
      subst e
      exact absurd ho (is0 i (by omega))
    · rw [nI_1]
      exact ih a ha

/-- nothing is told yet, or the first set has told all -/
def Lg (g : Nat → Nat → Int32) (k n i : Nat) : Prop := if i = 0 then g 59 k = -2 ∧ g 60 k = -2 ∧ g 61 k = -1 else g 59 k = 0 ∧ g 60 k = 0 ∧ g 61 k = 0 ∧ g 62 k = 0 ∧ g 63 k = nI (n - 1)
/-- within the first set, behind s squares -/
def Lh (g : Nat → Nat → Int32) (k n s : Nat) : Prop := if s = 0 then g 59 k = -2 ∧ g 60 k = -2 ∧ g 61 k = -1 else if s < n then g 59 k = 0 ∧ g 60 k = 0 ∧ g 61 k = -1 else g 59 k = 0 ∧ g 60 k = 0 ∧ g 61 k = 0 ∧ g 62 k = 0 ∧ g 63 k = nI (n - 1)
theorem m_smallRun {f : Nat → Int32} {g : Nat → Nat → Int32} {K : mS → Prop} {w h n M k : Nat} {set : Int32} {s : Nat} (S : Sm w h n M) (hf : Sf f w h n) (hk16 : k < 16) (hs : s < n) (hk : ∀ f' g', Sf f' w h n → (∀ q, q < 47 ∨ (48 < q ∧ q < 59) → g' q = g q) → (s < n - 1 → (if g 59 k = -2 then g' 59 k = set ∧ g' 60 k = nI s else g' 59 k = g 59 k ∧ g' 60 k = g 60 k) ∧ (¬ -2 ≤ g 61 k ∨ (g' 61 k = g 61 k ∧ g' 62 k = g 62 k ∧ g' 63 k = g 63 k))) → (s = n - 1 → g' 59 k = g 59 k ∧ g' 60 k = g 60 k ∧ (if 0 ≤ g 61 k then g' 61 k = g 61 k ∧ g' 62 k = g 62 k ∧ g' 63 k = g 63 k else g' 61 k = 0 ∧ g' 62 k = set ∧ g' 63 k = nI s)) → K (f', g')) : wpX11_laySmallRun f g (nI k) set (nI s) K := by
  obtain ⟨⟨s1, s2, s3, -⟩, -⟩ := S
  obtain ⟨f12, f38, f39, f40⟩ := hf
  unfold wpX11_laySmallRun wpX11_laySmallRun_b0
  have hin : vp_in (nI k) 16 := vin hk16 (by decide)
  have ek : ix (nI k) = k := ix_nI (by omega)
  refine m_setDown (n := n) (by rw [f38, f39]; exact s1) (by omega) ?_
  have Sf' : Sf (upd (upd (upd (upd f 41 (nI s)) 42 0) 43 0) 44 0) w h n := ⟨by simp [upd_r, f12], by simp [upd_r, f38], by simp [upd_r, f39], by simp [upd_r, f40]⟩
  have zk : ∀ q, q < 47 ∨ 48 < q → zz g n q = g q := fun q hq => zz_k ⟨by omega, by omega⟩
  refine m_comesIn (j := 100) (by decide) (by simp [upd_r, f12]) (fun hb => ⟨fun _ => ?_, fun hc => absurd hc (by decide)⟩) (fun hb => ⟨fun hc => absurd rfl hc, fun _ => ⟨hin, fun h59 => ?_, fun h59 => ⟨hin, hin, ?_⟩⟩⟩)
  · have es : s = n - 1 := by
      have : nI s = nI (n - 1) := by simpa [upd_r, f40] using hb
      exact (nI_eq (by omega) (by omega)).mp this
    unfold wpX11_laySmallRun_b45 wpX11_laySmallRun_b78
    dsimp only
    rw [ek, zk 61 (by omega)]
    refine ⟨hin, fun hl => ?_, fun hl => ⟨hin, hin, hin, ?_⟩⟩
    · refine hk _ _ Sf' (fun q hq => zk q (by omega)) (fun h => absurd es (by omega)) (fun _ => ⟨by rw [zk 59 (by omega)], by rw [zk 60 (by omega)], ?_⟩)
      rw [if_pos hl, zk 61 (by omega), zk 62 (by omega), zk 63 (by omega)]
      exact ⟨rfl, rfl, rfl⟩
    · refine hk _ _ Sf' (fun q hq => by rw [pt_ne (by omega), pt_ne (by omega), pt_ne (by omega)]; exact zk q (by omega)) (fun h => absurd es (by omega)) (fun _ => ⟨by rw [pt_ne (by decide), pt_ne (by decide), pt_ne (by decide), zk 59 (by omega)], by rw [pt_ne (by decide), pt_ne (by decide), pt_ne (by decide), zk 60 (by omega)], ?_⟩)
      rw [if_neg hl]
      refine ⟨?_, ?_, ?_⟩
      · rw [pt_ne (by decide), pt_ne (by decide), pt_at, upd_r, if_pos rfl]
      · rw [pt_ne (by decide), pt_at, upd_r, if_pos rfl]
      · rw [pt_at, upd_r, if_pos rfl]
  · have es : s < n - 1 := by
      have : s ≠ n - 1 := fun e => hb (by simp [upd_r, f40, e])
      omega
    dsimp only at h59
    rw [ek, zk 59 (by omega)] at h59
    unfold wpX11_laySmallRun_b45 wpX11_laySmallRun_b78
    dsimp only
    rw [ek, zk 61 (by omega)]
    refine ⟨hin, fun hl => ?_, fun hl => ⟨hin, hin, hin, ?_⟩⟩
    · refine hk _ _ Sf' (fun q hq => zk q (by omega)) (fun _ => ⟨?_, Or.inr ?_⟩) (fun h => absurd h (by omega))
      · rw [if_neg h59, zk 59 (by omega), zk 60 (by omega)]; exact ⟨rfl, rfl⟩
      · rw [zk 61 (by omega), zk 62 (by omega), zk 63 (by omega)]; exact ⟨rfl, rfl, rfl⟩
    · refine hk _ _ Sf' (fun q hq => by rw [pt_ne (by omega), pt_ne (by omega), pt_ne (by omega)]; exact zk q (by omega)) (fun _ => ⟨?_, Or.inl hl⟩) (fun h => absurd h (by omega))
      rw [if_neg h59, pt_ne (by decide), pt_ne (by decide), pt_ne (by decide), zk 59 (by omega), pt_ne (by decide), pt_ne (by decide), pt_ne (by decide), zk 60 (by omega)]
      exact ⟨rfl, rfl⟩
  · have es : s < n - 1 := by
      have : s ≠ n - 1 := fun e => hb (by simp [upd_r, f40, e])
      omega
    dsimp only at h59
    rw [ek, zk 59 (by omega)] at h59
    unfold wpX11_laySmallRun_b45 wpX11_laySmallRun_b78
    dsimp only
    rw [ek]
    have e61 : (pt (pt (zz g n) 59 k set) 60 k (nI s)) 61 = g 61 := by rw [pt_ne (by decide), pt_ne (by decide), zk 61 (by omega)]
    have e62 : (pt (pt (zz g n) 59 k set) 60 k (nI s)) 62 = g 62 := by rw [pt_ne (by decide), pt_ne (by decide), zk 62 (by omega)]
    have e63 : (pt (pt (zz g n) 59 k set) 60 k (nI s)) 63 = g 63 := by rw [pt_ne (by decide), pt_ne (by decide), zk 63 (by omega)]
    have e59 : (pt (pt (zz g n) 59 k set) 60 k (nI s)) 59 k = set := by rw [pt_ne (by decide), pt_at, upd_r, if_pos rfl]
    have e60 : (pt (pt (zz g n) 59 k set) 60 k (nI s)) 60 k = nI s := by rw [pt_at, upd_r, if_pos rfl]
    rw [e61]
    refine ⟨hin, fun hl => ?_, fun hl => ⟨hin, hin, hin, ?_⟩⟩
    · refine hk _ _ Sf' (fun q hq => by rw [pt_ne (by omega), pt_ne (by omega)]; exact zk q (by omega)) (fun _ => ⟨?_, Or.inr ?_⟩) (fun h => absurd h (by omega))
      · rw [if_pos h59]; exact ⟨e59, e60⟩
      · rw [e61, e62, e63]; exact ⟨rfl, rfl, rfl⟩
    · refine hk _ _ Sf' (fun q hq => by rw [pt_ne (by omega), pt_ne (by omega), pt_ne (by omega), pt_ne (by omega), pt_ne (by omega)]; exact zk q (by omega)) (fun _ => ⟨?_, Or.inl hl⟩) (fun h => absurd h (by omega))
      rw [if_pos h59, pt_ne (by decide), pt_ne (by decide), pt_ne (by decide)]
      refine ⟨e59, ?_⟩
      rw [pt_ne (by decide), pt_ne (by decide), pt_ne (by decide)]
      exact e60
