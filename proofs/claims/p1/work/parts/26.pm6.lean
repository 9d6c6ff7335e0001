/-! The search of the reference (layFar). The row fb_holes is the kit's, pasted. -/
theorem fb_holes : ∀ (m n : Nat) (f : Nat → Nat), (∀ i, i < n → f i < m) → (∀ i j, i < j → j < n → f i ≠ f j) → n ≤ m := by
  intro m
  induction m with
  | zero =>
    intro n f h1 _
    rcases Nat.eq_zero_or_pos n with h | h
    · omega
    · exact absurd (h1 0 h) (Nat.not_lt_zero _)
  | succ m ih =>
    intro n f h1 h2
    by_cases hx : ∃ i, i < n ∧ f i = m
    · obtain ⟨a, ha, hfa⟩ := hx
      have hg := ih (n - 1) (fun i => if i < a then f i else f (i + 1)) (by
        intro i hi
        by_cases q : i < a
        · simp only [if_pos q]
          have b1 := h1 i (by omega)
          have b2 := h2 i a q ha
          omega
        · simp only [if_neg q]
          have b1 := h1 (i + 1) (by omega)
          have b2 := h2 a (i + 1) (by omega) (by omega)
          omega) (by
        intro i j hij hj
        by_cases q : i < a
        · by_cases r : j < a
          · simp only [if_pos q, if_pos r]
            exact h2 i j hij (by omega)
          · simp only [if_pos q, if_neg r]
            exact h2 i (j + 1) (by omega) (by omega)
        · have r : ¬ j < a := by omega
          simp only [if_neg q, if_neg r]
          exact h2 (i + 1) (j + 1) (by omega) (by omega))
      omega
    · have hg := ih n f (fun i hi => by
        have b1 := h1 i hi
        have b2 : f i ≠ m := fun e => hx ⟨i, hi, e⟩
        omega) h2
      omega
def aV (w x d : Int32) : Int32 := if d = 0 then x - w else if d = 1 then x + 1 else if d = 2 then x + w else x - 1
abbrev bT : Type := (Nat → Int32) × (Nat → Int32) × Nat
/-- one side of one square of the search -/
def bs (wl : Nat → Int32) (w : Int32) (k d : Nat) (a : bT) : bT :=
  if jshr (wl (ix (a.2.1 k))) (nI d) &&& 1 = 1 then a
  else if a.1 (ix (aV w (a.2.1 k) (nI d))) = -1 then (upd a.1 (ix (aV w (a.2.1 k) (nI d))) (a.1 (ix (a.2.1 k)) + 1), upd a.2.1 a.2.2 (aV w (a.2.1 k) (nI d)), a.2.2 + 1) else a
def bsd (wl : Nat → Int32) (w : Int32) (k : Nat) (a : bT) : Nat → bT
  | 0 => a
  | d + 1 => bs wl w k d (bsd wl w k a d)
def bk (wl : Nat → Int32) (w : Int32) (k : Nat) (a : bT) : bT := if a.2.2 ≤ k then a else bsd wl w k a 4
def bz (wl : Nat → Int32) (w : Int32) (a0 : bT) : Nat → bT
  | 0 => a0
  | i + 1 => bk wl w i (bz wl w a0 i)
def b0 (b : Nat) (fr q : Nat → Int32) : bT := (upd (fun s => if s < 36 then -1 else fr s) b 0, upd q 0 (nI b), 1)
/-- what isn't barred leads to a square -/
def OKW (wl : Nat → Int32) (w : Int32) (n : Nat) : Prop := ∀ s, s < n → ∀ d, d < 4 → ¬ jshr (wl s) (nI d) &&& 1 = 1 → ∃ t, t < n ∧ aV w (nI s) (nI d) = nI t
/-- squares of the queue, each told once, each with a number -/
def BJ (n : Nat) (a : bT) : Prop := 1 ≤ a.2.2 ∧ a.2.2 ≤ n ∧ (∀ i, i < a.2.2 → ∃ q, q < n ∧ a.2.1 i = nI q ∧ ∃ m, m < a.2.2 ∧ a.1 q = nI m) ∧ ∀ i j, i < j → j < a.2.2 → a.2.1 i ≠ a.2.1 j
theorem nI_nm {m : Nat} (h : m < 2 ^ 31) : ¬ nI m = -1 := fun e => by
  have := congrArg Int32.toInt e
  rw [nI_toInt h] at this
  have e2 : (-1 : Int32).toInt = -1 := rfl
  omega
theorem bs_J {wl : Nat → Int32} {w : Int32} {n k d : Nat} {a : bT} (hn : n ≤ 36) (ho : OKW wl w n) (hd : d < 4) (h : BJ n a) (hk : k < a.2.2) : BJ n (bs wl w k d a) ∧ a.2.2 ≤ (bs wl w k d a).2.2 ∧ ∀ s, ¬ a.1 s = -1 → (bs wl w k d a).1 s = a.1 s := by
  unfold bs
  by_cases h1 : jshr (wl (ix (a.2.1 k))) (nI d) &&& 1 = 1
  · rw [if_pos h1]; exact ⟨h, Nat.le_refl _, fun _ _ => rfl⟩
  · rw [if_neg h1]
    by_cases h2 : a.1 (ix (aV w (a.2.1 k) (nI d))) = -1
    · rw [if_pos h2]
      obtain ⟨c1, c2, c3, c4⟩ := h
      obtain ⟨q, hq, eq, m, hm, em⟩ := c3 k hk
      rw [eq] at h1 h2 ⊢
      rw [ix_nI (by omega)] at h1 ⊢
      obtain ⟨t, ht, et⟩ := ho q hq d hd h1
      rw [et] at h2 ⊢
      rw [ix_nI (by omega)] at h2 ⊢
      have nt : ∀ i, i < a.2.2 → a.2.1 i ≠ nI t := fun i hi e => by
        obtain ⟨q2, hq2, e2, m2, hm2, em2⟩ := c3 i hi
        rw [e2] at e
        have := (nI_eq (by omega) (by omega)).mp e
        subst this
        rw [em2] at h2
        exact nI_nm (by omega) h2
      have cn : a.2.2 + 1 ≤ n := by
        refine fb_holes n (a.2.2 + 1) (fun i => if i < a.2.2 then ix (a.2.1 i) else t) (fun i hi => ?_) (fun i j hij hj => ?_)
        · by_cases hc : i < a.2.2
          · simp only [if_pos hc]
            obtain ⟨q2, hq2, e2, -⟩ := c3 i hc
            rw [e2, ix_nI (by omega)]
            exact hq2
          · simp only [if_neg hc]; exact ht
        · have hci : i < a.2.2 := by omega
          simp only [if_pos hci]
          obtain ⟨q2, hq2, e2, -⟩ := c3 i hci
          by_cases hc : j < a.2.2
          · simp only [if_pos hc]
            obtain ⟨q3, hq3, e3, -⟩ := c3 j hc
            have := c4 i j hij hc
            rw [e2, e3] at this ⊢
            rw [ix_nI (by omega), ix_nI (by omega)]
            exact fun e => this (by rw [e])
          · simp only [if_neg hc]
            have := nt i hci
            rw [e2] at this ⊢
            rw [ix_nI (by omega)]
            exact fun e => this (by rw [e])
      refine ⟨⟨by show 1 ≤ a.2.2 + 1; omega, cn, fun i hi => ?_, fun i j hij hj => ?_⟩, by show a.2.2 ≤ a.2.2 + 1; omega, fun s hs => ?_⟩
      · show ∃ q', q' < n ∧ upd a.2.1 a.2.2 (nI t) i = nI q' ∧ ∃ m', m' < a.2.2 + 1 ∧ upd a.1 t (a.1 q + 1) q' = nI m'
        by_cases hc : i = a.2.2
        · refine ⟨t, ht, by rw [upd_r, if_pos hc], m + 1, by omega, ?_⟩
          rw [upd_r, if_pos rfl, em, nI_1]
        · have hi2 : i < a.2.2 := by have : i < a.2.2 + 1 := hi; omega
          obtain ⟨q2, hq2, e2, m2, hm2, em2⟩ := c3 i hi2
          refine ⟨q2, hq2, by rw [upd_r, if_neg hc, e2], m2, by omega, ?_⟩
          rw [upd_r, if_neg (fun e => nt i hi2 (by rw [e2, e])), em2]
      · show upd a.2.1 a.2.2 (nI t) i ≠ upd a.2.1 a.2.2 (nI t) j
        have hj2 : j < a.2.2 + 1 := hj
        rw [upd_r, upd_r, if_neg (by omega)]
        by_cases hc : j = a.2.2
        · rw [if_pos hc]; exact nt i (by omega)
        · rw [if_neg hc]; exact c4 i j hij (by omega)
      · show upd a.1 t (a.1 q + 1) s = a.1 s
        rw [upd_r, if_neg (fun e => hs (by rw [e]; exact h2))]
    · rw [if_neg h2]; exact ⟨h, Nat.le_refl _, fun _ _ => rfl⟩
theorem bsd_J {wl : Nat → Int32} {w : Int32} {n k : Nat} {a : bT} (hn : n ≤ 36) (ho : OKW wl w n) (h : BJ n a) (hk : k < a.2.2) : ∀ d, d ≤ 4 → BJ n (bsd wl w k a d) ∧ k < (bsd wl w k a d).2.2 ∧ ∀ s, ¬ a.1 s = -1 → (bsd wl w k a d).1 s = a.1 s
  | 0, _ => ⟨h, hk, fun _ _ => rfl⟩
  | d + 1, hd => by
    obtain ⟨i1, i2, i3⟩ := bsd_J hn ho h hk d (by omega)
    obtain ⟨j1, j2, j3⟩ := bs_J hn ho (by omega : d < 4) i1 i2
    exact ⟨j1, Nat.lt_of_lt_of_le i2 j2, fun s hs => (j3 s (by rw [i3 s hs]; exact hs)).trans (i3 s hs)⟩
theorem bz_J {wl : Nat → Int32} {w : Int32} {n : Nat} {a : bT} (hn : n ≤ 36) (ho : OKW wl w n) (h : BJ n a) : ∀ i, BJ n (bz wl w a i) ∧ ∀ s, ¬ a.1 s = -1 → (bz wl w a i).1 s = a.1 s
  | 0 => ⟨h, fun _ _ => rfl⟩
  | i + 1 => by
    obtain ⟨i1, i3⟩ := bz_J hn ho h i
    show BJ n (bk wl w i (bz wl w a i)) ∧ _
    unfold bk
    by_cases hc : (bz wl w a i).2.2 ≤ i
    · rw [show bz wl w a (i + 1) = bz wl w a i by show bk wl w i (bz wl w a i) = _; unfold bk; rw [if_pos hc], if_pos hc]
      exact ⟨i1, i3⟩
    · obtain ⟨j1, j2, j3⟩ := bsd_J hn ho i1 (Nat.lt_of_not_le hc) 4 (Nat.le_refl 4)
      rw [show bz wl w a (i + 1) = bsd wl w i (bz wl w a i) 4 by show bk wl w i (bz wl w a i) = _; unfold bk; rw [if_neg hc], if_neg hc]
      exact ⟨j1, fun s hs => (j3 s (by rw [i3 s hs]; exact hs)).trans (i3 s hs)⟩
theorem bz_c {wl : Nat → Int32} {w : Int32} {a : bT} {i : Nat} (h : (bz wl w a i).2.2 ≤ i) : ∀ d, bz wl w a (i + d) = bz wl w a i
  | 0 => rfl
  | d + 1 => by
    have e := bz_c h d
    show bk wl w (i + d) (bz wl w a (i + d)) = _
    rw [e]
    unfold bk
    rw [if_pos (by omega)]
def Gf (g : Nat → Nat → Int32) (fr q : Nat → Int32) : Nat → Nat → Int32 := fun k s => if k = 54 then fr s else if k = 55 then q s else g k s
theorem Gf_54 {g : Nat → Nat → Int32} {fr q : Nat → Int32} {i : Nat} {v : Int32} : pt (Gf g fr q) 54 i v = Gf g (upd fr i v) q := by
  funext k s
  simp only [pt_r, Gf, upd_r]
  by_cases h : k = 54
  · simp [h]
  · simp [h]
theorem Gf_55 {g : Nat → Nat → Int32} {fr q : Nat → Int32} {i : Nat} {v : Int32} : pt (Gf g fr q) 55 i v = Gf g fr (upd q i v) := by
  funext k s
  simp only [pt_r, Gf, upd_r]
  by_cases h : k = 54
  · subst h; simp
  · by_cases h5 : k = 55
    · subst h5; simp
    · simp [h, h5]
theorem Gf_k {g : Nat → Nat → Int32} {fr q : Nat → Int32} {k : Nat} (h : k ≠ 54 ∧ k ≠ 55) : Gf g fr q k = g k := by
  funext s
  simp [Gf, h]
theorem m_layFar {f : Nat → Int32} {g : Nat → Nat → Int32} {K : mS → Prop} {n b : Nat} (hn : n ≤ 36) (hb : b < n) (h40 : f 40 = nI b) (ho : OKW (g 46) (f 38) n) (hk : K (f, Gf g (bz (g 46) (f 38) (b0 b (g 54) (g 55)) n).1 (bz (g 46) (f 38) (b0 b (g 54) (g 55)) n).2.1)) : wpX11_layFar f g K := by
  unfold wpX11_layFar wpX11_layFar_b0
  refine lpz (w := fun n a x => wpX11_layFar_b2 n f a x K) (fun i => Gf g (fun s => if s < i then -1 else g 54 s) (g 55)) 36 ?_ (fun m => ?_) (fun m i hi ih => ?_)
  · funext k s
    simp only [Gf]
    by_cases h : k = 54
    · simp [h]
    · by_cases h5 : k = 55
      · simp [h5]
      · simp [h, h5]
  · unfold wpX11_layFar_b2 wpX11_layFar_b2_body
    rw [h40]
    refine ⟨fun _ => ⟨vin (by omega) (by decide), vin (n := 0) (by decide) (by decide), ?_⟩, fun hc => absurd (Int32.le_refl _) hc⟩
    rw [Gf_54, Gf_55, ix_nI (by omega), show ix (0 : Int32) = 0 from rfl]
    have J0 : BJ n (b0 b (g 54) (g 55)) := by
      refine ⟨Nat.le_refl 1, by show 1 ≤ n; omega, fun i hi => ?_, fun i j hij hj => ?_⟩
      · have : i = 0 := by have : i < 1 := hi; omega
        subst this
        exact ⟨b, hb, rfl, 0, Nat.zero_lt_one, by show (if b = b then (0 : Int32) else _) = nI 0; rw [if_pos rfl]; rfl⟩
      · have : j < 1 := hj
        omega
    have go : ∃ m, wpX11_layFar_b45 m f (Gf g (bz (g 46) (f 38) (b0 b (g 54) (g 55)) 0).1 (bz (g 46) (f 38) (b0 b (g 54) (g 55)) 0).2.1) (nI (bz (g 46) (f 38) (b0 b (g 54) (g 55)) 0).2.2) (nI 0) K := by
      refine lp (w := fun m i => wpX11_layFar_b45 m f (Gf g (bz (g 46) (f 38) (b0 b (g 54) (g 55)) i).1 (bz (g 46) (f 38) (b0 b (g 54) (g 55)) i).2.1) (nI (bz (g 46) (f 38) (b0 b (g 54) (g 55)) i).2.2) (nI i) K) n (fun m => ?_) (fun m i hi ih => ?_)
      · unfold wpX11_layFar_b45 wpX11_layFar_b45_body
        have := (bz_J (a := b0 b (g 54) (g 55)) hn ho J0 n).1.2.1
        exact ⟨fun _ => hk, fun hc => absurd (nI_le this (by omega)) hc⟩
      · obtain ⟨j1, j2⟩ := bz_J (a := b0 b (g 54) (g 55)) hn ho J0 i
        by_cases hc : (bz (g 46) (f 38) (b0 b (g 54) (g 55)) i).2.2 ≤ i
        · have e := bz_c hc (n - i)
          rw [show i + (n - i) = n by omega] at e
          rw [e] at hk
          unfold wpX11_layFar_b45 wpX11_layFar_b45_body
          exact ⟨fun _ => hk, fun h2 => absurd (nI_le hc (by omega)) h2⟩
        · have e1 : bz (g 46) (f 38) (b0 b (g 54) (g 55)) (i + 1) = bsd (g 46) (f 38) i (bz (g 46) (f 38) (b0 b (g 54) (g 55)) i) 4 := by
            show bk _ _ i _ = _
            unfold bk
            rw [if_neg hc]
          rw [e1] at ih
          unfold wpX11_layFar_b45 wpX11_layFar_b45_body
          refine ⟨fun h2 => absurd h2 (nI_ge (Nat.lt_of_not_le hc) (by have := j1.2.1; omega)), fun _ => ?_⟩
          generalize bz (g 46) (f 38) (b0 b (g 54) (g 55)) i = a at j1 hc ih ⊢
          have hia : i < a.2.2 := Nat.lt_of_not_le hc
          refine lp (w := fun m d => wpX11_layFar_b52 _ m f (Gf g (bsd (g 46) (f 38) i a d).1 (bsd (g 46) (f 38) i a d).2.1) (nI (bsd (g 46) (f 38) i a d).2.2) (nI i) (nI d) K) 4 (fun m2 => ?_) (fun m2 d hd ih2 => ?_)
          · unfold wpX11_layFar_b52 wpX11_layFar_b52_body
            refine ⟨fun _ => ?_, fun hc => absurd (Int32.le_refl _) hc⟩
            rw [nI_1]
            exact ih
          · obtain ⟨k1, k2, -⟩ := bsd_J hn ho j1 hia d (by omega)
            change wpX11_layFar_b52 _ m2 f (Gf g (bs (g 46) (f 38) i d (bsd (g 46) (f 38) i a d)).1 (bs (g 46) (f 38) i d (bsd (g 46) (f 38) i a d)).2.1) (nI (bs (g 46) (f 38) i d (bsd (g 46) (f 38) i a d)).2.2) (nI i) (nI (d + 1)) K at ih2
            generalize bsd (g 46) (f 38) i a d = a2 at k1 k2 ih2 ⊢
            obtain ⟨q, hq, eq, mm, hmm, em⟩ := k1.2.2.1 i k2
            have hi36 : i < 36 := by omega
            have e55 : Gf g a2.1 a2.2.1 55 (ix (nI i)) = nI q := by
              rw [ix_nI (by omega)]
              simp only [Gf]
              exact eq
            have e46 : Gf g a2.1 a2.2.1 46 = g 46 := Gf_k (by decide)
            unfold wpX11_layFar_b52 wpX11_layFar_b52_body wpX11_layFar_b132
            refine ⟨fun h2 => absurd h2 (nI_ge hd (by decide)), fun _ => ⟨vin hi36 (by decide), ?_⟩⟩
            rw [e55]
            have ebs : ix (a2.2.1 i) = q := by rw [eq, ix_nI (by omega)]
            refine m_isWall (vin (by omega) (by decide)) (fun hw => ⟨fun hc => absurd hc (by decide), fun _ => ?_⟩) (fun hw => ⟨fun _ => ⟨vin hi36 (by decide), ?_⟩, fun hc => absurd rfl hc⟩)
            · rw [nI_1]
              have : bs (g 46) (f 38) i d a2 = a2 := by
                unfold bs
                rw [ebs]
                rw [e46, ix_nI (by omega)] at hw
                rw [if_pos hw]
              rw [this] at ih2
              exact ih2
            · rw [e46, ix_nI (by omega)] at hw
              obtain ⟨t, ht, et⟩ := ho q hq d hd hw
              refine m_ahead ?_
              dsimp only
              rw [e55]
              have et2 : aheadV f (nI q) (nI d) = nI t := et
              rw [et2]
              refine ⟨vin (by omega) (by decide), fun hf => ⟨vin hi36 (by decide), vin (by omega) (by decide), vin (by omega) (by decide), vin ?_ (by decide), ?_⟩, fun hf => ?_⟩
              · have J2 := (bs_J hn ho hd k1 k2).1.2.1
                have : bs (g 46) (f 38) i d a2 = (upd a2.1 t (a2.1 q + 1), upd a2.2.1 a2.2.2 (nI t), a2.2.2 + 1) := by
                  unfold bs
                  rw [ebs, if_neg hw, eq, et, ix_nI (by omega)]
                  rw [ix_nI (by omega)] at hf
                  rw [if_pos (by simpa [Gf] using hf)]
                rw [this] at J2
                have : a2.2.2 + 1 ≤ n := J2
                omega
              · have : bs (g 46) (f 38) i d a2 = (upd a2.1 t (a2.1 q + 1), upd a2.2.1 a2.2.2 (nI t), a2.2.2 + 1) := by
                  unfold bs
                  rw [ebs, if_neg hw, eq, et, ix_nI (by omega)]
                  rw [ix_nI (by omega)] at hf
                  rw [if_pos (by simpa [Gf] using hf)]
                rw [this] at ih2
                have hc2 := k1.2.1
                rw [Gf_54, Gf_55, ix_nI (by omega), ix_nI (by omega), ix_nI (by omega), nI_1, nI_1]
                have e54 : Gf g a2.1 a2.2.1 54 q = a2.1 q := by simp [Gf]
                rw [e54]
                exact ih2
              · have : bs (g 46) (f 38) i d a2 = a2 := by
                  unfold bs
                  rw [ebs, if_neg hw, eq, et, ix_nI (by omega)]
                  rw [ix_nI (by omega)] at hf
                  rw [if_neg (by simpa [Gf] using hf)]
                rw [this] at ih2
                rw [nI_1]
                exact ih2
    exact go
  · unfold wpX11_layFar_b2 wpX11_layFar_b2_body
    refine ⟨fun hc => absurd hc (nI_ge hi (by decide)), fun _ => ⟨vin (by omega) (by decide), ?_⟩⟩
    rw [Gf_54, ix_nI (by omega), nI_1]
    have e : upd (fun s => if s < i then (-1 : Int32) else g 54 s) i (-1) = fun s => if s < i + 1 then -1 else g 54 s := by
      funext s
      rw [upd_r]
      by_cases h : s = i
      · rw [if_pos h, if_pos (by omega)]
      · rw [if_neg h]
        by_cases h2 : s < i
        · rw [if_pos h2, if_pos (by omega)]
        · rw [if_neg h2, if_neg (by omega)]
    rw [e]
    exact ih

theorem m_layFarA {f : Nat → Int32} {g : Nat → Nat → Int32} {K : mS → Prop} {wl fr q : Nat → Int32} {w : Int32} {n b : Nat} (hn : n ≤ 36) (hb : b < n) (h40 : f 40 = nI b) (e46 : g 46 = wl) (e38 : f 38 = w) (e54 : g 54 = fr) (e55 : g 55 = q) (ho : OKW wl w n) (hk : ∀ g', (∀ k, k ≠ 54 → k ≠ 55 → g' k = g k) → (∀ s, g' 54 s = (bz wl w (b0 b fr q) n).1 s) → ¬ g' 54 b = -1 → K (f, g')) : wpX11_layFar f g K := by
  subst e46 e38 e54 e55
  refine m_layFar hn hb h40 ho (hk _ (fun k h1 h2 => Gf_k ⟨h1, h2⟩) (fun s => by simp [Gf]) ?_)
  have J0 : BJ n (b0 b (g 54) (g 55)) := by
    refine ⟨Nat.le_refl 1, by show 1 ≤ n; omega, fun i hi => ?_, fun i j hij hj => ?_⟩
    · have : i = 0 := by have : i < 1 := hi; omega
      subst this
      exact ⟨b, hb, rfl, 0, Nat.zero_lt_one, by show (if b = b then (0 : Int32) else _) = nI 0; rw [if_pos rfl]; rfl⟩
    · have : j < 1 := hj
      omega
  have e0 : (b0 b (g 54) (g 55)).1 b = 0 := by show (if b = b then (0 : Int32) else _) = 0; rw [if_pos rfl]
  have e := (bz_J (a := b0 b (g 54) (g 55)) hn ho J0 n).2 b (by rw [e0]; decide)
  simp only [Gf, if_true]
  rw [e, e0]
  decide
/-! .. on the plain floor of 5 by 5 -/
def D5 : List Int32 := [8, 7, 6, 5, 4, 7, 6, 5, 4, 3, 6, 5, 4, 3, 2, 5, 4, 3, 2, 1, 4, 3, 2, 1, 0]
theorem D5_z : (List.range 25).all (fun s => (bz W5 5 (b0 24 (fun _ => 0) (fun _ => 0)) 25).1 s == D5.getD s 0) = true := by decide +kernel
theorem D5_m (s : Nat) (h : s < 25) : (bz W5 5 (b0 24 (fun _ => 0) (fun _ => 0)) 25).1 s = D5.getD s 0 := by
  have := List.all_eq_true.mp D5_z s (List.mem_range.mpr h)
  exact eq_of_beq this
theorem OK5 : ∀ s, s < 25 → ∀ d, d < 4 → ¬ jshr (W5 s) (nI d) &&& 1 = 1 → ∃ t, t < 25 ∧ aV 5 (nI s) (nI d) = nI t := by decide +kernel
theorem D5_n : ∀ s, s < 25 → ¬ D5.getD s 0 = -1 := by decide
theorem m_look {K : Int32 → mS → Prop} {x y : Int32} (hk : ∀ s : Nat, s < 25 → x = nI s → (y = 0 → ∀ u : mS, u.1 2 = 0 → K 0 u) ∧ (y = 1 → ∀ u : mS, u.1 2 = 0 → K 0 u) ∧ (y = 2 → ∀ u : mS, u.1 2 = 0 → K (W5 s) u) ∧ (y = 3 → ∀ u : mS, u.1 2 = 0 → K (D5.getD s 0) u) ∧ ((y.toInt < 0 ∨ 3 < y.toInt) → ∀ u : mS, u.1 2 = 2 → K 0 u)) (hk0 : (x < 0 ∨ (25 : Int32) ≤ x) → ∀ u : mS, u.1 2 = 1 → K 0 u) : wpX11_look mf1 mg1 x y K := by
  unfold wpX11_look wpX11_look_b0
  refine m_isSq (fun h1 h2 => ?_) (fun h => ⟨fun hc => absurd rfl hc, fun _ => hk0 h _ rfl⟩)
  obtain ⟨s, hs, rfl⟩ := i_sq (n := 25) rfl h1 h2
  obtain ⟨k0, k1, k2, k3, k4⟩ := hk s hs rfl
  have hin : vp_in (nI s) 36 := vin (by omega) (by decide)
  refine ⟨fun _ => ⟨fun e => ⟨hin, k0 e _ rfl⟩, fun e => ⟨hin, k1 e _ rfl⟩, fun e => ⟨hin, ?_⟩, fun e => ?_, fun e => k4 e _ rfl⟩, fun hc => absurd hc (by decide)⟩
  · rw [ix_nI (by omega)]
    exact k2 e _ rfl
  · refine m_layFarA (n := 25) (b := 24) (wl := W5) (w := 5) (fr := fun _ => 0) (q := fun _ => 0) (by decide) (by decide) rfl rfl rfl rfl rfl OK5 (fun g' _ h54 _ => ⟨hin, ?_⟩)
    dsimp only
    rw [ix_nI (by omega), h54, D5_m s hs]
    exact k3 e _ rfl
theorem m_knows_l {f : Nat → Int32} {g : Nat → Nat → Int32} {K : Int32 → mS → Prop} (h38 : f 38 = 5) (h40 : f 40 = 24) (h46 : ∀ s, g 46 s = W5 s) (h47 : ∀ s, g 47 s = 0) (hk : ∀ u, K (-1) u) : ∀ (q s n : Nat), s < 24 → s < 5 * q → n + q ≤ 36 → ∃ m, wpX11_knows_b19 m f g (nI s) (nI n) K := by
  intro q
  induction q with
  | zero => intro s n h1 h2; omega
  | succ q ih =>
    intro s n h1 h2 h3
    have ne : ¬ nI s = f 40 := by rw [h40]; exact fun e => absurd ((nI_eq (b := 24) (by omega) (by decide)).mp e) (by omega)
    have hin : vp_in (nI s) 36 := vin (by omega) (by decide)
    by_cases h5 : s < 5
    · refine ⟨1, ?_⟩
      unfold wpX11_knows_b19 wpX11_knows_b19_body wpX11_knows_b47
      refine ⟨fun hc => absurd hc ne, fun _ => ⟨hin, ?_⟩⟩
      rw [h47]
      have hb : ∀ s, s < 5 → jshr (W5 s) 0 &&& 1 = 1 := by decide
      refine m_isWall hin (fun _ => ⟨fun _ => hk _, fun hc => absurd hc (by decide)⟩) (fun hc => absurd ?_ hc)
      rw [ix_nI (by omega), h46]
      exact hb s h5
    · obtain ⟨m, hm⟩ := ih (s - 5) (n + 1) (by omega) (by omega) (by omega)
      refine ⟨m + 1, ?_⟩
      unfold wpX11_knows_b19 wpX11_knows_b19_body wpX11_knows_b47
      refine ⟨fun hc => absurd hc ne, fun _ => ⟨hin, ?_⟩⟩
      rw [h47]
      refine m_isWall hin (fun _ => ⟨fun _ => hk _, fun hc => absurd hc (by decide)⟩) (fun _ => ⟨fun hc => absurd rfl hc, fun _ => ⟨fun _ => ⟨hin, ?_⟩, fun hc => absurd (nI_le (b := 36) (by omega) (by decide)) hc⟩⟩)
      dsimp only
      rw [h47]
      refine m_ahead ?_
      have e : aheadV f (nI s) 0 = nI (s - 5) := by
        unfold aheadV
        rw [if_pos rfl, h38]
        exact pk_sub (b := 5) (by omega)
      rw [e, nI_1]
      exact hm
theorem m_knows {K : Int32 → mS → Prop} {x : Int32} (hk : ∀ u, K (if x = 24 then 0 else -1) u) : wpX11_knows mf1 mg1 x K := by
  unfold wpX11_knows wpX11_knows_b0
  refine m_isSq (fun h1 h2 => ⟨fun _ => ?_, fun hc => absurd hc (by decide)⟩) (fun h => ⟨fun hc => absurd rfl hc, fun _ => ?_⟩)
  · obtain ⟨s, hs, rfl⟩ := i_sq (n := 25) rfl h1 h2
    by_cases h24 : s = 24
    · subst h24
      refine ⟨1, ?_⟩
      unfold wpX11_knows_b19 wpX11_knows_b19_body
      exact ⟨fun _ => hk _, fun hc => absurd rfl hc⟩
    · rw [if_neg (show ¬ nI s = (24 : Int32) from fun e => h24 ((nI_eq (b := 24) (by omega) (by decide)).mp e))] at hk
      exact m_knows_l (f := upd mf1 2 0) rfl rfl (fun _ => rfl) (fun _ => rfl) hk 5 s 0 (by omega) (by omega) (by omega)
  · rw [if_neg (fun e => by subst e; revert h; decide)] at hk
    exact hk _
def vat (k : Int32) : Int32 := if (20 : Int32) ≤ k then 4 * (k - 20) + 2 else 4 * (k / 4 * 5 + jrem k 4) + 1
theorem vat_in : ∀ k, k < 40 → vp_in (vat (nI k) / 4) 36 := by unfold vp_in; decide
theorem vat_no : ∀ k, k < 40 → ¬ jshr (W5 (ix (vat (nI k) / 4))) (jrem (vat (nI k)) 4) &&& 1 = 1 := by decide
theorem m_wallAt5 {f : Nat → Int32} {g : Nat → Nat → Int32} {K : Int32 → mS → Prop} {x : Int32} (h38 : f 38 = 5) (h39 : f 39 = 5) (hk : K (vat x) (f, g)) : wpX11_wallAt f g x K := by
  unfold wpX11_wallAt wpX11_wallAt_b0
  unfold vat at hk
  simp only [h38, h39, show (5 : Int32) - 1 = 4 from rfl, show (5 : Int32) * 4 = 20 from rfl]
  refine ⟨fun h => ?_, fun h => ⟨by decide, by decide, ?_⟩⟩
  · rw [if_pos h] at hk; exact hk
  · rw [if_neg h] at hk; exact hk
theorem m_count {K : Int32 → mS → Prop} {x : Int32} (hk : ∀ u, K (if x = 0 then 25 else if 1 ≤ x ∧ x ≤ 4 then 0 else if x = 5 then 24 else if x = 6 then 0 else -1) u) : wpX11_count mf1 mg1 x K := by
  unfold wpX11_count wpX11_count_b0
  refine ⟨fun e => ?_, fun e => ?_, fun e => ?_, fun e => ?_, fun e => ?_, fun e => ?_, fun e => ?_, fun e => ?_⟩
  · subst e; exact hk _
  · subst e; exact hk _
  · subst e; exact hk _
  · subst e; exact hk _
  · subst e
    refine lpi (w := fun n (_ : Unit) x => wpX11_count_b74 n (upd mf1 2 0) mg1 0 x K) (fun _ _ => True) 40 trivial (fun n _ _ => ?_) (fun n i _ hi _ ih => ?_) (a0 := ())
    · unfold wpX11_count_b74 wpX11_count_b74_body wpX11_wallMany wpX11_wallMany_b0
      exact ⟨fun _ => hk _, fun hc => absurd (Int32.le_refl _) hc⟩
    · unfold wpX11_count_b74 wpX11_count_b74_body wpX11_wallMany wpX11_wallMany_b0
      refine ⟨fun hc => absurd hc (nI_ge (b := 40) hi (by decide)), fun _ => ?_⟩
      refine m_wallAt5 rfl rfl (m_wallAt5 rfl rfl ?_)
      refine m_isWall (vat_in i hi) (fun hc => absurd hc (vat_no i hi)) (fun _ => ⟨fun _ => ?_, fun hc => absurd rfl hc⟩)
      unfold wpX11_count_b109
      rw [nI_1]
      exact ih () trivial
  · subst e; exact hk _
  · subst e
    refine lpi (w := fun n (_ : Unit) x => wpX11_count_b126 n (upd mf1 2 0) mg1 0 x K) (fun _ _ => True) 4 trivial (fun n _ _ => ?_) (fun n i _ hi _ ih => ?_) (a0 := ())
    · unfold wpX11_count_b126 wpX11_count_b126_body
      exact ⟨fun _ => hk _, fun hc => absurd (Int32.le_refl _) hc⟩
    · unfold wpX11_count_b126 wpX11_count_b126_body wpX11_count_b146
      refine ⟨fun hc => absurd hc (nI_ge hi (by decide)), fun _ => ⟨vin (by omega) (by decide), fun _ => ?_, fun hc => absurd rfl hc⟩⟩
      rw [nI_1]
      exact ih () trivial
  · have e0 : (0 : Int32).toInt = 0 := rfl
    have e1 : (1 : Int32).toInt = 1 := rfl
    have e4 : (4 : Int32).toInt = 4 := rfl
    have e5 : (5 : Int32).toInt = 5 := rfl
    have e6 : (6 : Int32).toInt = 6 := rfl
    rw [if_neg (fun h => by rw [h] at e; omega), if_neg (fun h => by
      rw [Int32.le_iff_toInt_le, Int32.le_iff_toInt_le] at h
      omega), if_neg (fun h => by rw [h] at e; omega), if_neg (fun h => by rw [h] at e; omega)] at hk
    exact hk _
