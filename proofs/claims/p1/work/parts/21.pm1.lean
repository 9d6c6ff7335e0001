/-! The reference on a fresh object. -/
theorem m_isIn {x lo hi : Int32} {K : Int32 → Unit → Prop} (h1 : lo ≤ x → x ≤ hi → K 1 ()) (h0 : (x < lo ∨ hi < x) → K 0 ()) : wpX11_isIn x lo hi K := by
  unfold wpX11_isIn wpX11_isIn_b0 wpX11_isIn_b14 wpX11_isIn_b15
  exact ⟨fun h => ⟨Or.inl rfl, h0 (Or.inl h)⟩, fun h => ⟨fun h' => ⟨Or.inl rfl, h0 (Or.inr h')⟩, fun h' => ⟨Or.inr rfl, h1 (i_nlt h) (i_nlt h')⟩⟩⟩
theorem m_isOf {x k : Int32} {K : Int32 → Unit → Prop} (h1 : (jshr x k) &&& 1 = 1 → K 1 ()) (h0 : ¬ (jshr x k) &&& 1 = 1 → K 0 ()) : wpX11_isOf x k K := by
  unfold wpX11_isOf wpX11_isOf_b0 wpX11_isOf_b14
  exact ⟨fun h => ⟨Or.inl rfl, h0 h⟩, fun h => ⟨Or.inr rfl, h1 h⟩⟩
theorem m_isSq {f : Nat → Int32} {g : Nat → Nat → Int32} {x : Int32} {K : Int32 → mS → Prop} (h1 : ¬ x < 0 → ¬ f 38 * f 39 ≤ x → K 1 (f, g)) (h0 : (x < 0 ∨ f 38 * f 39 ≤ x) → K 0 (f, g)) : wpX11_isSquare f g x K := by
  unfold wpX11_isSquare wpX11_isSquare_b0 wpX11_isSquare_b16 wpX11_isSquare_b17 wpX11_squares wpX11_squares_b0
  exact ⟨fun h => ⟨Or.inl rfl, h0 (Or.inl h)⟩, fun h => ⟨fun h' => ⟨Or.inl rfl, h0 (Or.inr h')⟩, fun h' => ⟨Or.inr rfl, h1 h h'⟩⟩⟩
/-- walls of the plain floor of 5 by 5 -/
def wl5 : List Int32 := [9, 1, 1, 1, 3, 8, 0, 0, 0, 2, 8, 0, 0, 0, 2, 8, 0, 0, 0, 2, 12, 4, 4, 4, 6]
def mf1 (k : Nat) : Int32 := match k with | 5 => -1 | 38 => 5 | 39 => 5 | 40 => 24 | 51 => -1 | 52 => -1 | _ => 0
def mg1 (k : Nat) : Nat → Int32 := match k with | 3 => wfl 112 | 46 => fun s => wl5.getD s 0 | _ => fun _ => 0
/-- the walls around a floor w wide of n squares, at x -/
def pv (w n x : Int32) : Int32 := (((if w ≤ x then 0 else 1) ||| (if jrem x w = w - 1 then 2 else 0)) ||| (if x < n - w then 0 else 4)) ||| (if jrem x w = 0 then 8 else 0)
def pz (w n : Int32) (g : Nat → Nat → Int32) (i : Nat) : Nat → Nat → Int32 := fun k s => if k = 46 ∧ s < i then pv w n (nI s) else g k s
theorem pz_0 {w n : Int32} {g : Nat → Nat → Int32} : pz w n g 0 = g := by funext k s; simp [pz]
theorem pz_s {w n : Int32} {g : Nat → Nat → Int32} {i : Nat} : pt (pz w n g i) 46 i (pv w n (nI i)) = pz w n g (i + 1) := by
  funext k s
  rw [pt_r]
  unfold pz
  by_cases hk : k = 46
  · by_cases hs : s = i
    · simp [hk, hs]
    · by_cases h2 : s < i
      · simp [hk, hs, h2, Nat.lt_succ_of_lt h2]
      · have h3 : ¬ s < i + 1 := by omega
        simp [hk, hs, h2, h3]
  · simp [hk]
theorem m_plain {f : Nat → Int32} {g : Nat → Nat → Int32} {K : mS → Prop} {n : Nat} (hn : f 38 * f 39 = nI n) (h36 : n ≤ 36) (hw : ¬ f 38 = 0) (hk : K (f, pz (f 38) (nI n) g n)) : wpX11_plainWalls f g K := by
  unfold wpX11_plainWalls wpX11_plainWalls_b0
  refine lpz (w := fun n a x => wpX11_plainWalls_b2 n f a x K) (pz (f 38) (nI n) g) n pz_0 (fun m => ?_) (fun m i hi ih => ?_)
  · unfold wpX11_plainWalls_b2 wpX11_plainWalls_b2_body wpX11_squares wpX11_squares_b0
    rw [hn]
    exact ⟨fun _ => hk, fun h => absurd (nI_le (Nat.le_refl n) (by omega)) h⟩
  · have leaf : ∀ a b c d : Int32, (if f 38 ≤ nI i then (0 : Int32) else 1) = a → (if jrem (nI i) (f 38) = f 38 - 1 then (2 : Int32) else 0) = b → (if nI i < nI n - f 38 then (0 : Int32) else 4) = c → (if jrem (nI i) (f 38) = 0 then (8 : Int32) else 0) = d →
        wpX11_plainWalls_b83 (fun f g x1 => wpX11_plainWalls_b2 m f g x1 K) f (pz (f 38) (nI n) g i) (nI i) ((a ||| b) ||| c) d (nI i) K := by
      intro a b c d ha hb hc hd
      unfold wpX11_plainWalls_b83
      refine ⟨vin (by omega) (by decide), ?_⟩
      show wpX11_plainWalls_b2 m f (pt (pz (f 38) (nI n) g i) 46 (ix (nI i)) (((a ||| b) ||| c) ||| d)) (nI i + 1) K
      have e : (((a ||| b) ||| c) ||| d) = pv (f 38) (nI n) (nI i) := by
        unfold pv
        rw [ha, hb, hc, hd]
      rw [e, ix_nI (by omega), pz_s, nI_1]
      exact ih
    have l67 : ∀ a b c : Int32, (if f 38 ≤ nI i then (0 : Int32) else 1) = a → (if jrem (nI i) (f 38) = f 38 - 1 then (2 : Int32) else 0) = b → (if nI i < nI n - f 38 then (0 : Int32) else 4) = c →
        wpX11_plainWalls_b67 (fun f g x1 => wpX11_plainWalls_b2 m f g x1 K) f (pz (f 38) (nI n) g i) (nI i) (a ||| b) c (nI i) K := by
      intro a b c ha hb hc
      unfold wpX11_plainWalls_b67
      exact ⟨hw, fun h => leaf a b c 0 ha hb hc (if_neg h), fun h => leaf a b c 8 ha hb hc (if_pos h)⟩
    have l48 : ∀ a b : Int32, (if f 38 ≤ nI i then (0 : Int32) else 1) = a → (if jrem (nI i) (f 38) = f 38 - 1 then (2 : Int32) else 0) = b →
        wpX11_plainWalls_b48 (fun f g x1 => wpX11_plainWalls_b2 m f g x1 K) f (pz (f 38) (nI n) g i) (nI i) a b (nI i) K := by
      intro a b ha hb
      unfold wpX11_plainWalls_b48 wpX11_squares wpX11_squares_b0
      rw [hn]
      exact ⟨fun h => l67 a b 0 ha hb (if_pos h), fun h => l67 a b 4 ha hb (if_neg h)⟩
    have l28 : ∀ a : Int32, (if f 38 ≤ nI i then (0 : Int32) else 1) = a →
        wpX11_plainWalls_b28 (fun f g x1 => wpX11_plainWalls_b2 m f g x1 K) f (pz (f 38) (nI n) g i) (nI i) a (nI i) K := by
      intro a ha
      unfold wpX11_plainWalls_b28
      exact ⟨hw, fun h => l48 a 0 ha (if_neg h), fun h => l48 a 2 ha (if_pos h)⟩
    unfold wpX11_plainWalls_b2 wpX11_plainWalls_b2_body wpX11_squares wpX11_squares_b0
    rw [hn]
    exact ⟨fun h => absurd h (nI_ge hi (by omega)), fun _ => ⟨fun h => l28 0 (if_pos h), fun h => l28 1 (if_neg h)⟩⟩
/-- way and yes put to 0 on the first i squares -/
def zz (g : Nat → Nat → Int32) (i : Nat) : Nat → Nat → Int32 := fun k s => if (k = 47 ∨ k = 48) ∧ s < i then 0 else g k s
theorem zz_0 {g : Nat → Nat → Int32} : zz g 0 = g := by funext k s; simp [zz]
theorem zz_s {g : Nat → Nat → Int32} {i : Nat} : pt (pt (zz g i) 47 i 0) 48 i 0 = zz g (i + 1) := by
  funext k s
  rw [pt_r, pt_r, pt_r]
  unfold zz
  by_cases h7 : k = 47
  · subst h7
    by_cases hs : s = i
    · simp [hs]
    · by_cases h2 : s < i
      · simp [hs, h2, Nat.lt_succ_of_lt h2]
      · have h3 : ¬ s < i + 1 := by omega
        simp [hs, h2, h3]
  · by_cases h8 : k = 48
    · subst h8
      by_cases hs : s = i
      · simp [hs]
      · by_cases h2 : s < i
        · simp [hs, h2, Nat.lt_succ_of_lt h2]
        · have h3 : ¬ s < i + 1 := by omega
          simp [hs, h2, h3]
    · simp [h7, h8]
theorem m_wipes {f : Nat → Int32} {g : Nat → Nat → Int32} {K : mS → Prop} {n : Nat} (hn : f 38 * f 39 = nI n) (h36 : n ≤ 36) (hk : K (f, zz g n)) : wpX11_wipes f g K := by
  unfold wpX11_wipes wpX11_wipes_b0
  refine lpz (w := fun n a x => wpX11_wipes_b2 n f a x K) (zz g) n zz_0 (fun m => ?_) (fun m i hi ih => ?_)
  · unfold wpX11_wipes_b2 wpX11_wipes_b2_body wpX11_squares wpX11_squares_b0
    rw [hn]
    exact ⟨fun _ => hk, fun h => absurd (nI_le (Nat.le_refl n) (by omega)) h⟩
  · unfold wpX11_wipes_b2 wpX11_wipes_b2_body wpX11_squares wpX11_squares_b0
    rw [hn]
    refine ⟨fun h => absurd h (nI_ge hi (by omega)), fun _ => ⟨vin (by omega) (by decide), vin (by omega) (by decide), ?_⟩⟩
    show wpX11_wipes_b2 m f (pt (pt (zz g i) 47 (ix (nI i)) 0) 48 (ix (nI i)) 0) (nI i + 1) K
    rw [ix_nI (by omega), zz_s, nI_1]
    exact ih

/-- nothing kept -/
def kz (g : Nat → Nat → Int32) (i : Nat) : Nat → Nat → Int32 := fun k s => if k = 56 ∧ s < i then 0 else g k s
theorem kz_0 {g : Nat → Nat → Int32} : kz g 0 = g := by funext k s; simp [kz]
theorem kz_s {g : Nat → Nat → Int32} {i : Nat} : pt (kz g i) 56 i 0 = kz g (i + 1) := by
  funext k s
  rw [pt_r]
  unfold kz
  by_cases hk : k = 56
  · by_cases hs : s = i
    · simp [hk, hs]
    · by_cases h2 : s < i
      · simp [hk, hs, h2, Nat.lt_succ_of_lt h2]
      · have h3 : ¬ s < i + 1 := by omega
        simp [hk, hs, h2, h3]
  · simp [hk]
theorem m_begins {f : Nat → Int32} {g : Nat → Nat → Int32} {K : mS → Prop} {w h : Int32} {n : Nat} (hn : w * h = nI n) (h36 : n ≤ 36) (hw : ¬ w = 0) (hk : ∀ f' : Nat → Int32, (f' = upd (upd (upd (upd (upd (upd (upd (upd (upd (upd f 38 w) 39 h) 40 (w * h - 1)) 41 0) 42 0) 43 0) 44 0) 45 (f 49 &&& f 50)) 51 (-1)) 66 0) → K (f', kz (zz (pz w (nI n) g n) 36) 4)) : wpX11_begins f g w h K := by
  unfold wpX11_begins wpX11_begins_b0
  refine m_plain (n := n) (by simpa [upd_r] using hn) h36 (by simpa [upd_r] using hw) ?_
  refine lpz (w := fun n a x => wpX11_begins_b58 n (upd (upd (upd (upd (upd (upd (upd (upd f 38 w) 39 h) 40 (w * h - 1)) 41 0) 42 0) 43 0) 44 0) 45 (f 49 &&& f 50)) a x K) (zz (pz w (nI n) g n)) 36 (by rw [zz_0]; simp [upd_r]) (fun m => ?_) (fun m i hi ih => ?_)
  · unfold wpX11_begins_b58 wpX11_begins_b58_body wpX11_forgets wpX11_forgets_b0
    refine ⟨fun _ => ?_, fun h => absurd (nI_le (Nat.le_refl 36) (by omega)) h⟩
    refine lpz (w := fun n a x => wpX11_begins_b95 n _ a x K) (kz (zz (pz w (nI n) g n) 36)) 4 kz_0 (fun m => ?_) (fun m i hi ih => ?_)
    · unfold wpX11_begins_b95 wpX11_begins_b95_body
      exact ⟨fun _ => hk _ rfl, fun h => absurd (nI_le (Nat.le_refl 4) (by omega)) h⟩
    · unfold wpX11_begins_b95 wpX11_begins_b95_body
      refine ⟨fun h => absurd h (nI_ge hi (by decide)), fun _ => ⟨vin (by omega) (by decide), ?_⟩⟩
      show wpX11_begins_b95 m _ (pt (kz _ i) 56 (ix (nI i)) (vp_nar .boolean 0)) (nI i + 1) K
      rw [ix_nI (by omega), nz0, kz_s, nI_1]
      exact ih
  · unfold wpX11_begins_b58 wpX11_begins_b58_body
    refine ⟨fun h => absurd h (nI_ge hi (by decide)), fun _ => ⟨vin (by omega) (by decide), vin (by omega) (by decide), ?_⟩⟩
    show wpX11_begins_b58 m _ (pt (pt (zz _ i) 47 (ix (nI i)) 0) 48 (ix (nI i)) 0) (nI i + 1) K
    rw [ix_nI (by omega), zz_s, nI_1]
    exact ih
theorem pv5 : ∀ s, s < 25 → pv 5 25 (nI s) = wl5.getD s 0 := by decide
theorem m_fresh {K : mS → Prop} (hk : K (mf1, mg1)) : wpX11_begins mf0 mg0 5 5 K := by
  refine m_begins (n := 25) rfl (by decide) (by decide) (fun f' e => ?_)
  have e1 : f' = mf1 := by
    subst e
    funext k
    simp only [upd_r]
    by_cases h1 : k = 66 <;> by_cases h2 : k = 51 <;> by_cases h3 : k = 45 <;> by_cases h4 : k = 44 <;> by_cases h5 : k = 43 <;> by_cases h6 : k = 42 <;> by_cases h7 : k = 41 <;> by_cases h8 : k = 40 <;> by_cases h9 : k = 39 <;> by_cases h10 : k = 38 <;> first | omega | (subst_vars; rfl) | skip
    simp only [h1, h2, h3, h4, h5, h6, h7, h8, h9, h10, if_false]
    unfold mf0 mf1
    split <;> simp_all
  have e2 : kz (zz (pz 5 (nI 25) mg0 25) 36) 4 = mg1 := by
    funext k s
    unfold kz zz pz
    by_cases h46 : k = 46
    · subst h46
      by_cases hs : s < 25
      · simp [hs]
        exact pv5 s hs
      · have : wl5.getD s 0 = 0 := by
          rw [List.getD_eq_getElem?_getD, List.getElem?_eq_none (Nat.le_trans (by decide) (Nat.le_of_not_lt hs))]
          rfl
        simp [hs, mg0, mg1]
        rw [← List.getD_eq_getElem?_getD]
        exact this.symm
    · by_cases h3 : k = 3
      · subst h3; simp [mg0, mg1]
      · have g0 : mg0 k s = 0 := by unfold mg0; split <;> simp_all
        have g1 : mg1 k s = 0 := by unfold mg1; split <;> simp_all
        rw [g1]
        simp [h46, g0]
  rw [e1, e2]
  exact hk
