/-- the reference's state kept at place a, the arrays' first i squares -/
def ps (f : Nat → Int32) (g : Nat → Nat → Int32) (a i : Nat) : Nat → Nat → Int32 := fun k s => if k = 57 then (if a ≤ s ∧ s < a + 8 then f (38 + (s - a)) else if a + 8 ≤ s ∧ s < a + 8 + i then g 46 (s - (a + 8)) else if a + 44 ≤ s ∧ s < a + 44 + i then g 47 (s - (a + 44)) else if a + 80 ≤ s ∧ s < a + 80 + i then g 48 (s - (a + 80)) else g 57 s) else g k s
theorem ps_s {f : Nat → Int32} {g : Nat → Nat → Int32} {a i : Nat} (hi : i < 36) : pt (pt (pt (ps f g a i) 57 (a + 8 + i) (g 46 i)) 57 (a + 44 + i) (g 47 i)) 57 (a + 80 + i) (g 48 i) = ps f g a (i + 1) := by
  funext k s
  by_cases hk : k = 57
  · subst hk
    simp only [pt_r, ps, if_true]
    by_cases h1 : s = a + 80 + i
    · subst h1
      rw [if_pos rfl, if_neg (by omega), if_neg (by omega), if_neg (by omega), if_pos (by omega)]
      congr 1; omega
    · rw [if_neg h1]
      by_cases h2 : s = a + 44 + i
      · subst h2
        rw [if_pos rfl, if_neg (by omega), if_neg (by omega), if_pos (by omega)]
        congr 1; omega
      · rw [if_neg h2]
        by_cases h3 : s = a + 8 + i
        · subst h3
          rw [if_pos rfl, if_neg (by omega), if_pos (by omega)]
          congr 1; omega
        · rw [if_neg h3]
          have e1 : (a + 8 ≤ s ∧ s < a + 8 + (i + 1)) = (a + 8 ≤ s ∧ s < a + 8 + i) := propext (by omega)
          have e2 : (a + 44 ≤ s ∧ s < a + 44 + (i + 1)) = (a + 44 ≤ s ∧ s < a + 44 + i) := propext (by omega)
          have e3 : (a + 80 ≤ s ∧ s < a + 80 + (i + 1)) = (a + 80 ≤ s ∧ s < a + 80 + i) := propext (by omega)
          simp only [e1, e2, e3]
  · simp only [pt_r, ps, hk, if_false]
theorem ps_0 {f : Nat → Int32} {g : Nat → Nat → Int32} {a : Nat} : pt (pt (pt (pt (pt (pt (pt (pt g 57 a (f 38)) 57 (a + 1) (f 39)) 57 (a + 2) (f 40)) 57 (a + 3) (f 41)) 57 (a + 4) (f 42)) 57 (a + 5) (f 43)) 57 (a + 6) (f 44)) 57 (a + 7) (f 45) = ps f g a 0 := by
  funext k s
  by_cases hk : k = 57
  · subst hk
    simp only [pt_r, ps, if_true]
    by_cases c0 : a ≤ s ∧ s < a + 8
    · rw [if_pos c0]
      rcases (show s = a ∨ s = a + 1 ∨ s = a + 2 ∨ s = a + 3 ∨ s = a + 4 ∨ s = a + 5 ∨ s = a + 6 ∨ s = a + 7 by omega) with e | e | e | e | e | e | e | e <;> subst e <;> simp <;> (try omega)
    · rw [if_neg c0, if_neg (by omega), if_neg (by omega), if_neg (by omega), if_neg (by omega), if_neg (by omega), if_neg (by omega), if_neg (by omega), if_neg (by omega), if_neg (by omega), if_neg (by omega), if_neg (by omega)]
  · simp only [pt_r, ps, hk, if_false]
theorem m_puts {f : Nat → Int32} {g : Nat → Nat → Int32} {K : mS → Prop} {k : Nat} (hk7 : k < 7) (hk : K (f, ps f g (120 * k) 36)) : wpX11_puts f g (nI k) K := by
  unfold wpX11_puts wpX11_puts_b0
  have e : (120 : Int32) * nI k = nI (120 * k) := pk_mul 120 k
  rw [e]
  have ea : ∀ j : Nat, nI (120 * k) + nI j = nI (120 * k + j) := fun j => nI_add _ j
  rw [show (1 : Int32) = nI 1 from rfl, show (2 : Int32) = nI 2 from rfl, show (3 : Int32) = nI 3 from rfl, show (4 : Int32) = nI 4 from rfl, show (5 : Int32) = nI 5 from rfl, show (6 : Int32) = nI 6 from rfl, show (7 : Int32) = nI 7 from rfl]
  simp only [ea]
  refine ⟨vin (by omega) (by decide), vin (by omega) (by decide), vin (by omega) (by decide), vin (by omega) (by decide), vin (by omega) (by decide), vin (by omega) (by decide), vin (by omega) (by decide), vin (by omega) (by decide), ?_⟩
  rw [ix_nI (by omega), ix_nI (by omega), ix_nI (by omega), ix_nI (by omega), ix_nI (by omega), ix_nI (by omega), ix_nI (by omega), ix_nI (by omega), ps_0]
  refine lpz (w := fun n a x => wpX11_puts_b103 n f a (nI (120 * k)) x K) (ps f g (120 * k)) 36 rfl (fun m => ?_) (fun m i hi ih => ?_)
  · unfold wpX11_puts_b103 wpX11_puts_b103_body
    exact ⟨fun _ => hk, fun h => absurd (Int32.le_refl _) h⟩
  · unfold wpX11_puts_b103 wpX11_puts_b103_body
    rw [show (8 : Int32) = nI 8 from rfl, show (44 : Int32) = nI 44 from rfl, show (80 : Int32) = nI 80 from rfl, ea, ea, ea, nI_add, nI_add, nI_add]
    refine ⟨fun h => absurd h (nI_ge hi (by decide)), fun _ => ⟨vin (by omega) (by decide), vin (by omega) (by decide), vin (by omega) (by decide), vin (by omega) (by decide), vin (by omega) (by decide), vin (by omega) (by decide), ?_⟩⟩
    rw [ix_nI (by omega), ix_nI (by omega), ix_nI (by omega), ix_nI (by omega), nI_1]
    have e46 : ps f g (120 * k) i 46 i = g 46 i := by simp [ps]
    have e47 : ps f g (120 * k) i 47 i = g 47 i := by simp [ps]
    have e48 : ps f g (120 * k) i 48 i = g 48 i := by simp [ps]
    rw [e46]
    rw [show (ps f g (120 * k) i) 47 i = g 47 i from e47, show (ps f g (120 * k) i) 48 i = g 48 i from e48, ps_s hi]
    exact ih
/-- .. and taken back -/
def tf (f : Nat → Int32) (g : Nat → Nat → Int32) (a : Nat) : Nat → Int32 := fun j => if 38 ≤ j ∧ j < 46 then g 57 (a + (j - 38)) else f j
def tg (g : Nat → Nat → Int32) (a i : Nat) : Nat → Nat → Int32 := fun k s => if s < i then (if k = 46 then g 57 (a + 8 + s) else if k = 47 then g 57 (a + 44 + s) else if k = 48 then g 57 (a + 80 + s) else g k s) else g k s
theorem tg_s {g : Nat → Nat → Int32} {a i : Nat} : pt (pt (pt (tg g a i) 46 i (g 57 (a + 8 + i))) 47 i (g 57 (a + 44 + i))) 48 i (g 57 (a + 80 + i)) = tg g a (i + 1) := by
  funext k s
  simp only [pt_r, tg]
  by_cases hs : s = i
  · subst hs
    have h1 : s < s + 1 := Nat.lt_succ_self s
    have h2 : ¬ s < s := Nat.lt_irrefl s
    simp only [h1, h2, if_true, if_false]
    by_cases h48 : k = 48
    · subst h48; simp
    · by_cases h47 : k = 47
      · subst h47; simp
      · by_cases h46 : k = 46
        · subst h46; simp
        · simp [h46, h47, h48]
  · by_cases h2 : s < i
    · have h3 : s < i + 1 := by omega
      simp only [hs, h2, h3, if_true, if_false]
      by_cases h48 : k = 48
      · subst h48; simp
      · by_cases h47 : k = 47
        · subst h47; simp
        · by_cases h46 : k = 46
          · subst h46; simp
          · simp [h46, h47, h48]
    · have h3 : ¬ s < i + 1 := by omega
      simp only [hs, h2, h3, if_false]
      by_cases h48 : k = 48
      · subst h48; simp
      · by_cases h47 : k = 47
        · subst h47; simp
        · by_cases h46 : k = 46
          · subst h46; simp
          · simp [h46, h47, h48]
theorem tf_0 {f : Nat → Int32} {g : Nat → Nat → Int32} {a : Nat} : upd (upd (upd (upd (upd (upd (upd (upd f 38 (g 57 a)) 39 (g 57 (a + 1))) 40 (g 57 (a + 2))) 41 (g 57 (a + 3))) 42 (g 57 (a + 4))) 43 (g 57 (a + 5))) 44 (g 57 (a + 6))) 45 (g 57 (a + 7)) = tf f g a := by
  funext j
  simp only [upd_r, tf]
  by_cases c : 38 ≤ j ∧ j < 46
  · rw [if_pos c]
    rcases (show j = 38 ∨ j = 39 ∨ j = 40 ∨ j = 41 ∨ j = 42 ∨ j = 43 ∨ j = 44 ∨ j = 45 by omega) with e | e | e | e | e | e | e | e <;> subst e <;> rfl
  · rw [if_neg c, if_neg (by omega), if_neg (by omega), if_neg (by omega), if_neg (by omega), if_neg (by omega), if_neg (by omega), if_neg (by omega), if_neg (by omega)]
theorem m_takes {f : Nat → Int32} {g : Nat → Nat → Int32} {K : mS → Prop} {k : Nat} (hk7 : k < 7) (hk : K (tf f g (120 * k), tg g (120 * k) 36)) : wpX11_takes f g (nI k) K := by
  unfold wpX11_takes wpX11_takes_b0
  have e : (120 : Int32) * nI k = nI (120 * k) := pk_mul 120 k
  rw [e]
  have ea : ∀ j : Nat, nI (120 * k) + nI j = nI (120 * k + j) := fun j => nI_add _ j
  rw [show (1 : Int32) = nI 1 from rfl, show (2 : Int32) = nI 2 from rfl, show (3 : Int32) = nI 3 from rfl, show (4 : Int32) = nI 4 from rfl, show (5 : Int32) = nI 5 from rfl, show (6 : Int32) = nI 6 from rfl, show (7 : Int32) = nI 7 from rfl]
  simp only [ea]
  refine ⟨vin (by omega) (by decide), vin (by omega) (by decide), vin (by omega) (by decide), vin (by omega) (by decide), vin (by omega) (by decide), vin (by omega) (by decide), vin (by omega) (by decide), vin (by omega) (by decide), ?_⟩
  rw [ix_nI (by omega), ix_nI (by omega), ix_nI (by omega), ix_nI (by omega), ix_nI (by omega), ix_nI (by omega), ix_nI (by omega), ix_nI (by omega), tf_0]
  refine lpz (w := fun n a x => wpX11_takes_b103 n (tf f g (120 * k)) a (nI (120 * k)) x K) (tg g (120 * k)) 36 (by funext q s; simp [tg]) (fun m => ?_) (fun m i hi ih => ?_)
  · unfold wpX11_takes_b103 wpX11_takes_b103_body
    exact ⟨fun _ => hk, fun h => absurd (Int32.le_refl _) h⟩
  · unfold wpX11_takes_b103 wpX11_takes_b103_body
    rw [show (8 : Int32) = nI 8 from rfl, show (44 : Int32) = nI 44 from rfl, show (80 : Int32) = nI 80 from rfl, ea, ea, ea, nI_add, nI_add, nI_add]
    refine ⟨fun h => absurd h (nI_ge hi (by decide)), fun _ => ⟨vin (by omega) (by decide), vin (by omega) (by decide), vin (by omega) (by decide), vin (by omega) (by decide), vin (by omega) (by decide), vin (by omega) (by decide), ?_⟩⟩
    rw [ix_nI (by omega), ix_nI (by omega), ix_nI (by omega), ix_nI (by omega), nI_1]
    have e57 : ∀ s, tg g (120 * k) i 57 s = g 57 s := fun s => by simp [tg]
    simp only [e57, tg_s]
    exact ih
theorem m_putsA {f : Nat → Int32} {g : Nat → Nat → Int32} {K : mS → Prop} (k a : Nat) (e : 120 * k = a) (hk7 : k < 7) (hk : K (f, ps f g a 36)) : wpX11_puts f g (nI k) K := by subst e; exact m_puts hk7 hk
theorem m_takesA {f : Nat → Int32} {g : Nat → Nat → Int32} {K : mS → Prop} (k a : Nat) (e : 120 * k = a) (hk7 : k < 7) (hk : K (tf f g a, tg g a 36)) : wpX11_takes f g (nI k) K := by subst e; exact m_takes hk7 hk
theorem m_keep {K : Int32 → mS → Prop} {x : Int32} (hk : ∀ u, K (if 0 ≤ x ∧ x ≤ 3 then 1 else 0) u) : wpX11_keep mf1 mg1 x K := by
  unfold wpX11_keep wpX11_keep_b0
  refine m_isIn (fun h1 h2 => ⟨fun _ => ?_, fun hc => absurd hc (by decide)⟩) (fun h => ⟨fun hc => absurd rfl hc, fun _ => ?_⟩)
  · rw [if_pos ⟨h1, h2⟩] at hk
    obtain ⟨j, hj, rfl⟩ := i_mid (n := 3) rfl h1 h2
    exact m_puts (by omega) ⟨vin (by omega) (by decide), hk _⟩
  · rw [if_neg (fun hc => h.elim (Int32.not_lt.mpr hc.1) (Int32.not_lt.mpr hc.2))] at hk; exact hk _
