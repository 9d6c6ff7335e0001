/-! Plain facts for the walks. -/
theorem lp {w : Nat → Nat → Prop} (N : Nat) (hx : ∀ n, w (n + 1) N) (hs : ∀ n i, i < N → w n (i + 1) → w (n + 1) i) : ∃ n, w n 0 := by
  have h : ∀ d i, i + d = N → w (d + 1) i := by
    intro d
    induction d with
    | zero =>
      intro i hi
      have e : i = N := by omega
      subst e
      exact hx 0
    | succ d ih => exact fun i hi => hs (d + 1) i (by omega) (ih (i + 1) (by omega))
  exact ⟨N + 1, h N 0 (by omega)⟩
/-- a loop that runs N times, its state told by the number of rounds -/
theorem lpz {α : Type} {w : Nat → α → Int32 → Prop} {a0 : α} (Z : Nat → α) (N : Nat) (h0 : Z 0 = a0) (hx : ∀ n, w (n + 1) (Z N) (nI N)) (hs : ∀ n i, i < N → w n (Z (i + 1)) (nI (i + 1)) → w (n + 1) (Z i) (nI i)) : ∃ n, w n a0 0 := by
  obtain ⟨n, h⟩ := lp (w := fun n i => w n (Z i) (nI i)) N hx hs
  rw [h0] at h
  exact ⟨n, h⟩
/-- a loop whose states keep an invariant -/
theorem lpi {α : Type} {w : Nat → α → Int32 → Prop} {a0 : α} (I : Nat → α → Prop) (N : Nat) (h0 : I 0 a0) (hx : ∀ n a, I N a → w (n + 1) a (nI N)) (hs : ∀ n i a, i < N → I i a → (∀ a', I (i + 1) a' → w n a' (nI (i + 1))) → w (n + 1) a (nI i)) : ∃ n, w n a0 0 := by
  have h : ∀ d i a, i + d = N → I i a → w (d + 1) a (nI i) := by
    intro d
    induction d with
    | zero =>
      intro i a hi ha
      have e : i = N := by omega
      subst e
      exact hx 0 a ha
    | succ d ih => exact fun i a hi ha => hs (d + 1) i a (by omega) ha (fun a' ha' => ih (i + 1) a' (by omega) ha')
  exact ⟨N + 1, h N 0 a0 (by omega) h0⟩
theorem upd_r (f : Nat → Int32) (k : Nat) (v : Int32) (j : Nat) : upd f k v j = if j = k then v else f j := rfl
theorem updL_r (f : Nat → Int64) (k : Nat) (v : Int64) (j : Nat) : vp_updL f k v j = if j = k then v else f j := rfl
theorem pt_r (g : Nat → Nat → Int32) (k i : Nat) (v : Int32) (q j : Nat) : pt g k i v q j = if q = k then (if j = i then v else g k j) else g q j := by
  unfold pt va_up upd
  by_cases h : q = k
  · simp [h]
  · simp [h]
theorem ptL_r (g : Nat → Nat → Int64) (k i : Nat) (v : Int64) (q j : Nat) : ptL g k i v q j = if q = k then (if j = i then v else g k j) else g q j := by
  unfold ptL va_up vp_updL
  by_cases h : q = k
  · simp [h]
  · simp [h]
theorem ptN_r (g : Nat → Nat → Nat) (k i : Nat) (v : Nat) (q j : Nat) : ptN g k i v q j = if q = k then (if j = i then v else g q j) else g q j := rfl
theorem upd_sm {f : Nat → Int32} {k : Nat} {v : Int32} (h : f k = v) : upd f k v = f := by
  funext j
  rw [upd_r]
  by_cases hj : j = k
  · rw [if_pos hj, hj, h]
  · rw [if_neg hj]
theorem pt_sm {g : Nat → Nat → Int32} {k i : Nat} {v : Int32} (h : g k i = v) : pt g k i v = g := by
  funext q j
  rw [pt_r]
  by_cases hq : q = k
  · by_cases hj : j = i
    · rw [if_pos hq, if_pos hj, hq, hj, h]
    · rw [if_pos hq, if_neg hj, hq]
  · rw [if_neg hq]
theorem ptL_sm {g : Nat → Nat → Int64} {k i : Nat} {v : Int64} (h : g k i = v) : ptL g k i v = g := by
  funext q j
  rw [ptL_r]
  by_cases hq : q = k
  · by_cases hj : j = i
    · rw [if_pos hq, if_pos hj, hq, hj, h]
    · rw [if_pos hq, if_neg hj, hq]
  · rw [if_neg hq]
theorem ix_nI {n : Nat} (h : n < 2 ^ 31) : ix (nI n) = n := nI_clamp h
theorem vin {n N : Nat} (h : n < N) (hN : N < 2 ^ 31) : vp_in (nI n) N := vp_in_nI h hN
theorem nz0 : vp_nar .boolean (0 : Int32) = 0 := rfl
theorem nz1 : vp_nar .boolean (1 : Int32) = 1 := rfl
theorem i_nlt {a b : Int32} (h : ¬ a < b) : b ≤ a := Int32.not_lt.mp h
theorem i_nle {a b : Int32} (h : ¬ a ≤ b) : b < a := Int32.not_le.mp h
/-- a number that lies between two -/
theorem i_mid {x hi : Int32} {n : Nat} (hM : hi.toInt = n) (h : (0 : Int32) ≤ x) (h5 : x ≤ hi) : ∃ j : Nat, j ≤ n ∧ x = nI j := nI_of2 hM (Int32.not_lt.mpr h) h5
theorem i_sq {x hi : Int32} {n : Nat} (hM : hi.toInt = n) (h : ¬ x < 0) (h5 : ¬ hi ≤ x) : ∃ j : Nat, j < n ∧ x = nI j := by
  obtain ⟨j, hj, rfl⟩ := nI_of2 (x := x) (M := hi) hM h (Int32.le_of_lt (Int32.not_le.mp h5))
  refine ⟨j, ?_, rfl⟩
  rcases Nat.lt_or_ge j n with h1 | h1
  · exact h1
  · exfalso
    apply h5
    rw [Int32.le_iff_toInt_le, hM]
    have hn : n < 2 ^ 31 := by have := Int32.toInt_lt hi; omega
    rw [nI_toInt (by omega)]
    omega
