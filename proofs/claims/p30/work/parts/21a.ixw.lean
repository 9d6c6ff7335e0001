/-! The place of a word in a vocabulary. -/
theorem s_X9_letterCode0 {x0 : Int32} {K : Int32 → Unit → Prop} (hK : ∀ v : Int32, K v ()) : wpX9_letterCode x0 K := by
  unfold wpX9_letterCode wpX9_letterCode_b0
  exact hK _
theorem zl_c {z : Nat} (hz : z < 2) : jshr (Int32.ofNat (zl z)) 0 = Int32.ofNat (zl z) := by
  have h : z = 0 ∨ z = 1 := by omega
  rcases h with rfl | rfl <;> decide
theorem zl_n {z : Nat} (hz : z < 2) : (Int32.ofNat (zl z)).toInt = zl z := by
  have h : z = 0 ∨ z = 1 := by omega
  rcases h with rfl | rfl <;> decide
theorem l_X9_indexOfWord_b7 {z1 : Nat} {K : Int32 → Unit → Prop} (hz : z1 < 2) (hK : ∀ v, K v ()) (n : Nat) : ∀ (x0 x2 x3 x4 : Int32), 0 ≤ x4 → mu x4 < n → wpX9_indexOfWord_b7 z1 n x0 x2 x3 x4 K := by
  induction n with
  | zero => intro x0 x2 x3 x4 _ hm; exact absurd hm (Nat.not_lt_zero _)
  | succ n ih =>
    intro x0 x2 x3 x4 h0 hm
    unfold wpX9_indexOfWord_b7 wpX9_indexOfWord_b7_body wpJ0_length_8abf5
    rw [zl_c hz]
    refine ⟨fun _ => hK _, fun c => ?_⟩
    have hb : ∀ x2 x3, wpX9_indexOfWord_b56 (fun x0 x2 x3 x4 => wpX9_indexOfWord_b7 z1 n x0 x2 x3 x4 K) z1 x0 x2 x3 x4 K := fun x2 x3 => by
      unfold wpX9_indexOfWord_b56
      exact ih _ _ _ _ (by grind) (lt1 (mu_lt c) hm)
    unfold wpJ0_charAt_5068e
    refine ⟨⟨vI (zl_n hz) h0 (Int32.not_le.mp c), Int32.not_lt.mpr h0, Int32.not_le.mp c⟩, fun r => ⟨fun _ => ⟨fun _ => hb _ _, fun _ => hK _⟩, fun _ => ?_⟩⟩
    exact s_X9_letterCode0 (fun _ => hb _ _)
theorem s_X9_indexOfWord {z1 : Nat} {x0 : Int32} {K : Int32 → Unit → Prop} (hz : z1 < 2) (hK : ∀ v, K v ()) : wpX9_indexOfWord z1 x0 K := by
  unfold wpX9_indexOfWord wpX9_indexOfWord_b0
  exact ⟨_, l_X9_indexOfWord_b7 hz hK _ _ _ _ _ (by decide) (Nat.lt_succ_self _)⟩
