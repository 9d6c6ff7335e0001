/-! How both sides begin. -/
theorem M00 : M0 mf0 mg0 := by
  refine ⟨fun k => ?_, fun k i => ?_, by decide, fun k => ⟨fun h => absurd h (by show ¬ (0 : Int32) = 5; decide), fun h => absurd h (by show ¬ ((0 : Int32) = 6 ∨ (0 : Int32) = 7); decide)⟩⟩
  · refine ⟨?_, ?_, ?_, ?_, ?_, ?_, ?_, ?_, ?_⟩ <;> (rintro rfl; decide)
  · refine ⟨?_, ?_, ?_, ?_, ?_⟩
    · rintro rfl rfl; decide
    · rintro (rfl | rfl) <;> (show (0 : Int32) ≤ 0 ∧ (0 : Int32) ≤ 12; decide)
    · rintro (rfl | rfl) <;> (show (0 : Int32) ≤ 0 ∧ (0 : Int32) ≤ 64; decide)
    · rintro rfl; show (0 : Int32) ≤ 0 ∧ (0 : Int32) < 64; decide
    · rintro rfl; show (0 : Int32) ≤ 0 ∧ (0 : Int32) ≤ 3; decide
theorem m_fresh : wpX11_begins mf0 mg0 5 5 (fun u => MX 5 5 u) := m_begins (w := 5) (h := 5) M00 ⟨⟨by decide, by decide⟩, by decide, by decide⟩ (fun u hu hz => ⟨hu, fun k hk hne => absurd (hz k hk) hne⟩)
theorem kd21z : ∀ p, p < 104 → kd p = 21 → p ∈ [16, 30, 32, 33, 34, 36, 37, 38, 40, 41, 42, 13, 14, 15] := by decide +kernel
theorem cx0 : CX 25 (cF0, cL0, cr0) := by
  refine ⟨⟨fun p i => ?_, ⟨rfl, rfl, rfl, rfl, rfl⟩, fun _ _ => rfl⟩, rfl, fun k hk hb => absurd (jshr0 hk) hb⟩
  refine ⟨?_, ?_, ?_, ?_, ?_, ?_, ?_, ?_, ?_⟩
  · rintro rfl rfl; decide
  · rintro rfl rfl; decide
  · rintro rfl rfl; decide
  · rintro rfl rfl; decide
  · intro h; rintro rfl; rcases is6 h with rfl | rfl <;> decide
  · rintro (rfl | rfl) <;> (show (0 : Int32) ≤ 0 ∧ (0 : Int32) ≤ 360; decide)
  · intro h; rintro rfl; rcases is4 h with rfl | rfl | rfl <;> decide
  · intro h; rintro rfl; rcases is4 h with rfl | rfl | rfl <;> decide
  · intro h
    have hm := kd21z p (kd_lt h (by decide)) h
    simp only [List.mem_cons, List.not_mem_nil, or_false] at hm
    rcases hm with rfl | rfl | rfl | rfl | rfl | rfl | rfl | rfl | rfl | rfl | rfl | rfl | rfl | rfl <;> (show (0 : Int32) ≤ 0 ∧ (0 : Int32) ≤ 64; decide)
theorem lawG {N : Nat} {xs : Nat → Int32} {ou : Nat → Int64} {u : mS} (hN : N ≤ 3072) (hM : MX 5 5 u) : ∃ n, n ≤ 513 ∧ wpL_lawX_b23 N xs n cF0 cL0 cr0 u.1 u.2 ou 0 (fun r _ => r = 1) :=
  ⟨513, Nat.le_refl _, lawN hN (fun _ => rfl) 513 0 (by decide) (by omega) (by omega) _ _ _ _ _ _ ⟨5, 5, cx0, hM⟩⟩
