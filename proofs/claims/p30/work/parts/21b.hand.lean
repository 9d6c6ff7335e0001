/-! By hand: methods whose numbers hang together. -/
theorem ne4 {a : Nat} (h : kd a = 4) : a ≠ 4 := fun e => by rw [e] at h; exact absurd h (by decide)
theorem inc360 {y : Int32} (h : 0 ≤ y ∧ y ≤ 360) (h2 : y < 360) : 0 ≤ y + 1 ∧ y + 1 ≤ 360 := by grind
theorem lt360 {y l : Int32} (h : 0 ≤ l ∧ l ≤ 30) (h2 : y < l * 12) : y < 360 := by grind
set_option maxHeartbeats 1000000 in
theorem s_X6_addAct {F0 : Nat → Nat → Int32} {a0 : Nat} {F : Nat → Nat → Int32} {L : Nat → Nat → Int64} {r : Nat → Nat → Nat} {x1 : Int32} {K : cS → Prop} (hJ : J F0 F r) (ha0 : kd a0 = 6) (hK : ∀ u : cS, J F0 u.1 u.2.2 → K u) : wpX6_addAct a0 F L r x1 K := by
  have l := hJ.li ha0
  have e := fun i => hJ.ae (i := i) ha0
  unfold wpX6_addAct wpX6_addAct_b0 wpX6_addAct_b27
  refine ⟨fun _ => hK _ hJ, fun c => ?_⟩
  have v1 : vp_in (F a0 0 - 1) 30 := vI (c := 30) rfl (by grind) (by grind)
  refine ⟨v1, fun c2 => ?_, fun _ => hK _ hJ⟩
  have e1 := e (ix (F a0 0 - 1))
  have hlt : F (a0 + 2) (ix (F a0 0 - 1)) < 360 := lt360 l c2
  have hne : ∀ v w : Int32, pt F (a0 + 1) (ix v) w (a0 + 2) = F (a0 + 2) := fun v w => pt_ne (by omega)
  have hne0 : ∀ v w : Int32, pt F (a0 + 1) (ix v) w a0 = F a0 := fun v w => pt_ne (by omega)
  refine ⟨v1, vI (c := 360) rfl e1.1 hlt, v1, v1, ?_⟩
  refine hK _ (J20e ha0 ?_ (Jf (kd6_1 ha0) rfl hJ))
  rw [hne]
  exact inc360 e1 hlt
theorem and3 (x : Int32) : vp_in (x &&& 3) 4 := pk_andIn x (m := 3) 2 rfl (by decide)
section FL
variable {F0 F : Nat → Nat → Int32} {L : Nat → Nat → Int64} {r : Nat → Nat → Nat} {a0 a1 : Nat} {K : cS → Prop}
/-- what a floor's numbers may be -/
theorem cb1 {p i : Nat} {v : Int32} (ha : kd p = 1 ∨ kd p = 12) : CIb p i v := by
  have h : kd p ≠ 9 ∧ kd p ≠ 7 ∧ kd p ≠ 5 ∧ kd p ≠ 6 ∧ kd p ≠ 20 ∧ kd p ≠ 4 ∧ kd p ≠ 21 := by rcases ha with h | h <;> (rw [h]; decide)
  refine ⟨fun e => ?_, fun e => ?_, fun e => ?_, fun e => ?_, fun e => ?_, fun e => ?_, fun e => ?_, fun e => ?_, fun e => ?_⟩
  · subst e; exact absurd kp4 h.1
  · subst e; exact absurd kp4 h.1
  · subst e; exact absurd kp10 h.2.1
  · subst e; exact absurd kp12 h.2.2.1
  · exact absurd e h.2.2.2.1
  · rcases e with e | e
    · subst e; exact absurd kp19 h.2.2.2.2.1
    · subst e; exact absurd kp26 h.2.2.2.2.1
  · exact absurd e h.2.2.2.2.2.1
  · exact absurd e h.2.2.2.2.2.1
  · exact absurd e h.2.2.2.2.2.2
theorem J.fr {F' : Nat → Nat → Int32} (ha : kd a0 = 1) (h : J F0 F r) (hf : ∀ p, p ≠ a0 → p ≠ a0 + 2 → F' p = F p) (hs : ∀ p, sp p = true → F' p = F0 p) : J F0 F' r := by
  refine ⟨fun p i => ?_, h.2.1, hs⟩
  by_cases h1 : p = a0
  · exact cb1 (Or.inl (h1 ▸ ha))
  · by_cases h2 : p = a0 + 2
    · exact cb1 (Or.inr (h2 ▸ kd1_2 ha))
    · rw [hf p h1 h2]; exact h.1 p i
theorem sp_1 : ∀ p, p < 104 → kd p = 1 → sp (p + 2) = false := by decide +kernel
theorem c_clearW : ∀ n : Nat, ∀ (L : Nat → Nat → Int64) (x1 : Int32), (∀ L' : Nat → Nat → Int64, K (F, L', r)) → 0 ≤ x1 → mu x1 < n → wpX1_clearWalls_b2 a0 n F L r x1 K := by
  intro n
  induction n with
  | zero => intro L x1 _ _ hm; exact absurd hm (Nat.not_lt_zero _)
  | succ n ih =>
    intro L x1 hK h0 hm
    unfold wpX1_clearWalls_b2 wpX1_clearWalls_b2_body
    refine ⟨fun _ => hK _, fun c => ?_⟩
    have v : vp_in x1 4 := vI (c := 4) rfl h0 (by grind)
    exact ⟨v, v, ih _ _ hK (by grind) (lt1 (mu_lt c) hm)⟩
theorem c_clear (hK : ∀ L' : Nat → Nat → Int64, K (F, L', r)) : wpX1_clearWalls a0 F L r K := by
  unfold wpX1_clearWalls wpX1_clearWalls_b0
  exact ⟨_, c_clearW _ _ _ hK (by decide) (Nat.lt_succ_self _)⟩
theorem c_layL {x1 x2 : Int32} (n : Nat) : ∀ (L : Nat → Nat → Int64) (x3 : Int64) (x5 : Int32), (∀ u : cS, u.2.2 = r → (∀ p, p ≠ a0 + 2 → u.1 p = F p) → K u) → mu x5 < n → wpX1_lay_b32 a0 n F L r x1 x2 x3 x5 K := by
  induction n with
  | zero => intro L x3 x5 _ hm; exact absurd hm (Nat.not_lt_zero _)
  | succ n ih =>
    intro L x3 x5 hK hm
    unfold wpX1_lay_b32 wpX1_lay_b32_body
    refine ⟨fun _ => ?_, fun c => ih _ _ _ hK (lt1 (mu_lt c) hm)⟩
    have v0 : vp_in (0 : Int32) 4 := vI (c := 4) rfl (by decide) (by decide)
    have v1 : vp_in (1 : Int32) 4 := vI (c := 4) rfl (by decide) (by decide)
    have v2 : vp_in (2 : Int32) 4 := vI (c := 4) rfl (by decide) (by decide)
    have v3 : vp_in (3 : Int32) 4 := vI (c := 4) rfl (by decide) (by decide)
    refine ⟨v0, v1, v0, v2, v3, v0, v1, v2, v3, ?_⟩
    refine c_clear (fun L' => hK _ rfl (fun p hp => ?_))
    simp only [pt_ne hp]
theorem c_lay {x1 x2 : Int32} (hK : ∀ u : cS, u.2.2 = r → (∀ p, p ≠ a0 → p ≠ a0 + 2 → u.1 p = F p) → u.1 a0 2 = x1 * x2 → K u) : wpX1_lay a0 F L r x1 x2 K := by
  unfold wpX1_lay wpX1_lay_b0
  refine ⟨_, c_layL _ _ _ _ (fun u h1 h2 => hK u h1 (fun p hp hq => ?_) ?_) (Nat.lt_succ_self _)⟩
  · rw [h2 p hq]
    simp only [pt_ne hp]
  · rw [h2 a0 (by omega)]
    simp [pt_r]
theorem s_X1_lay {x1 x2 : Int32} (hJ : J F0 F r) (ha0 : kd a0 = 1) (hs : sp a0 = false) (hK : ∀ u : cS, J F0 u.1 u.2.2 → K u) : wpX1_lay a0 F L r x1 x2 K := by
  refine c_lay (fun u h1 h2 _ => hK u ?_)
  rw [h1]
  refine hJ.fr ha0 h2 (fun p hp => ?_)
  rw [h2 p (fun e => by rw [e, hs] at hp; cases hp) (fun e => by rw [e, sp_1 a0 (kd_lt ha0 (by decide)) ha0] at hp; cases hp)]
  exact hJ.2.2 p hp
theorem c_copyL (n : Nat) : ∀ (F : Nat → Nat → Int32) (L : Nat → Nat → Int64) (x2 : Int32), (∀ u : cS, u.2.2 = r → (∀ p, p ≠ a0 + 2 → u.1 p = F p) → K u) → 0 ≤ x2 → mu x2 < n → wpX1_copyFrom_b34 a0 a1 n F L r x2 K := by
  induction n with
  | zero => intro F L x2 _ _ hm; exact absurd hm (Nat.not_lt_zero _)
  | succ n ih =>
    intro F L x2 hK h0 hm
    unfold wpX1_copyFrom_b34 wpX1_copyFrom_b34_body
    refine ⟨fun _ => hK _ rfl (fun _ _ => rfl), fun c => ?_⟩
    have v : vp_in x2 4 := vI (c := 4) rfl h0 (by grind)
    refine ⟨v, v, v, v, v, v, ih _ _ _ (fun u h1 h2 => hK u h1 (fun p hp => ?_)) (by grind) (lt1 (mu_lt c) hm)⟩
    rw [h2 p hp, pt_ne hp]
theorem c_copy (hK : ∀ u : cS, u.2.2 = r → (∀ p, p ≠ a0 → p ≠ a0 + 2 → u.1 p = F p) → (a0 ≠ a1 → u.1 a0 2 = F a1 2) → K u) : wpX1_copyFrom a0 a1 F L r K := by
  unfold wpX1_copyFrom wpX1_copyFrom_b0
  refine ⟨_, c_copyL _ _ _ _ (fun u h1 h2 => hK u h1 (fun p hp hq => ?_) (fun hne => ?_)) (by decide) (Nat.lt_succ_self _)⟩
  · rw [h2 p hq]
    simp only [pt_ne hp]
  · rw [h2 a0 (by omega)]
    have h3 : ¬ a1 = a0 := fun e => hne e.symm
    simp [pt_r, h3]
theorem s_X1_copyFrom (hJ : J F0 F r) (ha0 : kd a0 = 1) (_ha1 : kd a1 = 1) (hs : sp a0 = false) (hK : ∀ u : cS, J F0 u.1 u.2.2 → K u) : wpX1_copyFrom a0 a1 F L r K := by
  refine c_copy (fun u h1 h2 _ => hK u ?_)
  rw [h1]
  refine hJ.fr ha0 h2 (fun p hp => ?_)
  rw [h2 p (fun e => by rw [e, hs] at hp; cases hp) (fun e => by rw [e, sp_1 a0 (kd_lt ha0 (by decide)) ha0] at hp; cases hp)]
  exact hJ.2.2 p hp
end FL
