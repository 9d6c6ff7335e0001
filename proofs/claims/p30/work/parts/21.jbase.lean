/-! The class: what every state keeps. -/
/-- a loop's counter that grows -/
def mu (x : Int32) : Nat := (2147483647 - x.toInt).toNat
theorem mu_lt {N x : Int32} (c : ¬ N ≤ x) : mu (x + 1) < mu x := by
  unfold mu
  rw [Int32.le_iff_toInt_le] at c
  have h1 := Int32.toInt_lt N
  have h2 : (x + 1).toInt = x.toInt + 1 := by
    rw [Int32.toInt_add]
    have h3 : (1 : Int32).toInt = 1 := rfl
    have h4 := Int32.le_toInt x
    rw [h3, Int.bmod_eq_of_le (by omega) (by omega)]
  omega
theorem mu_le {N x : Int32} (c : ¬ N < x) (hN : N < 2147483647) : mu (x + 1) < mu x := by
  refine mu_lt (N := N + 1) ?_
  grind
theorem lt1 {a b n : Nat} (h : a < b) (hm : b < n + 1) : a < n := by omega
theorem vI {x c : Int32} {N : Nat} (hc : c.toInt = N) (h0 : 0 ≤ x) (h1 : x < c) : vp_in x N := by
  obtain ⟨j, hj, rfl⟩ := i_sq (n := N) hc (Int32.not_lt.mpr h0) (Int32.not_le.mpr h1)
  exact vin hj (by have := Int32.toInt_lt c; omega)
def fk (k : Nat) : Bool := !([9, 7, 5, 6, 4, 20, 21, 10, 1].contains k)
def sp (p : Nat) : Bool := [0, 46, 50, 54, 58, 62].contains p
/-- what a number at a place of the class's world keeps -/
def CIb (p i : Nat) (v : Int32) : Prop :=
  (p = 4 → i = 0 → 0 ≤ v ∧ v ≤ 500) ∧ (p = 4 → i = 12 → 0 ≤ v ∧ v ≤ 501) ∧ (p = 10 → i = 2 → 0 ≤ v ∧ v ≤ 12) ∧ (p = 12 → i = 9 → 0 ≤ v ∧ v ≤ 72) ∧ (kd p = 6 → i = 0 → 0 ≤ v ∧ v ≤ 30) ∧ (p = 19 ∨ p = 26 → 0 ≤ v ∧ v ≤ 360) ∧ (kd p = 4 → i = 0 → 0 ≤ v ∧ v ≤ 20) ∧ (kd p = 4 → i = 2 → 0 ≤ v ∧ v ≤ 64) ∧ (kd p = 21 → 0 ≤ v ∧ v ≤ 64)
def CR (r : Nat → Nat → Nat) : Prop := kd (r 0 3) = 6 ∧ kd (r 10 3) = 6 ∧ kd (r 0 4) = 4 ∧ kd (r 12 5) = 4 ∧ kd (r 102 4) = 4
def J (F0 F : Nat → Nat → Int32) (r : Nat → Nat → Nat) : Prop := (∀ p i, CIb p i (F p i)) ∧ CR r ∧ ∀ p, sp p = true → F p = F0 p
section JB
variable {F0 F : Nat → Nat → Int32} {r : Nat → Nat → Nat} {p i a k : Nat} {v : Int32}
theorem kd6 : ∀ p, p < 104 → kd p = 6 → p = 17 ∨ p = 24 := by decide +kernel
theorem kd4 : ∀ p, p < 104 → kd p = 4 → p = 31 ∨ p = 35 ∨ p = 39 := by decide +kernel
theorem is6 (h : kd p = 6) : p = 17 ∨ p = 24 := kd6 p (kd_lt h (by decide)) h
theorem is4 (h : kd p = 4) : p = 31 ∨ p = 35 ∨ p = 39 := kd4 p (kd_lt h (by decide)) h
theorem J.t0 (h : J F0 F r) : 0 ≤ F 4 0 ∧ F 4 0 ≤ 500 := (h.1 4 0).1 rfl rfl
theorem J.t12 (h : J F0 F r) : 0 ≤ F 4 12 ∧ F 4 12 ≤ 501 := (h.1 4 12).2.1 rfl rfl
theorem J.q2 (h : J F0 F r) : 0 ≤ F 10 2 ∧ F 10 2 ≤ 12 := (h.1 10 2).2.2.1 rfl rfl
theorem J.n9 (h : J F0 F r) : 0 ≤ F 12 9 ∧ F 12 9 ≤ 72 := (h.1 12 9).2.2.2.1 rfl rfl
theorem J.li (h : J F0 F r) (ha : kd a = 6) : 0 ≤ F a 0 ∧ F a 0 ≤ 30 := (h.1 a 0).2.2.2.2.1 ha rfl
theorem J.ae (h : J F0 F r) (ha : kd a = 6) : 0 ≤ F (a + 2) i ∧ F (a + 2) i ≤ 360 := (h.1 (a + 2) i).2.2.2.2.2.1 (by rcases is6 ha with rfl | rfl <;> decide)
theorem J.r4 (h : J F0 F r) (ha : kd a = 4) : 0 ≤ F a 0 ∧ F a 0 ≤ 20 := (h.1 a 0).2.2.2.2.2.2.1 ha rfl
theorem J.g4 (h : J F0 F r) (ha : kd a = 4) : 0 ≤ F a 2 ∧ F a 2 ≤ 64 := (h.1 a 2).2.2.2.2.2.2.2.1 ha rfl
theorem J.b4 (h : J F0 F r) (ha : kd a = 4) : 0 ≤ F (a + 2) i ∧ F (a + 2) i ≤ 64 := (h.1 (a + 2) i).2.2.2.2.2.2.2.2 (kd4_2 ha)
theorem J.d4 (h : J F0 F r) (ha : kd a = 4) : 0 ≤ F (a + 3) i ∧ F (a + 3) i ≤ 64 := (h.1 (a + 3) i).2.2.2.2.2.2.2.2 (kd4_3 ha)
theorem J.c03 (h : J F0 F r) : kd (r 0 3) = 6 := h.2.1.1
theorem J.c103 (h : J F0 F r) : kd (r 10 3) = 6 := h.2.1.2.1
theorem J.c04 (h : J F0 F r) : kd (r 0 4) = 4 := h.2.1.2.2.1
theorem J.c125 (h : J F0 F r) : kd (r 12 5) = 4 := h.2.1.2.2.2.1
theorem J.c1024 (h : J F0 F r) : kd (r 102 4) = 4 := h.2.1.2.2.2.2
theorem J.pt (hb : CIb p i v) (hs : sp p = false) (h : J F0 F r) : J F0 (pt F p i v) r := by
  refine ⟨fun q j => ?_, h.2.1, fun q hq => ?_⟩
  · rw [pt_r]
    by_cases hq : q = p
    · rw [if_pos hq]
      by_cases hj : j = i
      · rw [if_pos hj, hq, hj]
        exact hb
      · rw [if_neg hj, hq]
        exact h.1 p j
    · rw [if_neg hq]
      exact h.1 q j
  · rw [pt_ne (fun e => by rw [e, hs] at hq; cases hq)]
    exact h.2.2 q hq
theorem fk_ne (hk : kd p = k) (hf : fk k = true) : CIb p i v ∧ sp p = false := by
  have h1 : ∀ q, kd q = k → fk (kd q) = true := fun q e => by rw [e]; exact hf
  have g := h1 p hk
  refine ⟨⟨fun e => ?_, fun e => ?_, fun e => ?_, fun e => ?_, fun e => ?_, fun e => ?_, fun e => ?_, fun e => ?_, fun e => ?_⟩, ?_⟩
  · rw [e] at g; exact absurd g (by decide)
  · rw [e] at g; exact absurd g (by decide)
  · rw [e] at g; exact absurd g (by decide)
  · rw [e] at g; exact absurd g (by decide)
  · rw [e] at g; exact absurd g (by decide)
  · rcases e with e | e <;> (rw [e] at g; exact absurd g (by decide))
  · rw [e] at g; exact absurd g (by decide)
  · rw [e] at g; exact absurd g (by decide)
  · rw [e] at g; exact absurd g (by decide)
  · have h2 : ∀ q, q < 104 → sp q = true → fk (kd q) = false := by decide +kernel
    have h3 : ∀ q, 104 ≤ q → sp q = false := fun q hq => by
      simp only [sp, List.contains_eq_mem, decide_eq_false_iff_not, List.mem_cons, List.not_mem_nil, or_false]
      omega
    rcases Nat.lt_or_ge p 104 with hp | hp
    · cases hs : sp p with
      | false => rfl
      | true => rw [h2 p hp hs] at g; cases g
    · exact h3 p hp
theorem Jf (hk : kd p = k) (hf : fk k = true) (h : J F0 F r) : J F0 (pt F p i v) r := J.pt (fk_ne hk hf).1 (fk_ne (i := 0) (v := 0) hk hf).2 h
theorem J9 (hi : i ≠ 0 ∧ i ≠ 12) (h : J F0 F r) : J F0 (pt F 4 i v) r := J.pt ⟨fun _ e => absurd e hi.1, fun _ e => absurd e hi.2, fun e => absurd e (by decide), fun e => absurd e (by decide), fun e => absurd e (by decide), fun e => absurd e (by decide), fun e => absurd e (by decide), fun e => absurd e (by decide), fun e => absurd e (by decide)⟩ rfl h
theorem J9_0 (hv : 0 ≤ v ∧ v ≤ 500) (h : J F0 F r) : J F0 (pt F 4 0 v) r := J.pt ⟨fun _ _ => hv, fun _ e => absurd e (by decide), fun e => absurd e (by decide), fun e => absurd e (by decide), fun e => absurd e (by decide), fun e => absurd e (by decide), fun e => absurd e (by decide), fun e => absurd e (by decide), fun e => absurd e (by decide)⟩ rfl h
theorem J9_12 (hv : 0 ≤ v ∧ v ≤ 501) (h : J F0 F r) : J F0 (pt F 4 12 v) r := J.pt ⟨fun _ e => absurd e (by decide), fun _ _ => hv, fun e => absurd e (by decide), fun e => absurd e (by decide), fun e => absurd e (by decide), fun e => absurd e (by decide), fun e => absurd e (by decide), fun e => absurd e (by decide), fun e => absurd e (by decide)⟩ rfl h
theorem J7_2 (hv : 0 ≤ v ∧ v ≤ 12) (h : J F0 F r) : J F0 (pt F 10 2 v) r := J.pt ⟨fun e => absurd e (by decide), fun e => absurd e (by decide), fun _ _ => hv, fun e => absurd e (by decide), fun e => absurd e (by decide), fun e => absurd e (by decide), fun e => absurd e (by decide), fun e => absurd e (by decide), fun e => absurd e (by decide)⟩ rfl h
theorem J5 (hi : i ≠ 9) (h : J F0 F r) : J F0 (pt F 12 i v) r := J.pt ⟨fun e => absurd e (by decide), fun e => absurd e (by decide), fun e => absurd e (by decide), fun _ e => absurd e hi, fun e => absurd e (by decide), fun e => absurd e (by decide), fun e => absurd e (by decide), fun e => absurd e (by decide), fun e => absurd e (by decide)⟩ rfl h
theorem J5_9 (hv : 0 ≤ v ∧ v ≤ 72) (h : J F0 F r) : J F0 (pt F 12 9 v) r := J.pt ⟨fun e => absurd e (by decide), fun e => absurd e (by decide), fun e => absurd e (by decide), fun _ _ => hv, fun e => absurd e (by decide), fun e => absurd e (by decide), fun e => absurd e (by decide), fun e => absurd e (by decide), fun e => absurd e (by decide)⟩ rfl h
theorem J6_0 (ha : kd a = 6) (hv : 0 ≤ v ∧ v ≤ 30) (h : J F0 F r) : J F0 (pt F a 0 v) r := by
  refine J.pt ⟨fun e => ?_, fun e => ?_, fun e => ?_, fun e => ?_, fun _ _ => hv, fun e => ?_, fun e => ?_, fun e => ?_, fun e => ?_⟩ (by rcases is6 ha with rfl | rfl <;> rfl) h
  · rw [e] at ha; exact absurd ha (by decide)
  · rw [e] at ha; exact absurd ha (by decide)
  · rw [e] at ha; exact absurd ha (by decide)
  · rw [e] at ha; exact absurd ha (by decide)
  · rcases e with e | e <;> (rw [e] at ha; exact absurd ha (by decide))
  · rw [e] at ha; exact absurd ha (by decide)
  · rw [e] at ha; exact absurd ha (by decide)
  · rw [e] at ha; exact absurd ha (by decide)
theorem J20e (ha : kd a = 6) (hv : 0 ≤ v ∧ v ≤ 360) (h : J F0 F r) : J F0 (pt F (a + 2) i v) r := by
  rcases is6 ha with rfl | rfl <;> exact J.pt ⟨fun e => absurd e (by decide), fun e => absurd e (by decide), fun e => absurd e (by decide), fun e => absurd e (by decide), fun e => absurd e (by decide), fun _ => hv, fun e => absurd e (by decide), fun e => absurd e (by decide), fun e => absurd e (by decide)⟩ rfl h
theorem J20 (ha : kd a = 6) (h3 : 3 ≤ k) (h6 : k ≤ 6) (h : J F0 F r) : J F0 (pt F (a + k) i v) r := by
  have hk : k = 3 ∨ k = 4 ∨ k = 5 ∨ k = 6 := by omega
  rcases is6 ha with rfl | rfl <;> rcases hk with rfl | rfl | rfl | rfl <;> exact J.pt ⟨fun e => absurd e (by decide), fun e => absurd e (by decide), fun e => absurd e (by decide), fun e => absurd e (by decide), fun e => absurd e (by decide), fun e => absurd e (by decide), fun e => absurd e (by decide), fun e => absurd e (by decide), fun e => absurd e (by decide)⟩ rfl h
theorem J4_0 (ha : kd a = 4) (hv : 0 ≤ v ∧ v ≤ 20) (h : J F0 F r) : J F0 (pt F a 0 v) r := by
  rcases is4 ha with rfl | rfl | rfl <;> exact J.pt ⟨fun e => absurd e (by decide), fun e => absurd e (by decide), fun e => absurd e (by decide), fun e => absurd e (by decide), fun e => absurd e (by decide), fun e => absurd e (by decide), fun _ _ => hv, fun _ e => absurd e (by decide), fun e => absurd e (by decide)⟩ rfl h
theorem J4_1 (ha : kd a = 4) (h : J F0 F r) : J F0 (pt F a 1 v) r := by
  rcases is4 ha with rfl | rfl | rfl <;> exact J.pt ⟨fun e => absurd e (by decide), fun e => absurd e (by decide), fun e => absurd e (by decide), fun e => absurd e (by decide), fun e => absurd e (by decide), fun e => absurd e (by decide), fun _ e => absurd e (by decide), fun _ e => absurd e (by decide), fun e => absurd e (by decide)⟩ rfl h
theorem J4_2 (ha : kd a = 4) (hv : 0 ≤ v ∧ v ≤ 64) (h : J F0 F r) : J F0 (pt F a 2 v) r := by
  rcases is4 ha with rfl | rfl | rfl <;> exact J.pt ⟨fun e => absurd e (by decide), fun e => absurd e (by decide), fun e => absurd e (by decide), fun e => absurd e (by decide), fun e => absurd e (by decide), fun e => absurd e (by decide), fun _ e => absurd e (by decide), fun _ _ => hv, fun e => absurd e (by decide)⟩ rfl h
theorem J21 (ha : kd a = 4) (hk : k = 2 ∨ k = 3) (hv : 0 ≤ v ∧ v ≤ 64) (h : J F0 F r) : J F0 (pt F (a + k) i v) r := by
  rcases is4 ha with rfl | rfl | rfl <;> rcases hk with rfl | rfl <;> exact J.pt ⟨fun e => absurd e (by decide), fun e => absurd e (by decide), fun e => absurd e (by decide), fun e => absurd e (by decide), fun e => absurd e (by decide), fun e => absurd e (by decide), fun e => absurd e (by decide), fun e => absurd e (by decide), fun _ => hv⟩ rfl h
theorem Jr0_3 {q : Nat} (hq : kd q = 6) (h : J F0 F r) : J F0 F (ptN r 0 3 q) := ⟨h.1, ⟨hq, h.2.1.2.1, h.2.1.2.2.1, h.2.1.2.2.2.1, h.2.1.2.2.2.2⟩, h.2.2⟩
theorem Jr10_3 {q : Nat} (hq : kd q = 6) (h : J F0 F r) : J F0 F (ptN r 10 3 q) := ⟨h.1, ⟨h.2.1.1, hq, h.2.1.2.2.1, h.2.1.2.2.2.1, h.2.1.2.2.2.2⟩, h.2.2⟩
theorem Jr0_4 {q : Nat} (hq : kd q = 4) (h : J F0 F r) : J F0 F (ptN r 0 4 q) := ⟨h.1, ⟨h.2.1.1, h.2.1.2.1, hq, h.2.1.2.2.2.1, h.2.1.2.2.2.2⟩, h.2.2⟩
theorem Jr12_5 {q : Nat} (hq : kd q = 4) (h : J F0 F r) : J F0 F (ptN r 12 5 q) := ⟨h.1, ⟨h.2.1.1, h.2.1.2.1, h.2.1.2.2.1, hq, h.2.1.2.2.2.2⟩, h.2.2⟩
theorem Jr102_4 {q : Nat} (hq : kd q = 4) (h : J F0 F r) : J F0 F (ptN r 102 4 q) := ⟨h.1, ⟨h.2.1.1, h.2.1.2.1, h.2.1.2.2.1, h.2.1.2.2.2.1, hq⟩, h.2.2⟩
theorem s_J13_bitCount_95d88 {x0 : Int64} {K : Int32 → Unit → Prop} (hK : ∀ v, K v ()) : wpJ13_bitCount_95d88 x0 K := by
  unfold wpJ13_bitCount_95d88 wpJ13_bitCount_95d88_b0
  intros
  exact hK _
theorem s_J6_bitCount_0f7a4 {x0 : Int32} {K : Int32 → Unit → Prop} (hK : ∀ v, K v ()) : wpJ6_bitCount_0f7a4 x0 K := by
  unfold wpJ6_bitCount_0f7a4 wpJ6_bitCount_0f7a4_b0
  intros
  exact hK _
/-- a counter that falls -/
def md (x : Int32) : Nat := (x.toInt + 100).toNat
theorem md_8 {x : Int32} (c : ¬ x < 0) : md (x + -8) < md x := by
  unfold md
  rw [Int32.lt_iff_toInt_lt] at c
  have h0 : (0 : Int32).toInt = 0 := rfl
  have h1 := Int32.toInt_lt x
  have h2 : (x + -8).toInt = x.toInt - 8 := by
    rw [Int32.toInt_add]
    have h3 : (-8 : Int32).toInt = -8 := rfl
    rw [h3, Int.bmod_eq_of_le (by omega) (by omega)]
    omega
  omega
theorem md_1 {x : Int32} (c : ¬ x ≤ 0) : md (x - 1) < md x := by
  unfold md
  rw [Int32.le_iff_toInt_le] at c
  have h0 : (0 : Int32).toInt = 0 := rfl
  have h1 := Int32.toInt_lt x
  have h2 : (x - 1).toInt = x.toInt - 1 := by
    rw [Int32.toInt_sub]
    have h3 : (1 : Int32).toInt = 1 := rfl
    rw [h3, Int.bmod_eq_of_le (by omega) (by omega)]
  omega
theorem l_X9_append_b3 {K : cS → Prop} (hK : ∀ u : cS, J F0 u.1 u.2.2 → K u) (n : Nat) : ∀ (F : Nat → Nat → Int32) (L : Nat → Nat → Int64) (r : Nat → Nat → Nat) (x1 x2 : Int32), J F0 F r → md x2 < n → wpX9_append_b3 n F L r x1 x2 K := by
  induction n with
  | zero => intro F L r x1 x2 hJ hm; exact absurd hm (Nat.not_lt_zero _)
  | succ n ih =>
    intro F L r x1 x2 hJ hm
    have t0 := hJ.t0
    unfold wpX9_append_b3 wpX9_append_b3_body wpX9_append_b49
    refine ⟨fun _ => hK _ hJ, fun c => ⟨fun _ => hK _ hJ, fun c2 => ⟨vI (c := 500) rfl t0.1 (by grind), ?_⟩⟩⟩
    exact ih _ _ _ _ _ (J9_0 (by rw [pt_ne (by decide)]; grind) (Jf kp5 rfl hJ)) (lt1 (md_8 c) hm)
end JB
