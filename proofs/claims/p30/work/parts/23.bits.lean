/-! rows on bits, shifts and unsigned numbers, to paste: each family out of a closed proof of our own, whole with what it rests on; each by itself clean at Lean in its own claim (generation 39, form 5). Take a family whole -/
/-! ===== Int32 by its bits: bt x i ===== -/
def bt (x : Int32) (i : Nat) : Bool := x.toBitVec.getLsbD i
theorem b_ext {x y : Int32} (h : ∀ i, i < 32 → bt x i = bt y i) : x = y := Int32.toBitVec_inj.mp (BitVec.eq_of_getLsbD_eq (fun i hi => h i hi))
theorem b_or (x y : Int32) (i : Nat) : bt (x ||| y) i = (bt x i || bt y i) := by unfold bt; rw [Int32.toBitVec_or, BitVec.getLsbD_or]
theorem b_and (x y : Int32) (i : Nat) : bt (x &&& y) i = (bt x i && bt y i) := by unfold bt; rw [Int32.toBitVec_and, BitVec.getLsbD_and]
theorem b_xor (x y : Int32) (i : Nat) : bt (x ^^^ y) i = (bt x i ^^ bt y i) := by unfold bt; rw [Int32.toBitVec_xor, BitVec.getLsbD_xor]
theorem b_big {x : Int32} {i : Nat} (h : 32 ≤ i) : bt x i = false := BitVec.getLsbD_of_ge _ _ h
theorem b_m1 : ∀ i, i < 32 → bt (-1) i = true := by decide +kernel
theorem b_0 (i : Nat) : bt 0 i = false := BitVec.getLsbD_zero
theorem s_l : ∀ n, n < 32 → ((nI n &&& 31).toBitVec.smod 32).toNat = n := by decide +kernel
theorem s_u : ∀ n, n < 32 → (((nI n).toUInt32 &&& Int32.toUInt32 31).toBitVec % 32).toNat = n := by decide +kernel
theorem b_shl (n : Nat) (hn : n < 32) (x : Int32) {i : Nat} (hi : i < 32) : bt (x <<< (nI n &&& 31)) i = (decide (n ≤ i) && bt x (i - n)) := by
  unfold bt
  rw [Int32.toBitVec_shiftLeft]
  show (x.toBitVec <<< ((nI n &&& 31).toBitVec.smod 32).toNat).getLsbD i = _
  rw [s_l n hn, BitVec.getLsbD_shiftLeft]
  rcases Nat.lt_or_ge i n with h | h
  · simp [h, Nat.not_le.mpr h]
  · simp [hi, h, Nat.not_lt.mpr h]
theorem b_ushr (n : Nat) (hn : n < 32) (x : Int32) (i : Nat) : bt ((x.toUInt32 >>> ((nI n).toUInt32 &&& Int32.toUInt32 31)).toInt32) i = bt x (n + i) := by
  show (x.toUInt32 >>> ((nI n).toUInt32 &&& Int32.toUInt32 31)).toBitVec.getLsbD i = x.toUInt32.toBitVec.getLsbD (n + i)
  rw [UInt32.toBitVec_shiftRight]
  show (x.toUInt32.toBitVec >>> (((nI n).toUInt32 &&& Int32.toUInt32 31).toBitVec % 32).toNat).getLsbD i = _
  rw [s_u n hn, BitVec.getLsbD_ushiftRight]
theorem b_sshr (n : Nat) (hn : n < 32) (x : Int32) {i : Nat} (hi : i < 32) : bt (x >>> (nI n &&& 31)) i = if n + i < 32 then bt x (n + i) else bt x 31 := by
  unfold bt
  rw [Int32.toBitVec_shiftRight]
  show (x.toBitVec.sshiftRight ((nI n &&& 31).toBitVec.smod 32).toNat).getLsbD i = _
  rw [s_l n hn, BitVec.getLsbD_sshiftRight, BitVec.msb_eq_getLsbD_last]
  simp [hi]
theorem bt_1 (i : Nat) : bt 1 i = decide (i = 0) := by
  by_cases h : i < 32
  · have h1 : ∀ j, j < 32 → bt 1 j = decide (j = 0) := by decide +kernel
    exact h1 i h
  · rw [b_big (Nat.le_of_not_lt h)]
    have : ¬ i = 0 := by omega
    simp [this]
/-- a bit that is asked for -/
theorem of_1 {x : Int32} {k : Nat} (hk : k < 31) : (jshr x (nI k)) &&& 1 = 1 ↔ bt x k = true := by
  have hb : ∀ i, i < 32 → bt ((jshr x (nI k)) &&& 1) i = (decide (i = 0) && bt x k) := by
    intro i hi
    unfold jshr
    rw [b_and, bt_1, b_sshr k (by omega) x hi]
    by_cases h0 : i = 0
    · subst h0
      rw [if_pos (by omega)]
      simp
    · simp [h0]
  constructor
  · intro h
    have h2 := hb 0 (by omega)
    rw [h, bt_1] at h2
    simpa using h2.symm
  · intro h
    refine b_ext fun i hi => ?_
    rw [hb i hi, bt_1, h]
    simp
theorem of_0 {x : Int32} {k : Nat} (hk : k < 31) : (jshr x (nI k)) &&& 1 = 0 ↔ bt x k = false := by
  have hb : ∀ i, i < 32 → bt ((jshr x (nI k)) &&& 1) i = (decide (i = 0) && bt x k) := by
    intro i hi
    unfold jshr
    rw [b_and, bt_1, b_sshr k (by omega) x hi]
    by_cases h0 : i = 0
    · subst h0
      rw [if_pos (by omega)]
      simp
    · simp [h0]
  constructor
  · intro h
    have h2 := hb 0 (by omega)
    rw [h, b_0] at h2
    simpa using h2.symm
  · intro h
    refine b_ext fun i hi => ?_
    rw [hb i hi, b_0, h]
    simp
theorem bt_shl {k i : Nat} (hk : k < 32) (hi : i < 32) : bt (jshl 1 (nI k)) i = decide (i = k) := by
  unfold jshl
  rw [b_shl k hk 1 hi, bt_1]
  by_cases h : i = k
  · simp [h]
  · by_cases h2 : k ≤ i
    · have h3 : ¬ i - k = 0 := by omega
      simp [h, h2, h3]
    · simp [h, h2]
