set_option maxHeartbeats 1000000 in
theorem s_X1_raiseWalls {F0 : Nat → Nat → Int32} {a0 : Nat} {F : Nat → Nat → Int32} {L : Nat → Nat → Int64} {r : Nat → Nat → Nat} {x1 : Int32} {K : cS → Prop} (hJ : J F0 F r) (ha0 : kd a0 = 1) (hK : ∀ L' : Nat → Nat → Int64, K (F, L', r)) : wpX1_raiseWalls a0 F L r x1 K := by
  unfold wpX1_raiseWalls
  unfold wpX1_raiseWalls_b0
  refine s_X1_clearWalls hJ ha0 (fun L1 => ?_)
  try dsimp only
  exact ⟨_, l_X1_raiseWalls_b6 hJ ha0 hK _ _ _ _ (by first | assumption | omega | grind | (simp only [pt_r] at *; grind) | (simp [pt_r]; grind)) (Nat.lt_succ_self _)⟩
set_option maxHeartbeats 1000000 in
theorem l_X8_nextStart_b12 {F0 : Nat → Nat → Int32} {K : Int32 → cS → Prop} (hK : ∀ v : Int32, ∀ u : cS, J F0 u.1 u.2.2 → isB v → K v u) (n : Nat) : ∀ (F : Nat → Nat → Int32) (L : Nat → Nat → Int64) (r : Nat → Nat → Nat) (x1 : Int32) (x2 : Int32), J F0 F r → 0 ≤ x2 → mu (x2) < n → wpX8_nextStart_b12 n F L r x1 x2 K := by
  induction n with
  | zero => intro F L r x1 x2 hJ hi0 hm; exact absurd hm (Nat.not_lt_zero _)
  | succ n ih =>
    intro F L r x1 x2 hJ hi0 hm
    unfold wpX8_nextStart_b12 wpX8_nextStart_b12_body
    refine ⟨fun c0 => ?_, fun c0 => ?_⟩
    · exact hK _ _ hJ (by first | exact Or.inl rfl | exact Or.inr rfl | assumption)
    · refine ⟨fun c1 => ?_, fun c1 => ?_⟩
      · unfold wpX8_nextStart_b79
        refine ⟨fun c2 => ?_, fun c2 => ?_⟩
        · refine ⟨fun c3 => ?_, fun c3 => ?_⟩
          · exact ih _ _ _ _ _ (Jf kp96 rfl hJ) (by first | assumption | omega | grind | (simp only [pt_r] at *; grind) | (simp [pt_r]; grind)) (lt1 (mu_lt c0) hm)
          · exact hK _ _ (Jf kp96 rfl hJ) (by first | exact Or.inl rfl | exact Or.inr rfl | assumption)
        · exact hK _ _ (Jf kp96 rfl hJ) (by first | exact Or.inl rfl | exact Or.inr rfl | assumption)
      · refine s_X1_raiseWalls (Jf kp96 rfl (Jf kp96 rfl (Jf kp96 rfl hJ))) kp66 (fun L65 => ?_)
        try dsimp only
        refine s_X1_reach (Jf kp96 rfl (Jf kp96 rfl (Jf kp96 rfl hJ))) kp66 (fun r73 => ?_)
        try dsimp only
        unfold wpX8_nextStart_b79
        refine ⟨fun c2 => ?_, fun c2 => ?_⟩
        · refine ⟨fun c3 => ?_, fun c3 => ?_⟩
          · exact ih _ _ _ _ _ (Jf kp96 rfl (Jf kp96 rfl (Jf kp96 rfl hJ))) (by first | assumption | omega | grind | (simp only [pt_r] at *; grind) | (simp [pt_r]; grind)) (lt1 (mu_lt c0) hm)
          · exact hK _ _ (Jf kp96 rfl (Jf kp96 rfl (Jf kp96 rfl hJ))) (by first | exact Or.inl rfl | exact Or.inr rfl | assumption)
        · exact hK _ _ (Jf kp96 rfl (Jf kp96 rfl (Jf kp96 rfl hJ))) (by first | exact Or.inl rfl | exact Or.inr rfl | assumption)
set_option maxHeartbeats 1000000 in
theorem s_X8_nextStart {F0 : Nat → Nat → Int32} {F : Nat → Nat → Int32} {L : Nat → Nat → Int64} {r : Nat → Nat → Nat} {K : Int32 → cS → Prop} (hJ : J F0 F r) (hK : ∀ v : Int32, ∀ u : cS, J F0 u.1 u.2.2 → isB v → K v u) : wpX8_nextStart F L r K := by
  unfold wpX8_nextStart
  unfold wpX8_nextStart_b0
  refine s_X1_wallNumbers hJ kp66 (fun r5 => ?_)
  try dsimp only
  exact ⟨_, l_X8_nextStart_b12 hK _ _ _ _ _ _ hJ (by first | assumption | omega | grind | (simp only [pt_r] at *; grind) | (simp [pt_r]; grind)) (Nat.lt_succ_self _)⟩
set_option maxHeartbeats 1000000 in
theorem l_X8_findHeld_b18 {F0 : Nat → Nat → Int32} {a1 : Nat} {K : cS → Prop} (ha1 : kd a1 = 6) (hK : ∀ u : cS, J F0 u.1 u.2.2 → K u) (n : Nat) : ∀ (F : Nat → Nat → Int32) (L : Nat → Nat → Int64) (r : Nat → Nat → Nat) (x2 : Int32) (x3 : Int32), J F0 F r → 0 ≤ x3 → 0 ≤ x2 → x2 < 4 → mu (x3) < n → wpX8_findHeld_b18 a1 n F L r x2 x3 K := by
  induction n with
  | zero => intro F L r x2 x3 hJ hi0 hi1 hi2 hm; exact absurd hm (Nat.not_lt_zero _)
  | succ n ih =>
    intro F L r x2 x3 hJ hi0 hi1 hi2 hm
    unfold wpX8_findHeld_b18 wpX8_findHeld_b18_body
    refine ⟨fun c0 => ?_, fun c0 => ?_⟩
    · unfold wpX8_findHeld_b88
      exact hK _ hJ
    · refine s_X8_nextStart hJ (fun r25 u25 hJ25 hb25  => ?_)
      refine ⟨fun c1 => ?_, fun c1 => ?_⟩
      · unfold wpX8_findHeld_b88
        exact hK _ hJ25
      · refine s_X3_setDownWiped hJ25 kp86 (fun u39 hJ39  => ?_)
        refine s_X3_arrive hJ39 kp86 ha1 kp66 (fun r53 u53 hJ53  => ?_)
        refine ⟨fun c2 => ?_, fun c2 => ?_⟩
        · exact ih _ _ _ _ _ hJ53 (by first | assumption | omega | grind | (simp only [pt_r] at *; grind) | (simp [pt_r]; grind)) (by first | assumption | omega | grind | (simp only [pt_r] at *; grind) | (simp [pt_r]; grind)) (by first | assumption | omega | grind | (simp only [pt_r] at *; grind) | (simp [pt_r]; grind)) (lt1 (mu_lt c0) hm)
        · refine ⟨vI (c := 4) rfl (by first | assumption | omega | grind | (simp only [pt_r] at *; grind) | (simp [pt_r]; grind)) (by first | assumption | omega | grind | (simp only [pt_r] at *; grind) | (simp [pt_r]; grind)), ?_⟩
          refine ⟨vI (c := 4) rfl (by first | assumption | omega | grind | (simp only [pt_r] at *; grind) | (simp [pt_r]; grind)) (by first | assumption | omega | grind | (simp only [pt_r] at *; grind) | (simp [pt_r]; grind)), ?_⟩
          exact hK _ (Jf kp98 rfl (Jf kp97 rfl hJ53))
set_option maxHeartbeats 1000000 in
theorem s_X8_findHeld {F0 : Nat → Nat → Int32} {a1 : Nat} {F : Nat → Nat → Int32} {L : Nat → Nat → Int64} {r : Nat → Nat → Nat} {x2 : Int32} {K : cS → Prop} (hJ : J F0 F r) (ha1 : kd a1 = 6) (hp : 0 ≤ x2) (hq : x2 < 4) (hK : ∀ u : cS, J F0 u.1 u.2.2 → K u) : wpX8_findHeld a1 F L r x2 K := by
  unfold wpX8_findHeld
  unfold wpX8_findHeld_b0
  refine ⟨vI (c := 4) rfl (by first | assumption | omega | grind | (simp only [pt_r] at *; grind) | (simp [pt_r]; grind)) (by first | assumption | omega | grind | (simp only [pt_r] at *; grind) | (simp [pt_r]; grind)), ?_⟩
  refine ⟨vI (c := 4) rfl (by first | assumption | omega | grind | (simp only [pt_r] at *; grind) | (simp [pt_r]; grind)) (by first | assumption | omega | grind | (simp only [pt_r] at *; grind) | (simp [pt_r]; grind)), ?_⟩
  exact ⟨_, l_X8_findHeld_b18 ha1 hK _ _ _ _ _ _ (Jf kp98 rfl (Jf kp97 rfl hJ)) (by first | assumption | omega | grind | (simp only [pt_r] at *; grind) | (simp [pt_r]; grind)) (by first | assumption | omega | grind | (simp only [pt_r] at *; grind) | (simp [pt_r]; grind)) (by first | assumption | omega | grind | (simp only [pt_r] at *; grind) | (simp [pt_r]; grind)) (Nat.lt_succ_self _)⟩
set_option maxHeartbeats 1000000 in
theorem s_X8_heldBy {F0 : Nat → Nat → Int32} {a1 : Nat} {F : Nat → Nat → Int32} {L : Nat → Nat → Int64} {r : Nat → Nat → Nat} {x2 : Int32} {x3 : Int32} {x4 : Int32} {K : Int32 → cS → Prop} (hJ : J F0 F r) (ha1 : kd a1 = 6) (hK : ∀ v : Int32, ∀ u : cS, J F0 u.1 u.2.2 → K v u) : wpX8_heldBy a1 F L r x2 x3 x4 K := by
  unfold wpX8_heldBy
  unfold wpX8_heldBy_b0
  refine s_X8_sizeOf (fun r2 hp2 => ?_)
  refine ⟨fun c0 => ?_, fun c0 => ?_⟩
  · unfold wpX8_heldBy_b45
    refine ⟨fun c1 => ?_, fun c1 => ?_⟩
    · refine ⟨vI (c := 4) rfl (by first | assumption | omega | grind | (simp only [pt_r] at *; grind) | (simp [pt_r]; grind)) (by first | assumption | omega | grind | (simp only [pt_r] at *; grind) | (simp [pt_r]; grind)), ?_⟩
      unfold wpX8_heldBy_b67
      exact hK _ _ hJ
    · refine ⟨vI (c := 4) rfl (by first | assumption | omega | grind | (simp only [pt_r] at *; grind) | (simp [pt_r]; grind)) (by first | assumption | omega | grind | (simp only [pt_r] at *; grind) | (simp [pt_r]; grind)), ?_⟩
      unfold wpX8_heldBy_b67
      exact hK _ _ hJ
  · refine s_X8_layFirst hJ (fun u22 hJ22  => ?_)
    refine s_X8_findHeld hJ22 ha1 (by first | assumption | omega | grind | (simp only [pt_r] at *; grind) | (simp [pt_r]; grind)) (by first | assumption | omega | grind | (simp only [pt_r] at *; grind) | (simp [pt_r]; grind)) (fun u29 hJ29  => ?_)
    unfold wpX8_heldBy_b45
    refine ⟨fun c1 => ?_, fun c1 => ?_⟩
    · refine ⟨vI (c := 4) rfl (by first | assumption | omega | grind | (simp only [pt_r] at *; grind) | (simp [pt_r]; grind)) (by first | assumption | omega | grind | (simp only [pt_r] at *; grind) | (simp [pt_r]; grind)), ?_⟩
      unfold wpX8_heldBy_b67
      exact hK _ _ (Jf kp96 rfl hJ29)
    · refine ⟨vI (c := 4) rfl (by first | assumption | omega | grind | (simp only [pt_r] at *; grind) | (simp [pt_r]; grind)) (by first | assumption | omega | grind | (simp only [pt_r] at *; grind) | (simp [pt_r]; grind)), ?_⟩
      unfold wpX8_heldBy_b67
      exact hK _ _ (Jf kp96 rfl hJ29)
set_option maxHeartbeats 1000000 in
theorem s_X10_held {F0 : Nat → Nat → Int32} {F : Nat → Nat → Int32} {L : Nat → Nat → Int64} {r : Nat → Nat → Nat} {x1 : Int32} {x2 : Int32} {x3 : Int32} {K : Int32 → cS → Prop} (hJ : J F0 F r) (hK : ∀ v : Int32, ∀ u : cS, J F0 u.1 u.2.2 → K v u) : wpX10_held F L r x1 x2 x3 K := by
  have t0_i := hJ.t0
  unfold wpX10_held
  unfold wpX10_held_b0
  refine s_X8_isSmall (fun r2 hb2 hp2 => ?_)
  refine ⟨fun c0 => ?_, fun c0 => ?_⟩
  · unfold wpX10_held_b17
    exact hK _ _ hJ
  · refine ⟨fun c1 => ?_, fun c1 => ?_⟩
    · unfold wpX10_held_b17
      exact hK _ _ hJ
    · refine ⟨fun c2 => ?_, fun c2 => ?_⟩
      · refine ⟨(hJ).c03, ?_⟩
        refine s_X8_heldBy hJ (hJ).c03 (fun r30 u30 hJ30  => ?_)
        have t0_30 := hJ30.t0
        exact hK _ _ hJ30
      · unfold wpX10_held_b17
        exact hK _ _ hJ
set_option maxHeartbeats 1000000 in
theorem l_X8_findLongest_b9 {F0 : Nat → Nat → Int32} {a1 : Nat} {K : cS → Prop} (ha1 : kd a1 = 6) (hK : ∀ u : cS, J F0 u.1 u.2.2 → K u) (n : Nat) : ∀ (F : Nat → Nat → Int32) (L : Nat → Nat → Int64) (r : Nat → Nat → Nat) (x2 : Int32) (x3 : Int32), J F0 F r → 0 ≤ x3 → 0 ≤ x2 → x2 < 4 → mu (x3) < n → wpX8_findLongest_b9 a1 n F L r x2 x3 K := by
  induction n with
  | zero => intro F L r x2 x3 hJ hi0 hi1 hi2 hm; exact absurd hm (Nat.not_lt_zero _)
  | succ n ih =>
    intro F L r x2 x3 hJ hi0 hi1 hi2 hm
    unfold wpX8_findLongest_b9 wpX8_findLongest_b9_body
    refine ⟨fun c0 => ?_, fun c0 => ?_⟩
    · unfold wpX8_findLongest_b94
      exact hK _ hJ
    · refine s_X8_nextStart hJ (fun r16 u16 hJ16 hb16  => ?_)
      refine ⟨fun c1 => ?_, fun c1 => ?_⟩
      · unfold wpX8_findLongest_b94
        exact hK _ hJ16
      · refine s_X3_setDownWiped hJ16 kp86 (fun u30 hJ30  => ?_)
        refine s_X3_arrive hJ30 kp86 ha1 kp66 (fun r44 u44 hJ44  => ?_)
        refine ⟨vI (c := 4) rfl (by first | assumption | omega | grind | (simp only [pt_r] at *; grind) | (simp [pt_r]; grind)) (by first | assumption | omega | grind | (simp only [pt_r] at *; grind) | (simp [pt_r]; grind)), ?_⟩
        refine ⟨fun c2 => ?_, fun c2 => ?_⟩
        · unfold wpX8_findLongest_b88
          exact ih _ _ _ _ _ hJ44 (by first | assumption | omega | grind | (simp only [pt_r] at *; grind) | (simp [pt_r]; grind)) (by first | assumption | omega | grind | (simp only [pt_r] at *; grind) | (simp [pt_r]; grind)) (by first | assumption | omega | grind | (simp only [pt_r] at *; grind) | (simp [pt_r]; grind)) (lt1 (mu_lt c0) hm)
        · refine ⟨vI (c := 4) rfl (by first | assumption | omega | grind | (simp only [pt_r] at *; grind) | (simp [pt_r]; grind)) (by first | assumption | omega | grind | (simp only [pt_r] at *; grind) | (simp [pt_r]; grind)), ?_⟩
          refine ⟨vI (c := 4) rfl (by first | assumption | omega | grind | (simp only [pt_r] at *; grind) | (simp [pt_r]; grind)) (by first | assumption | omega | grind | (simp only [pt_r] at *; grind) | (simp [pt_r]; grind)), ?_⟩
          refine ⟨vI (c := 4) rfl (by first | assumption | omega | grind | (simp only [pt_r] at *; grind) | (simp [pt_r]; grind)) (by first | assumption | omega | grind | (simp only [pt_r] at *; grind) | (simp [pt_r]; grind)), ?_⟩
          unfold wpX8_findLongest_b88
          exact ih _ _ _ _ _ (Jf kp101 rfl (Jf kp100 rfl (Jf kp99 rfl hJ44))) (by first | assumption | omega | grind | (simp only [pt_r] at *; grind) | (simp [pt_r]; grind)) (by first | assumption | omega | grind | (simp only [pt_r] at *; grind) | (simp [pt_r]; grind)) (by first | assumption | omega | grind | (simp only [pt_r] at *; grind) | (simp [pt_r]; grind)) (lt1 (mu_lt c0) hm)
set_option maxHeartbeats 1000000 in
theorem s_X8_findLongest {F0 : Nat → Nat → Int32} {a1 : Nat} {F : Nat → Nat → Int32} {L : Nat → Nat → Int64} {r : Nat → Nat → Nat} {x2 : Int32} {K : cS → Prop} (hJ : J F0 F r) (ha1 : kd a1 = 6) (hp : 0 ≤ x2) (hq : x2 < 4) (hK : ∀ u : cS, J F0 u.1 u.2.2 → K u) : wpX8_findLongest a1 F L r x2 K := by
  unfold wpX8_findLongest
  unfold wpX8_findLongest_b0
  refine ⟨vI (c := 4) rfl (by first | assumption | omega | grind | (simp only [pt_r] at *; grind) | (simp [pt_r]; grind)) (by first | assumption | omega | grind | (simp only [pt_r] at *; grind) | (simp [pt_r]; grind)), ?_⟩
  exact ⟨_, l_X8_findLongest_b9 ha1 hK _ _ _ _ _ _ (Jf kp99 rfl hJ) (by first | assumption | omega | grind | (simp only [pt_r] at *; grind) | (simp [pt_r]; grind)) (by first | assumption | omega | grind | (simp only [pt_r] at *; grind) | (simp [pt_r]; grind)) (by first | assumption | omega | grind | (simp only [pt_r] at *; grind) | (simp [pt_r]; grind)) (Nat.lt_succ_self _)⟩
set_option maxHeartbeats 1000000 in
theorem s_X8_longestBy {F0 : Nat → Nat → Int32} {a1 : Nat} {F : Nat → Nat → Int32} {L : Nat → Nat → Int64} {r : Nat → Nat → Nat} {x2 : Int32} {x3 : Int32} {x4 : Int32} {K : Int32 → cS → Prop} (hJ : J F0 F r) (ha1 : kd a1 = 6) (hK : ∀ v : Int32, ∀ u : cS, J F0 u.1 u.2.2 → K v u) : wpX8_longestBy a1 F L r x2 x3 x4 K := by
  unfold wpX8_longestBy
  unfold wpX8_longestBy_b0
  refine s_X8_sizeOf (fun r2 hp2 => ?_)
  refine ⟨fun c0 => ?_, fun c0 => ?_⟩
  · unfold wpX8_longestBy_b45
    refine ⟨fun c1 => ?_, fun c1 => ?_⟩
    · refine ⟨fun c2 => ?_, fun c2 => ?_⟩
      · refine ⟨vI (c := 4) rfl (by first | assumption | omega | grind | (simp only [pt_r] at *; grind) | (simp [pt_r]; grind)) (by first | assumption | omega | grind | (simp only [pt_r] at *; grind) | (simp [pt_r]; grind)), ?_⟩
        unfold wpX8_longestBy_b81
        exact hK _ _ hJ
      · refine ⟨vI (c := 4) rfl (by first | assumption | omega | grind | (simp only [pt_r] at *; grind) | (simp [pt_r]; grind)) (by first | assumption | omega | grind | (simp only [pt_r] at *; grind) | (simp [pt_r]; grind)), ?_⟩
        unfold wpX8_longestBy_b81
        exact hK _ _ hJ
    · refine ⟨vI (c := 4) rfl (by first | assumption | omega | grind | (simp only [pt_r] at *; grind) | (simp [pt_r]; grind)) (by first | assumption | omega | grind | (simp only [pt_r] at *; grind) | (simp [pt_r]; grind)), ?_⟩
      exact hK _ _ hJ
  · refine s_X8_layFirst hJ (fun u22 hJ22  => ?_)
    refine s_X8_findLongest hJ22 ha1 (by first | assumption | omega | grind | (simp only [pt_r] at *; grind) | (simp [pt_r]; grind)) (by first | assumption | omega | grind | (simp only [pt_r] at *; grind) | (simp [pt_r]; grind)) (fun u29 hJ29  => ?_)
    unfold wpX8_longestBy_b45
    refine ⟨fun c1 => ?_, fun c1 => ?_⟩
    · refine ⟨fun c2 => ?_, fun c2 => ?_⟩
      · refine ⟨vI (c := 4) rfl (by first | assumption | omega | grind | (simp only [pt_r] at *; grind) | (simp [pt_r]; grind)) (by first | assumption | omega | grind | (simp only [pt_r] at *; grind) | (simp [pt_r]; grind)), ?_⟩
        unfold wpX8_longestBy_b81
        exact hK _ _ (Jf kp96 rfl hJ29)
      · refine ⟨vI (c := 4) rfl (by first | assumption | omega | grind | (simp only [pt_r] at *; grind) | (simp [pt_r]; grind)) (by first | assumption | omega | grind | (simp only [pt_r] at *; grind) | (simp [pt_r]; grind)), ?_⟩
        unfold wpX8_longestBy_b81
        exact hK _ _ (Jf kp96 rfl hJ29)
    · refine ⟨vI (c := 4) rfl (by first | assumption | omega | grind | (simp only [pt_r] at *; grind) | (simp [pt_r]; grind)) (by first | assumption | omega | grind | (simp only [pt_r] at *; grind) | (simp [pt_r]; grind)), ?_⟩
      exact hK _ _ (Jf kp96 rfl hJ29)
set_option maxHeartbeats 1000000 in
theorem s_X10_longest {F0 : Nat → Nat → Int32} {F : Nat → Nat → Int32} {L : Nat → Nat → Int64} {r : Nat → Nat → Nat} {x1 : Int32} {x2 : Int32} {x3 : Int32} {K : Int32 → cS → Prop} (hJ : J F0 F r) (hK : ∀ v : Int32, ∀ u : cS, J F0 u.1 u.2.2 → K v u) : wpX10_longest F L r x1 x2 x3 K := by
  have t0_i := hJ.t0
  unfold wpX10_longest
  unfold wpX10_longest_b0
  refine s_X8_isSmall (fun r2 hb2 hp2 => ?_)
  refine ⟨fun c0 => ?_, fun c0 => ?_⟩
  · unfold wpX10_longest_b17
    exact hK _ _ hJ
  · refine ⟨fun c1 => ?_, fun c1 => ?_⟩
    · unfold wpX10_longest_b17
      exact hK _ _ hJ
    · refine ⟨fun c2 => ?_, fun c2 => ?_⟩
      · refine ⟨(hJ).c03, ?_⟩
        refine s_X8_longestBy hJ (hJ).c03 (fun r30 u30 hJ30  => ?_)
        have t0_30 := hJ30.t0
        exact hK _ _ hJ30
      · unfold wpX10_longest_b17
        exact hK _ _ hJ
set_option maxHeartbeats 1000000 in
theorem l_X6_usesYes_b51 {F0 : Nat → Nat → Int32} {a0 : Nat} {F : Nat → Nat → Int32} {L : Nat → Nat → Int64} {r : Nat → Nat → Nat} {B15 : (Nat → Nat → Int32) → (Nat → Nat → Int64) → (Nat → Nat → Nat) → Int32 → Int32 → Int32 → Int32 → Int32 → Prop} {m15 : Nat} {K : Int32 → cS → Prop} (hJ : J F0 F r) (ha0 : kd a0 = 6) (hK : ∀ v : Int32, isB v → K v (F, L, r)) (hB15 : ∀ (x1 : Int32) (x2 : Int32) (x3 : Int32) (x4 : Int32) (x5 : Int32), 0 ≤ x5 → mu x5 < m15 → B15 F L r x1 x2 x3 x4 x5) (n : Nat) : ∀ (x1 : Int32) (x2 : Int32) (x3 : Int32) (x4 : Int32) (x5 : Int32) (x6 : Int32), 0 ≤ x6 → 0 ≤ x5 → x5 < 30 → mu (x5 + 1) < m15 → mu (x6) < n → wpX6_usesYes_b51 B15 a0 n F L r x1 x2 x3 x4 x5 x6 K := by
  induction n with
  | zero => intro x1 x2 x3 x4 x5 x6 hi0 hi1 hi2 hi3 hm; exact absurd hm (Nat.not_lt_zero _)
  | succ n ih =>
    intro x1 x2 x3 x4 x5 x6 hi0 hi1 hi2 hi3 hm
    have l_i := hJ.li ha0
    have e_i := fun i => hJ.ae (i := i) ha0
    have hm15 := hi3
    unfold wpX6_usesYes_b51 wpX6_usesYes_b51_body
    refine ⟨vI (c := 30) rfl (by first | assumption | omega | grind | (simp only [pt_r] at *; grind) | (simp [pt_r]; grind)) (by first | assumption | omega | grind | (simp only [pt_r] at *; grind) | (simp [pt_r]; grind)), ?_⟩
    refine ⟨fun c0 => ?_, fun c0 => ?_⟩
    · exact hB15 _ _ _ _ _ (by first | assumption | (exact lt1 (mu_lt (by assumption)) hm) | grind) hm15
    · refine ⟨vI (c := 360) rfl (by first | assumption | omega | grind | (simp only [pt_r] at *; grind) | (simp [pt_r]; grind)) (by first | assumption | omega | grind | (simp only [pt_r] at *; grind) | (simp [pt_r]; grind)), ?_⟩
      refine s_X6_actOf (fun r75 => ?_)
      refine ⟨fun c1 => ?_, fun c1 => ?_⟩
      · unfold wpX6_usesYes_b86
        exact ih _ _ _ _ _ _ (by first | assumption | (exact lt1 (mu_lt (by assumption)) hm) | grind) (by first | assumption | (exact lt1 (mu_lt (by assumption)) hm) | grind) (by first | assumption | (exact lt1 (mu_lt (by assumption)) hm) | grind) (by first | assumption | (exact lt1 (mu_lt (by assumption)) hm) | grind) (lt1 (mu_lt c0) hm)
      · unfold wpX6_usesYes_b86
        exact ih _ _ _ _ _ _ (by first | assumption | (exact lt1 (mu_lt (by assumption)) hm) | grind) (by first | assumption | (exact lt1 (mu_lt (by assumption)) hm) | grind) (by first | assumption | (exact lt1 (mu_lt (by assumption)) hm) | grind) (by first | assumption | (exact lt1 (mu_lt (by assumption)) hm) | grind) (lt1 (mu_lt c0) hm)
set_option maxHeartbeats 1000000 in
theorem l_X6_usesYes_b15 {F0 : Nat → Nat → Int32} {a0 : Nat} {F : Nat → Nat → Int32} {L : Nat → Nat → Int64} {r : Nat → Nat → Nat} {K : Int32 → cS → Prop} (hJ : J F0 F r) (ha0 : kd a0 = 6) (hK : ∀ v : Int32, isB v → K v (F, L, r)) (n : Nat) : ∀ (x1 : Int32) (x2 : Int32) (x3 : Int32) (x4 : Int32) (x5 : Int32), 0 ≤ x5 → mu (x5) < n → wpX6_usesYes_b15 a0 n F L r x1 x2 x3 x4 x5 K := by
  induction n with
  | zero => intro x1 x2 x3 x4 x5 hi0 hm; exact absurd hm (Nat.not_lt_zero _)
  | succ n ih =>
    intro x1 x2 x3 x4 x5 hi0 hm
    have l_i := hJ.li ha0
    have e_i := fun i => hJ.ae (i := i) ha0
    unfold wpX6_usesYes_b15 wpX6_usesYes_b15_body
    refine ⟨fun c0 => ?_, fun c0 => ?_⟩
    · refine ⟨fun c1 => ?_, fun c1 => ?_⟩
      · unfold wpX6_usesYes_b114
        unfold wpX6_usesYes_b115
        refine ⟨(by first | exact Or.inl rfl | exact Or.inr rfl | assumption), ?_⟩
        exact hK _ (by first | exact Or.inl rfl | exact Or.inr rfl | assumption)
      · refine ⟨fun c2 => ?_, fun c2 => ?_⟩
        · unfold wpX6_usesYes_b114
          unfold wpX6_usesYes_b115
          refine ⟨(by first | exact Or.inl rfl | exact Or.inr rfl | assumption), ?_⟩
          exact hK _ (by first | exact Or.inl rfl | exact Or.inr rfl | assumption)
        · unfold wpX6_usesYes_b115
          refine ⟨(by first | exact Or.inl rfl | exact Or.inr rfl | assumption), ?_⟩
          exact hK _ (by first | exact Or.inl rfl | exact Or.inr rfl | assumption)
    · refine ⟨vI (c := 30) rfl (by first | assumption | omega | grind | (simp only [pt_r] at *; grind) | (simp [pt_r]; grind)) (by first | assumption | omega | grind | (simp only [pt_r] at *; grind) | (simp [pt_r]; grind)), ?_⟩
      refine ⟨fun c1 => ?_, fun c1 => ?_⟩
      · unfold wpX6_usesYes_b42
        exact ⟨_, l_X6_usesYes_b51 hJ ha0 hK ih _ _ _ _ _ _ _ (by first | assumption | (exact lt1 (mu_lt (by assumption)) hm) | grind) (by first | assumption | (exact lt1 (mu_lt (by assumption)) hm) | grind) (by first | assumption | (exact lt1 (mu_lt (by assumption)) hm) | grind) (by first | assumption | (exact lt1 (mu_lt (by assumption)) hm) | grind) (Nat.lt_succ_self _)⟩
      · unfold wpX6_usesYes_b42
        exact ⟨_, l_X6_usesYes_b51 hJ ha0 hK ih _ _ _ _ _ _ _ (by first | assumption | (exact lt1 (mu_lt (by assumption)) hm) | grind) (by first | assumption | (exact lt1 (mu_lt (by assumption)) hm) | grind) (by first | assumption | (exact lt1 (mu_lt (by assumption)) hm) | grind) (by first | assumption | (exact lt1 (mu_lt (by assumption)) hm) | grind) (Nat.lt_succ_self _)⟩
set_option maxHeartbeats 1000000 in
theorem s_X6_usesYes {F0 : Nat → Nat → Int32} {a0 : Nat} {F : Nat → Nat → Int32} {L : Nat → Nat → Int64} {r : Nat → Nat → Nat} {x1 : Int32} {K : Int32 → cS → Prop} (hJ : J F0 F r) (ha0 : kd a0 = 6) (hK : ∀ v : Int32, isB v → K v (F, L, r)) : wpX6_usesYes a0 F L r x1 K := by
  have l_i := hJ.li ha0
  have e_i := fun i => hJ.ae (i := i) ha0
  unfold wpX6_usesYes
  unfold wpX6_usesYes_b0
  exact ⟨_, l_X6_usesYes_b15 hJ ha0 hK _ _ _ _ _ _ (by first | assumption | (exact lt1 (mu_lt (by assumption)) hm) | grind) (Nat.lt_succ_self _)⟩
set_option maxHeartbeats 1000000 in
theorem s_X3_standsAs {F0 : Nat → Nat → Int32} {a0 : Nat} {a1 : Nat} {F : Nat → Nat → Int32} {L : Nat → Nat → Int64} {r : Nat → Nat → Nat} {K : Int32 → cS → Prop} (hJ : J F0 F r) (ha0 : kd a0 = 3) (ha1 : kd a1 = 3) (hK : ∀ v : Int32, isB v → K v (F, L, r)) : wpX3_standsAs a0 a1 F L r K := by
  unfold wpX3_standsAs
  unfold wpX3_standsAs_b0
  refine ⟨fun c0 => ?_, fun c0 => ?_⟩
  · unfold wpX3_standsAs_b26
    unfold wpX3_standsAs_b27
    refine ⟨(by first | exact Or.inl rfl | exact Or.inr rfl | assumption), ?_⟩
    exact hK _ (by first | exact Or.inl rfl | exact Or.inr rfl | assumption)
  · refine ⟨fun c1 => ?_, fun c1 => ?_⟩
    · unfold wpX3_standsAs_b26
      unfold wpX3_standsAs_b27
      refine ⟨(by first | exact Or.inl rfl | exact Or.inr rfl | assumption), ?_⟩
      exact hK _ (by first | exact Or.inl rfl | exact Or.inr rfl | assumption)
    · unfold wpX3_standsAs_b27
      refine ⟨(by first | exact Or.inl rfl | exact Or.inr rfl | assumption), ?_⟩
      exact hK _ (by first | exact Or.inl rfl | exact Or.inr rfl | assumption)
set_option maxHeartbeats 1000000 in
theorem l_X8_partWays_b24 {F0 : Nat → Nat → Int32} {a1 : Nat} {K : Int32 → cS → Prop} (ha1 : kd a1 = 6) (hK : ∀ v : Int32, ∀ u : cS, J F0 u.1 u.2.2 → isB v → K v u) (n : Nat) : ∀ (F : Nat → Nat → Int32) (L : Nat → Nat → Int64) (r : Nat → Nat → Nat) (x2 : Int32), J F0 F r → 0 ≤ x2 → mu (x2) < n → wpX8_partWays_b24 a1 n F L r x2 K := by
  induction n with
  | zero => intro F L r x2 hJ hi0 hm; exact absurd hm (Nat.not_lt_zero _)
  | succ n ih =>
    intro F L r x2 hJ hi0 hm
    unfold wpX8_partWays_b24 wpX8_partWays_b24_body
    refine ⟨fun c0 => ?_, fun c0 => ?_⟩
    · unfold wpX8_partWays_b93
      exact hK _ _ hJ (by first | exact Or.inl rfl | exact Or.inr rfl | assumption)
    · refine ⟨fun c1 => ?_, fun c1 => ?_⟩
      · unfold wpX8_partWays_b93
        exact hK _ _ hJ (by first | exact Or.inl rfl | exact Or.inr rfl | assumption)
      · refine s_X3_obey hJ kp86 ha1 kp66 (fun u56 hJ56  => ?_)
        refine s_X3_obey hJ56 kp88 ha1 kp66 (fun u68 hJ68  => ?_)
        refine s_X3_standsAs hJ68 kp86 kp88 (fun r79 hb79 => ?_)
        try dsimp only
        refine ⟨fun c2 => ?_, fun c2 => ?_⟩
        · exact ih _ _ _ _ hJ68 (by first | assumption | omega | grind | (simp only [pt_r] at *; grind) | (simp [pt_r]; grind)) (lt1 (mu_lt c0) hm)
        · exact hK _ _ hJ68 (by first | exact Or.inl rfl | exact Or.inr rfl | assumption)
set_option maxHeartbeats 1000000 in
theorem s_X8_partWays {F0 : Nat → Nat → Int32} {a1 : Nat} {F : Nat → Nat → Int32} {L : Nat → Nat → Int64} {r : Nat → Nat → Nat} {K : Int32 → cS → Prop} (hJ : J F0 F r) (ha1 : kd a1 = 6) (hK : ∀ v : Int32, ∀ u : cS, J F0 u.1 u.2.2 → isB v → K v u) : wpX8_partWays a1 F L r K := by
  unfold wpX8_partWays
  unfold wpX8_partWays_b0
  refine s_X3_setDownWiped hJ kp86 (fun u8 hJ8  => ?_)
  refine s_X3_setDownWiped hJ8 kp88 (fun u19 hJ19  => ?_)
  exact ⟨_, l_X8_partWays_b24 ha1 hK _ _ _ _ _ hJ19 (by first | assumption | omega | grind | (simp only [pt_r] at *; grind) | (simp [pt_r]; grind)) (Nat.lt_succ_self _)⟩
set_option maxHeartbeats 1000000 in
theorem l_X8_isNeeded_b30 {F0 : Nat → Nat → Int32} {a1 : Nat} {K : Int32 → cS → Prop} (ha1 : kd a1 = 6) (hK : ∀ v : Int32, ∀ u : cS, J F0 u.1 u.2.2 → isB v → K v u) (n : Nat) : ∀ (F : Nat → Nat → Int32) (L : Nat → Nat → Int64) (r : Nat → Nat → Nat) (x5 : Int32), J F0 F r → 0 ≤ x5 → mu (x5) < n → wpX8_isNeeded_b30 a1 n F L r x5 K := by
  induction n with
  | zero => intro F L r x5 hJ hi0 hm; exact absurd hm (Nat.not_lt_zero _)
  | succ n ih =>
    intro F L r x5 hJ hi0 hm
    unfold wpX8_isNeeded_b30 wpX8_isNeeded_b30_body
    refine ⟨fun c0 => ?_, fun c0 => ?_⟩
    · unfold wpX8_isNeeded_b60
      exact hK _ _ hJ (by first | exact Or.inl rfl | exact Or.inr rfl | assumption)
    · refine s_X8_nextStart hJ (fun r38 u38 hJ38 hb38  => ?_)
      refine ⟨fun c1 => ?_, fun c1 => ?_⟩
      · unfold wpX8_isNeeded_b60
        exact hK _ _ hJ38 (by first | exact Or.inl rfl | exact Or.inr rfl | assumption)
      · refine s_X8_partWays hJ38 ha1 (fun r46 u46 hJ46 hb46  => ?_)
        refine ⟨fun c2 => ?_, fun c2 => ?_⟩
        · exact ih _ _ _ _ hJ46 (by first | assumption | omega | grind | (simp only [pt_r] at *; grind) | (simp [pt_r]; grind)) (lt1 (mu_lt c0) hm)
        · exact hK _ _ hJ46 (by first | exact Or.inl rfl | exact Or.inr rfl | assumption)
