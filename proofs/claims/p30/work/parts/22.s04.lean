set_option maxHeartbeats 1000000 in
theorem s_X5_read {F0 : Nat → Nat → Int32} {F : Nat → Nat → Int32} {L : Nat → Nat → Int64} {r : Nat → Nat → Nat} {x1 : Int32} {K : Int32 → cS → Prop} (hJ : J F0 F r) (hK : ∀ v : Int32, ∀ u : cS, J F0 u.1 u.2.2 → isB v → K v u) : wpX5_read F L r x1 K := by
  have i4_i := is4 hJ.c125
  have n_i := hJ.n9
  have d0_i := hJ.r4 hJ.c125
  have d2_i := hJ.g4 hJ.c125
  unfold wpX5_read
  unfold wpX5_read_b0
  refine ⟨(hJ).c125, ?_⟩
  refine s_X4_clear hJ (hJ).c125 (fun u4 hJ4  => ?_)
  have i4_4 := is4 hJ4.c125
  have n_4 := hJ4.n9
  have d0_4 := hJ4.r4 hJ4.c125
  have d2_4 := hJ4.g4 hJ4.c125
  refine s_X9_open (J5 (by decide) (J5 (by decide) hJ4)) (by decide) (fun u24 hJ24  => ?_)
  have i4_24 := is4 hJ24.c125
  have n_24 := hJ24.n9
  have d0_24 := hJ24.r4 hJ24.c125
  have d2_24 := hJ24.g4 hJ24.c125
  exact ⟨_, l_X5_read_b29 hK _ _ _ _ _ hJ24 (by first | assumption | omega | grind | (simp only [pt_r] at *; grind) | (simp [pt_r]; grind)) (Nat.lt_succ_self _)⟩
set_option maxHeartbeats 1000000 in
theorem s_X5_exchange {F0 : Nat → Nat → Int32} {a1 : Nat} {F : Nat → Nat → Int32} {L : Nat → Nat → Int64} {r : Nat → Nat → Nat} {K : Nat → cS → Prop} (hJ : J F0 F r) (ha1 : kd a1 = 4) (hK : ∀ v : Nat, ∀ u : cS, J F0 u.1 u.2.2 → kd v = 4 → K v u) : wpX5_exchange a1 F L r K := by
  have i4_i := is4 hJ.c125
  have n_i := hJ.n9
  have d0_i := hJ.r4 hJ.c125
  have d2_i := hJ.g4 hJ.c125
  unfold wpX5_exchange
  unfold wpX5_exchange_b0
  exact hK _ _ (Jr12_5 ha1 hJ) ((hJ).c125)
set_option maxHeartbeats 1000000 in
theorem s_X0_renew {F0 : Nat → Nat → Int32} {a0 : Nat} {F : Nat → Nat → Int32} {L : Nat → Nat → Int64} {r : Nat → Nat → Nat} {K : cS → Prop} (hJ : J F0 F r) (ha0 : kd a0 = 0) (hK : ∀ u : cS, J F0 u.1 u.2.2 → K u) : wpX0_renew a0 F L r K := by
  unfold wpX0_renew
  unfold wpX0_renew_b0
  exact hK _ (Jf ha0 rfl (Jf ha0 rfl (Jf ha0 rfl (Jf ha0 rfl hJ))))
set_option maxHeartbeats 1000000 in
theorem s_X10_fault {F0 : Nat → Nat → Int32} {F : Nat → Nat → Int32} {L : Nat → Nat → Int64} {r : Nat → Nat → Nat} {x1 : Int32} {K : Int32 → cS → Prop} (hJ : J F0 F r) (hK : ∀ v : Int32, K v (F, L, r)) : wpX10_fault F L r x1 K := by
  have t0_i := hJ.t0
  unfold wpX10_fault
  unfold wpX10_fault_b0
  refine ⟨fun c0 => ?_, fun c0 => ?_, fun c0 => ?_⟩
  · exact hK _
  · exact hK _
  · exact hK _
set_option maxHeartbeats 1000000 in
theorem s_X3_setDown {F0 : Nat → Nat → Int32} {a0 : Nat} {F : Nat → Nat → Int32} {L : Nat → Nat → Int64} {r : Nat → Nat → Nat} {x1 : Int32} {K : cS → Prop} (hJ : J F0 F r) (ha0 : kd a0 = 3) (hK : ∀ u : cS, J F0 u.1 u.2.2 → K u) : wpX3_setDown a0 F L r x1 K := by
  unfold wpX3_setDown
  unfold wpX3_setDown_b0
  exact hK _ (Jf ha0 rfl (Jf ha0 rfl (Jf ha0 rfl (Jf ha0 rfl hJ))))
set_option maxHeartbeats 1000000 in
theorem l_X3_clearSquares_b12 {F0 : Nat → Nat → Int32} {a0 : Nat} {F : Nat → Nat → Int32} {r : Nat → Nat → Nat} {K : cS → Prop} (hJ : J F0 F r) (ha0 : kd a0 = 3) (hK : ∀ L' : Nat → Nat → Int64, K (F, L', r)) (n : Nat) : ∀ (L : Nat → Nat → Int64) (x1 : Int32), 0 ≤ x1 → mu (x1) < n → wpX3_clearSquares_b12 a0 n F L r x1 K := by
  induction n with
  | zero => intro L x1 hi0 hm; exact absurd hm (Nat.not_lt_zero _)
  | succ n ih =>
    intro L x1 hi0 hm
    unfold wpX3_clearSquares_b12 wpX3_clearSquares_b12_body
    refine ⟨fun c0 => ?_, fun c0 => ?_⟩
    · exact hK _
    · refine ⟨vI (c := 3) rfl (by first | assumption | omega | grind | (simp only [pt_r] at *; grind) | (simp [pt_r]; grind)) (by first | assumption | omega | grind | (simp only [pt_r] at *; grind) | (simp [pt_r]; grind)), ?_⟩
      exact ih _ _ (by first | assumption | omega | grind | (simp only [pt_r] at *; grind) | (simp [pt_r]; grind)) (lt1 (mu_lt c0) hm)
set_option maxHeartbeats 1000000 in
theorem s_X3_clearSquares {F0 : Nat → Nat → Int32} {a0 : Nat} {F : Nat → Nat → Int32} {L : Nat → Nat → Int64} {r : Nat → Nat → Nat} {K : cS → Prop} (hJ : J F0 F r) (ha0 : kd a0 = 3) (hK : ∀ L' : Nat → Nat → Int64, K (F, L', r)) : wpX3_clearSquares a0 F L r K := by
  unfold wpX3_clearSquares
  unfold wpX3_clearSquares_b0
  exact ⟨_, l_X3_clearSquares_b12 hJ ha0 hK _ _ _ (by first | assumption | omega | grind | (simp only [pt_r] at *; grind) | (simp [pt_r]; grind)) (Nat.lt_succ_self _)⟩
set_option maxHeartbeats 1000000 in
theorem s_X3_setDownWiped {F0 : Nat → Nat → Int32} {a0 : Nat} {F : Nat → Nat → Int32} {L : Nat → Nat → Int64} {r : Nat → Nat → Nat} {x1 : Int32} {K : cS → Prop} (hJ : J F0 F r) (ha0 : kd a0 = 3) (hK : ∀ u : cS, J F0 u.1 u.2.2 → K u) : wpX3_setDownWiped a0 F L r x1 K := by
  unfold wpX3_setDownWiped
  unfold wpX3_setDownWiped_b0
  refine s_X3_setDown hJ ha0 (fun u2 hJ2  => ?_)
  refine s_X3_clearSquares hJ2 ha0 (fun L6 => ?_)
  try dsimp only
  exact hK _ hJ2
set_option maxHeartbeats 1000000 in
theorem s_X0_settle {F0 : Nat → Nat → Int32} {a0 : Nat} {F : Nat → Nat → Int32} {L : Nat → Nat → Int64} {r : Nat → Nat → Nat} {x1 : Int32} {K : cS → Prop} (hJ : J F0 F r) (ha0 : kd a0 = 0) (hK : ∀ u : cS, J F0 u.1 u.2.2 → K u) : wpX0_settle a0 F L r x1 K := by
  unfold wpX0_settle
  unfold wpX0_settle_b0
  exact hK _ (Jf ha0 rfl hJ)
set_option maxHeartbeats 1000000 in
theorem s_X0_release {F0 : Nat → Nat → Int32} {a0 : Nat} {F : Nat → Nat → Int32} {L : Nat → Nat → Int64} {r : Nat → Nat → Nat} {K : cS → Prop} (hJ : J F0 F r) (ha0 : kd a0 = 0) (hK : ∀ u : cS, J F0 u.1 u.2.2 → K u) : wpX0_release a0 F L r K := by
  unfold wpX0_release
  unfold wpX0_release_b0
  refine s_X0_settle hJ ha0 (fun u2 hJ2  => ?_)
  exact hK _ hJ2
set_option maxHeartbeats 1000000 in
theorem s_X1_has {F0 : Nat → Nat → Int32} {a0 : Nat} {F : Nat → Nat → Int32} {L : Nat → Nat → Int64} {r : Nat → Nat → Nat} {x1 : Int32} {K : Int32 → cS → Prop} (hJ : J F0 F r) (ha0 : kd a0 = 1) (hK : ∀ v : Int32, isB v → K v (F, L, r)) : wpX1_has a0 F L r x1 K := by
  unfold wpX1_has
  unfold wpX1_has_b0
  refine ⟨fun c0 => ?_, fun c0 => ?_⟩
  · unfold wpX1_has_b16
    unfold wpX1_has_b17
    refine ⟨(by first | exact Or.inl rfl | exact Or.inr rfl | assumption), ?_⟩
    exact hK _ (by first | exact Or.inl rfl | exact Or.inr rfl | assumption)
  · refine ⟨fun c1 => ?_, fun c1 => ?_⟩
    · unfold wpX1_has_b16
      unfold wpX1_has_b17
      refine ⟨(by first | exact Or.inl rfl | exact Or.inr rfl | assumption), ?_⟩
      exact hK _ (by first | exact Or.inl rfl | exact Or.inr rfl | assumption)
    · unfold wpX1_has_b17
      refine ⟨(by first | exact Or.inl rfl | exact Or.inr rfl | assumption), ?_⟩
      exact hK _ (by first | exact Or.inl rfl | exact Or.inr rfl | assumption)
set_option maxHeartbeats 1000000 in
theorem s_X10_isSide {x0 : Int32} {K : Int32 → Unit → Prop} (hK : ∀ v : Int32, isB v → K v ()) : wpX10_isSide x0 K := by
  unfold wpX10_isSide
  unfold wpX10_isSide_b0
  refine ⟨fun c0 => ?_, fun c0 => ?_⟩
  · unfold wpX10_isSide_b13
    unfold wpX10_isSide_b14
    refine ⟨(by first | exact Or.inl rfl | exact Or.inr rfl | assumption), ?_⟩
    exact hK _ (by first | exact Or.inl rfl | exact Or.inr rfl | assumption)
  · refine ⟨fun c1 => ?_, fun c1 => ?_⟩
    · unfold wpX10_isSide_b13
      unfold wpX10_isSide_b14
      refine ⟨(by first | exact Or.inl rfl | exact Or.inr rfl | assumption), ?_⟩
      exact hK _ (by first | exact Or.inl rfl | exact Or.inr rfl | assumption)
    · unfold wpX10_isSide_b14
      refine ⟨(by first | exact Or.inl rfl | exact Or.inr rfl | assumption), ?_⟩
      exact hK _ (by first | exact Or.inl rfl | exact Or.inr rfl | assumption)
set_option maxHeartbeats 1000000 in
theorem s_X1_isRim {F0 : Nat → Nat → Int32} {a0 : Nat} {F : Nat → Nat → Int32} {L : Nat → Nat → Int64} {r : Nat → Nat → Nat} {x1 : Int32} {x2 : Int32} {K : Int32 → cS → Prop} (hJ : J F0 F r) (ha0 : kd a0 = 1) (hK : ∀ v : Int32, isB v → K v (F, L, r)) : wpX1_isRim a0 F L r x1 x2 K := by
  unfold wpX1_isRim
  unfold wpX1_isRim_b0
  refine ⟨and3 _, ?_⟩
  refine ⟨fun c0 => ?_, fun c0 => ?_⟩
  · unfold wpX1_isRim_b22
    refine ⟨(by first | exact Or.inl rfl | exact Or.inr rfl | assumption), ?_⟩
    exact hK _ (by first | exact Or.inl rfl | exact Or.inr rfl | assumption)
  · unfold wpX1_isRim_b22
    refine ⟨(by first | exact Or.inl rfl | exact Or.inr rfl | assumption), ?_⟩
    exact hK _ (by first | exact Or.inl rfl | exact Or.inr rfl | assumption)
set_option maxHeartbeats 1000000 in
theorem s_X1_isWalled {F0 : Nat → Nat → Int32} {a0 : Nat} {F : Nat → Nat → Int32} {L : Nat → Nat → Int64} {r : Nat → Nat → Nat} {x1 : Int32} {x2 : Int32} {K : Int32 → cS → Prop} (hJ : J F0 F r) (ha0 : kd a0 = 1) (hK : ∀ v : Int32, isB v → K v (F, L, r)) : wpX1_isWalled a0 F L r x1 x2 K := by
  unfold wpX1_isWalled
  unfold wpX1_isWalled_b0
  refine ⟨and3 _, ?_⟩
  refine ⟨fun c0 => ?_, fun c0 => ?_⟩
  · unfold wpX1_isWalled_b22
    refine ⟨(by first | exact Or.inl rfl | exact Or.inr rfl | assumption), ?_⟩
    exact hK _ (by first | exact Or.inl rfl | exact Or.inr rfl | assumption)
  · unfold wpX1_isWalled_b22
    refine ⟨(by first | exact Or.inl rfl | exact Or.inr rfl | assumption), ?_⟩
    exact hK _ (by first | exact Or.inl rfl | exact Or.inr rfl | assumption)
set_option maxHeartbeats 1000000 in
theorem s_X1_markWall {F0 : Nat → Nat → Int32} {a0 : Nat} {F : Nat → Nat → Int32} {L : Nat → Nat → Int64} {r : Nat → Nat → Nat} {x1 : Int32} {x2 : Int32} {x3 : Int32} {K : cS → Prop} (hJ : J F0 F r) (ha0 : kd a0 = 1) (hK : ∀ L' : Nat → Nat → Int64, K (F, L', r)) : wpX1_markWall a0 F L r x1 x2 x3 K := by
  unfold wpX1_markWall
  unfold wpX1_markWall_b0
  refine ⟨fun c0 => ?_, fun c0 => ?_⟩
  · refine ⟨and3 _, ?_⟩
    refine ⟨and3 _, ?_⟩
    unfold wpX1_markWall_b39
    exact hK _
  · refine ⟨and3 _, ?_⟩
    refine ⟨and3 _, ?_⟩
    unfold wpX1_markWall_b39
    exact hK _
set_option maxHeartbeats 1000000 in
theorem s_X1_ahead {F0 : Nat → Nat → Int32} {a0 : Nat} {F : Nat → Nat → Int32} {L : Nat → Nat → Int64} {r : Nat → Nat → Nat} {x1 : Int32} {x2 : Int32} {K : Int32 → cS → Prop} (hJ : J F0 F r) (ha0 : kd a0 = 1) (hK : ∀ v : Int32, K v (F, L, r)) : wpX1_ahead a0 F L r x1 x2 K := by
  unfold wpX1_ahead
  unfold wpX1_ahead_b0
  refine ⟨and3 _, ?_⟩
  exact hK _
set_option maxHeartbeats 1000000 in
theorem s_X1_putWall {F0 : Nat → Nat → Int32} {a0 : Nat} {F : Nat → Nat → Int32} {L : Nat → Nat → Int64} {r : Nat → Nat → Nat} {x1 : Int32} {x2 : Int32} {x3 : Int32} {K : cS → Prop} (hJ : J F0 F r) (ha0 : kd a0 = 1) (hK : ∀ L' : Nat → Nat → Int64, K (F, L', r)) : wpX1_putWall a0 F L r x1 x2 x3 K := by
  unfold wpX1_putWall
  unfold wpX1_putWall_b0
  refine s_X1_markWall hJ ha0 (fun L4 => ?_)
  try dsimp only
  refine s_X1_ahead hJ ha0 (fun r11 => ?_)
  try dsimp only
  refine s_X1_markWall hJ ha0 (fun L18 => ?_)
  try dsimp only
  exact hK _
set_option maxHeartbeats 1000000 in
theorem s_X10_wall {F0 : Nat → Nat → Int32} {F : Nat → Nat → Int32} {L : Nat → Nat → Int64} {r : Nat → Nat → Nat} {x1 : Int32} {x2 : Int32} {x3 : Int32} {K : Int32 → cS → Prop} (hJ : J F0 F r) (hK : ∀ v : Int32, ∀ u : cS, J F0 u.1 u.2.2 → isB v → K v u) : wpX10_wall F L r x1 x2 x3 K := by
  have t0_i := hJ.t0
  unfold wpX10_wall
  unfold wpX10_wall_b0
  refine s_X1_has hJ kp46 (fun r5 hb5 => ?_)
  try dsimp only
  refine ⟨fun c0 => ?_, fun c0 => ?_⟩
  · unfold wpX10_wall_b30
    exact hK _ _ hJ (by first | exact Or.inl rfl | exact Or.inr rfl | assumption)
  · refine s_X10_isSide (fun r12 hb12 => ?_)
    refine ⟨fun c1 => ?_, fun c1 => ?_⟩
    · unfold wpX10_wall_b30
      exact hK _ _ hJ (by first | exact Or.inl rfl | exact Or.inr rfl | assumption)
    · refine s_X1_isRim hJ kp46 (fun r24 hb24 => ?_)
      try dsimp only
      refine ⟨fun c2 => ?_, fun c2 => ?_⟩
      · refine s_X1_isWalled hJ kp46 (fun r38 hb38 => ?_)
        try dsimp only
        refine ⟨fun c3 => ?_, fun c3 => ?_⟩
        · refine s_X1_putWall hJ kp46 (fun L54 => ?_)
          try dsimp only
          exact hK _ _ hJ (by first | exact Or.inl rfl | exact Or.inr rfl | assumption)
        · exact hK _ _ hJ (by first | exact Or.inl rfl | exact Or.inr rfl | assumption)
      · unfold wpX10_wall_b30
        exact hK _ _ hJ (by first | exact Or.inl rfl | exact Or.inr rfl | assumption)
set_option maxHeartbeats 1000000 in
theorem s_X10_lift {F0 : Nat → Nat → Int32} {F : Nat → Nat → Int32} {L : Nat → Nat → Int64} {r : Nat → Nat → Nat} {x1 : Int32} {x2 : Int32} {K : Int32 → cS → Prop} (hJ : J F0 F r) (hK : ∀ v : Int32, ∀ u : cS, J F0 u.1 u.2.2 → isB v → K v u) : wpX10_lift F L r x1 x2 K := by
  have t0_i := hJ.t0
  unfold wpX10_lift
  unfold wpX10_lift_b0
  refine s_X1_has hJ kp46 (fun r5 hb5 => ?_)
  try dsimp only
  refine ⟨fun c0 => ?_, fun c0 => ?_⟩
  · unfold wpX10_lift_b18
    exact hK _ _ hJ (by first | exact Or.inl rfl | exact Or.inr rfl | assumption)
  · refine s_X10_isSide (fun r12 hb12 => ?_)
    refine ⟨fun c1 => ?_, fun c1 => ?_⟩
    · exact hK _ _ (Jf kp74 rfl (Jf kp74 rfl hJ)) (by first | exact Or.inl rfl | exact Or.inr rfl | assumption)
    · unfold wpX10_lift_b18
      exact hK _ _ hJ (by first | exact Or.inl rfl | exact Or.inr rfl | assumption)
set_option maxHeartbeats 1000000 in
theorem l_X3_markedSquares_b12 {F0 : Nat → Nat → Int32} {a0 : Nat} {F : Nat → Nat → Int32} {L : Nat → Nat → Int64} {r : Nat → Nat → Nat} {K : Int32 → cS → Prop} (hJ : J F0 F r) (ha0 : kd a0 = 3) (hK : ∀ v : Int32, K v (F, L, r)) (n : Nat) : ∀ (x1 : Int64) (x3 : Int32), 0 ≤ x3 → mu (x3) < n → wpX3_markedSquares_b12 a0 n F L r x1 x3 K := by
  induction n with
  | zero => intro x1 x3 hi0 hm; exact absurd hm (Nat.not_lt_zero _)
  | succ n ih =>
    intro x1 x3 hi0 hm
    unfold wpX3_markedSquares_b12 wpX3_markedSquares_b12_body
    refine ⟨fun c0 => ?_, fun c0 => ?_⟩
    · refine s_J13_bitCount_95d88 (fun r33 => ?_)
      exact hK _
    · refine ⟨vI (c := 3) rfl (by first | assumption | omega | grind | (simp only [pt_r] at *; grind) | (simp [pt_r]; grind)) (by first | assumption | omega | grind | (simp only [pt_r] at *; grind) | (simp [pt_r]; grind)), ?_⟩
      exact ih _ _ (by first | assumption | omega | grind | (simp only [pt_r] at *; grind) | (simp [pt_r]; grind)) (lt1 (mu_lt c0) hm)
set_option maxHeartbeats 1000000 in
theorem s_X3_markedSquares {F0 : Nat → Nat → Int32} {a0 : Nat} {F : Nat → Nat → Int32} {L : Nat → Nat → Int64} {r : Nat → Nat → Nat} {K : Int32 → cS → Prop} (hJ : J F0 F r) (ha0 : kd a0 = 3) (hK : ∀ v : Int32, K v (F, L, r)) : wpX3_markedSquares a0 F L r K := by
  unfold wpX3_markedSquares
  unfold wpX3_markedSquares_b0
  exact ⟨_, l_X3_markedSquares_b12 hJ ha0 hK _ _ _ (by first | assumption | omega | grind | (simp only [pt_r] at *; grind) | (simp [pt_r]; grind)) (Nat.lt_succ_self _)⟩
set_option maxHeartbeats 1000000 in
theorem s_X10_wipe {F0 : Nat → Nat → Int32} {F : Nat → Nat → Int32} {L : Nat → Nat → Int64} {r : Nat → Nat → Nat} {K : Int32 → cS → Prop} (hJ : J F0 F r) (hK : ∀ v : Int32, ∀ u : cS, J F0 u.1 u.2.2 → K v u) : wpX10_wipe F L r K := by
  have t0_i := hJ.t0
  unfold wpX10_wipe
  unfold wpX10_wipe_b0
  refine s_X3_markedSquares hJ kp74 (fun r4 => ?_)
  try dsimp only
  refine s_X3_clearSquares hJ kp74 (fun L12 => ?_)
  try dsimp only
  refine s_X0_release (Jf kp74 rfl (Jf kp74 rfl hJ)) kp43 (fun u35 hJ35  => ?_)
  have t0_35 := hJ35.t0
  exact hK _ _ hJ35
set_option maxHeartbeats 1000000 in
theorem l_X3_yesesOf_b4 {F0 : Nat → Nat → Int32} {a0 : Nat} {F : Nat → Nat → Int32} {L : Nat → Nat → Int64} {r : Nat → Nat → Nat} {K : Int32 → cS → Prop} (hJ : J F0 F r) (ha0 : kd a0 = 3) (hK : ∀ v : Int32, K v (F, L, r)) (n : Nat) : ∀ (x1 : Int32) (x2 : Int32) (x3 : Int32), 0 ≤ x3 → mu (x3) < n → wpX3_yesesOf_b4 a0 n F L r x1 x2 x3 K := by
  induction n with
  | zero => intro x1 x2 x3 hi0 hm; exact absurd hm (Nat.not_lt_zero _)
  | succ n ih =>
    intro x1 x2 x3 hi0 hm
    unfold wpX3_yesesOf_b4 wpX3_yesesOf_b4_body
    refine ⟨fun c0 => ?_, fun c0 => ?_⟩
    · exact hK _
    · refine ⟨vI (c := 3) rfl (by first | assumption | omega | grind | (simp only [pt_r] at *; grind) | (simp [pt_r]; grind)) (by first | assumption | omega | grind | (simp only [pt_r] at *; grind) | (simp [pt_r]; grind)), ?_⟩
      intro y24 hy24
      exact ih _ _ _ (by first | assumption | omega | grind | (simp only [pt_r] at *; grind) | (simp [pt_r]; grind)) (lt1 (mu_lt c0) hm)
set_option maxHeartbeats 1000000 in
theorem s_X3_yesesOf {F0 : Nat → Nat → Int32} {a0 : Nat} {F : Nat → Nat → Int32} {L : Nat → Nat → Int64} {r : Nat → Nat → Nat} {x1 : Int32} {K : Int32 → cS → Prop} (hJ : J F0 F r) (ha0 : kd a0 = 3) (hK : ∀ v : Int32, K v (F, L, r)) : wpX3_yesesOf a0 F L r x1 K := by
  unfold wpX3_yesesOf
  unfold wpX3_yesesOf_b0
  exact ⟨_, l_X3_yesesOf_b4 hJ ha0 hK _ _ _ _ (by first | assumption | omega | grind | (simp only [pt_r] at *; grind) | (simp [pt_r]; grind)) (Nat.lt_succ_self _)⟩
set_option maxHeartbeats 1000000 in
theorem s_X3_wayOf {F0 : Nat → Nat → Int32} {a0 : Nat} {F : Nat → Nat → Int32} {L : Nat → Nat → Int64} {r : Nat → Nat → Nat} {x1 : Int32} {K : Int32 → cS → Prop} (hJ : J F0 F r) (ha0 : kd a0 = 3) (hK : ∀ v : Int32, K v (F, L, r)) : wpX3_wayOf a0 F L r x1 K := by
  unfold wpX3_wayOf
  unfold wpX3_wayOf_b0
  exact hK _
set_option maxHeartbeats 1000000 in
theorem s_X3_signs {F0 : Nat → Nat → Int32} {a0 : Nat} {a1 : Nat} {F : Nat → Nat → Int32} {L : Nat → Nat → Int64} {r : Nat → Nat → Nat} {K : Int32 → cS → Prop} (hJ : J F0 F r) (ha0 : kd a0 = 3) (ha1 : kd a1 = 1) (hK : ∀ v : Int32, K v (F, L, r)) : wpX3_signs a0 a1 F L r K := by
  unfold wpX3_signs
  unfold wpX3_signs_b0
  refine s_X3_yesesOf hJ ha0 (fun r11 => ?_)
  try dsimp only
  intro y18 hy18
  refine s_X1_isWalled hJ ha1 (fun r28 hb28 => ?_)
  try dsimp only
  refine ⟨fun c0 => ?_, fun c0 => ?_⟩
  · unfold wpX3_signs_b40
    refine ⟨fun c1 => ?_, fun c1 => ?_⟩
    · unfold wpX3_signs_b57
      refine s_X3_wayOf hJ ha0 (fun r66 => ?_)
      try dsimp only
      refine ⟨fun c2 => ?_, fun c2 => ?_⟩
      · unfold wpX3_signs_b78
        exact hK _
      · unfold wpX3_signs_b78
        exact hK _
    · unfold wpX3_signs_b57
      refine s_X3_wayOf hJ ha0 (fun r66 => ?_)
      try dsimp only
      refine ⟨fun c2 => ?_, fun c2 => ?_⟩
      · unfold wpX3_signs_b78
        exact hK _
      · unfold wpX3_signs_b78
        exact hK _
  · unfold wpX3_signs_b40
    refine ⟨fun c1 => ?_, fun c1 => ?_⟩
    · unfold wpX3_signs_b57
      refine s_X3_wayOf hJ ha0 (fun r66 => ?_)
      try dsimp only
      refine ⟨fun c2 => ?_, fun c2 => ?_⟩
      · unfold wpX3_signs_b78
        exact hK _
      · unfold wpX3_signs_b78
        exact hK _
    · unfold wpX3_signs_b57
      refine s_X3_wayOf hJ ha0 (fun r66 => ?_)
      try dsimp only
      refine ⟨fun c2 => ?_, fun c2 => ?_⟩
      · unfold wpX3_signs_b78
        exact hK _
      · unfold wpX3_signs_b78
        exact hK _
set_option maxHeartbeats 1000000 in
theorem l_X6_lineFor_b2 {F0 : Nat → Nat → Int32} {a0 : Nat} {F : Nat → Nat → Int32} {L : Nat → Nat → Int64} {r : Nat → Nat → Nat} {K : Int32 → cS → Prop} (hJ : J F0 F r) (ha0 : kd a0 = 6) (hK : ∀ v : Int32, (v = -1 ∨ (0 ≤ v ∧ v < 30)) → K v (F, L, r)) (n : Nat) : ∀ (x1 : Int32) (x2 : Int32) (x3 : Int32), 0 ≤ x3 → mu (x3) < n → wpX6_lineFor_b2 a0 n F L r x1 x2 x3 K := by
  induction n with
  | zero => intro x1 x2 x3 hi0 hm; exact absurd hm (Nat.not_lt_zero _)
  | succ n ih =>
    intro x1 x2 x3 hi0 hm
    have l_i := hJ.li ha0
    unfold wpX6_lineFor_b2 wpX6_lineFor_b2_body
    refine ⟨fun c0 => ?_, fun c0 => ?_⟩
    · exact hK _ (by first | assumption | omega | grind | (simp only [pt_r] at *; grind) | (simp [pt_r]; grind))
    · refine ⟨vI (c := 30) rfl (by first | assumption | omega | grind | (simp only [pt_r] at *; grind) | (simp [pt_r]; grind)) (by first | assumption | omega | grind | (simp only [pt_r] at *; grind) | (simp [pt_r]; grind)), ?_⟩
      refine ⟨vI (c := 30) rfl (by first | assumption | omega | grind | (simp only [pt_r] at *; grind) | (simp [pt_r]; grind)) (by first | assumption | omega | grind | (simp only [pt_r] at *; grind) | (simp [pt_r]; grind)), ?_⟩
      refine ⟨fun c1 => ?_, fun c1 => ?_⟩
      · unfold wpX6_lineFor_b50
        exact ih _ _ _ (by first | assumption | omega | grind | (simp only [pt_r] at *; grind) | (simp [pt_r]; grind)) (lt1 (mu_lt c0) hm)
      · refine ⟨vI (c := 30) rfl (by first | assumption | omega | grind | (simp only [pt_r] at *; grind) | (simp [pt_r]; grind)) (by first | assumption | omega | grind | (simp only [pt_r] at *; grind) | (simp [pt_r]; grind)), ?_⟩
        refine ⟨fun c2 => ?_, fun c2 => ?_⟩
        · unfold wpX6_lineFor_b50
          exact ih _ _ _ (by first | assumption | omega | grind | (simp only [pt_r] at *; grind) | (simp [pt_r]; grind)) (lt1 (mu_lt c0) hm)
        · refine ⟨vI (c := 30) rfl (by first | assumption | omega | grind | (simp only [pt_r] at *; grind) | (simp [pt_r]; grind)) (by first | assumption | omega | grind | (simp only [pt_r] at *; grind) | (simp [pt_r]; grind)), ?_⟩
          refine ⟨fun c3 => ?_, fun c3 => ?_⟩
          · unfold wpX6_lineFor_b50
            exact ih _ _ _ (by first | assumption | omega | grind | (simp only [pt_r] at *; grind) | (simp [pt_r]; grind)) (lt1 (mu_lt c0) hm)
          · exact hK _ (by first | assumption | omega | grind | (simp only [pt_r] at *; grind) | (simp [pt_r]; grind))
set_option maxHeartbeats 1000000 in
theorem s_X6_lineFor {F0 : Nat → Nat → Int32} {a0 : Nat} {F : Nat → Nat → Int32} {L : Nat → Nat → Int64} {r : Nat → Nat → Nat} {x1 : Int32} {x2 : Int32} {K : Int32 → cS → Prop} (hJ : J F0 F r) (ha0 : kd a0 = 6) (hK : ∀ v : Int32, (v = -1 ∨ (0 ≤ v ∧ v < 30)) → K v (F, L, r)) : wpX6_lineFor a0 F L r x1 x2 K := by
  have l_i := hJ.li ha0
  unfold wpX6_lineFor
  unfold wpX6_lineFor_b0
  exact ⟨_, l_X6_lineFor_b2 hJ ha0 hK _ _ _ _ (by first | assumption | omega | grind | (simp only [pt_r] at *; grind) | (simp [pt_r]; grind)) (Nat.lt_succ_self _)⟩
set_option maxHeartbeats 1000000 in
theorem s_X3_turn {F0 : Nat → Nat → Int32} {a0 : Nat} {F : Nat → Nat → Int32} {L : Nat → Nat → Int64} {r : Nat → Nat → Nat} {x1 : Int32} {K : cS → Prop} (hJ : J F0 F r) (ha0 : kd a0 = 3) (hK : ∀ u : cS, J F0 u.1 u.2.2 → K u) : wpX3_turn a0 F L r x1 K := by
  unfold wpX3_turn
  unfold wpX3_turn_b0
  exact hK _ (Jf ha0 rfl hJ)
set_option maxHeartbeats 1000000 in
theorem s_X3_markWay {F0 : Nat → Nat → Int32} {a0 : Nat} {F : Nat → Nat → Int32} {L : Nat → Nat → Int64} {r : Nat → Nat → Nat} {K : cS → Prop} (hJ : J F0 F r) (ha0 : kd a0 = 3) (hK : ∀ u : cS, J F0 u.1 u.2.2 → K u) : wpX3_markWay a0 F L r K := by
  unfold wpX3_markWay
  unfold wpX3_markWay_b0
  refine ⟨fun c0 => ?_, fun c0 => ?_⟩
  · unfold wpX3_markWay_b36
    refine ⟨fun c1 => ?_, fun c1 => ?_⟩
    · unfold wpX3_markWay_b68
      exact hK _ hJ
    · unfold wpX3_markWay_b68
      exact hK _ hJ
  · unfold wpX3_markWay_b36
    refine ⟨fun c1 => ?_, fun c1 => ?_⟩
    · unfold wpX3_markWay_b68
      exact hK _ hJ
    · unfold wpX3_markWay_b68
      exact hK _ hJ
set_option maxHeartbeats 1000000 in
theorem s_X3_advance {F0 : Nat → Nat → Int32} {a0 : Nat} {a1 : Nat} {F : Nat → Nat → Int32} {L : Nat → Nat → Int64} {r : Nat → Nat → Nat} {K : cS → Prop} (hJ : J F0 F r) (ha0 : kd a0 = 3) (ha1 : kd a1 = 1) (hK : ∀ u : cS, J F0 u.1 u.2.2 → K u) : wpX3_advance a0 a1 F L r K := by
  unfold wpX3_advance
  unfold wpX3_advance_b0
  refine ⟨and3 _, ?_⟩
  refine ⟨fun c0 => ?_, fun c0 => ?_⟩
  · unfold wpX3_advance_b50
    exact hK _ hJ
  · refine ⟨and3 _, ?_⟩
    unfold wpX3_advance_b50
    exact hK _ (Jf ha0 rfl (Jf ha0 rfl hJ))
set_option maxHeartbeats 1000000 in
theorem s_X3_markYes {F0 : Nat → Nat → Int32} {a0 : Nat} {F : Nat → Nat → Int32} {L : Nat → Nat → Int64} {r : Nat → Nat → Nat} {x1 : Int32} {x2 : Int32} {K : cS → Prop} (hJ : J F0 F r) (ha0 : kd a0 = 3) (hK : ∀ u : cS, J F0 u.1 u.2.2 → K u) : wpX3_markYes a0 F L r x1 x2 K := by
  unfold wpX3_markYes
  unfold wpX3_markYes_b0
  refine ⟨fun c0 => ?_, fun c0 => ?_⟩
  · unfold wpX3_markYes_b9
    exact hK _ hJ
  · refine ⟨fun c1 => ?_, fun c1 => ?_⟩
    · refine ⟨fun c2 => ?_, fun c2 => ?_⟩
      · refine ⟨fun c3 => ?_, fun c3 => ?_⟩
        · unfold wpX3_markYes_b62
          exact hK _ hJ
        · refine ⟨vI (c := 3) rfl (by first | assumption | omega | grind | (simp only [pt_r] at *; grind) | (simp [pt_r]; grind)) (by first | assumption | omega | grind | (simp only [pt_r] at *; grind) | (simp [pt_r]; grind)), ?_⟩
          refine ⟨vI (c := 3) rfl (by first | assumption | omega | grind | (simp only [pt_r] at *; grind) | (simp [pt_r]; grind)) (by first | assumption | omega | grind | (simp only [pt_r] at *; grind) | (simp [pt_r]; grind)), ?_⟩
          unfold wpX3_markYes_b62
          exact hK _ hJ
      · refine ⟨vI (c := 3) rfl (by first | assumption | omega | grind | (simp only [pt_r] at *; grind) | (simp [pt_r]; grind)) (by first | assumption | omega | grind | (simp only [pt_r] at *; grind) | (simp [pt_r]; grind)), ?_⟩
        refine ⟨vI (c := 3) rfl (by first | assumption | omega | grind | (simp only [pt_r] at *; grind) | (simp [pt_r]; grind)) (by first | assumption | omega | grind | (simp only [pt_r] at *; grind) | (simp [pt_r]; grind)), ?_⟩
        unfold wpX3_markYes_b62
        exact hK _ hJ
    · unfold wpX3_markYes_b9
      exact hK _ hJ
set_option maxHeartbeats 1000000 in
theorem s_X3_perform {F0 : Nat → Nat → Int32} {a0 : Nat} {a2 : Nat} {F : Nat → Nat → Int32} {L : Nat → Nat → Int64} {r : Nat → Nat → Nat} {x1 : Int32} {K : cS → Prop} (hJ : J F0 F r) (ha0 : kd a0 = 3) (ha2 : kd a2 = 1) (hK : ∀ u : cS, J F0 u.1 u.2.2 → K u) : wpX3_perform a0 a2 F L r x1 K := by
  unfold wpX3_perform
  unfold wpX3_perform_b0
  refine ⟨fun c0 => ?_, fun c0 => ?_, fun c0 => ?_, fun c0 => ?_, fun c0 => ?_, fun c0 => ?_, fun c0 => ?_, fun c0 => ?_, fun c0 => ?_, fun c0 => ?_, fun c0 => ?_, fun c0 => ?_⟩
  · unfold wpX3_perform_b178
    exact hK _ (Jf ha0 rfl hJ)
  · refine s_X3_markYes hJ ha0 (fun u125 hJ125  => ?_)
    unfold wpX3_perform_b178
    exact hK _ hJ125
  · refine s_X3_markYes hJ ha0 (fun u134 hJ134  => ?_)
    unfold wpX3_perform_b178
    exact hK _ hJ134
  · refine s_X3_turn hJ ha0 (fun u70 hJ70  => ?_)
    unfold wpX3_perform_b178
    exact hK _ hJ70
  · refine s_X3_turn hJ ha0 (fun u78 hJ78  => ?_)
    unfold wpX3_perform_b178
    exact hK _ hJ78
  · refine s_X3_turn hJ ha0 (fun u86 hJ86  => ?_)
    unfold wpX3_perform_b178
    exact hK _ hJ86
  · refine s_X3_wayOf hJ ha0 (fun r98 => ?_)
    try dsimp only
    unfold wpX3_perform_b178
    exact hK _ (Jf ha0 rfl hJ)
  · refine s_X3_markWay hJ ha0 (fun u108 hJ108  => ?_)
    unfold wpX3_perform_b178
    exact hK _ hJ108
  · refine s_X3_advance hJ ha0 ha2 (fun u116 hJ116  => ?_)
    unfold wpX3_perform_b178
    exact hK _ hJ116
  · unfold wpX3_perform_b178
    exact hK _ (Jf ha0 rfl hJ)
  · unfold wpX3_perform_b178
    exact hK _ (Jf ha0 rfl hJ)
  · refine s_X3_clearSquares hJ ha0 (fun L175 => ?_)
    try dsimp only
    unfold wpX3_perform_b178
    exact hK _ hJ
