set_option maxHeartbeats 1000000 in
theorem s_X8_isNeeded {F0 : Nat → Nat → Int32} {a1 : Nat} {F : Nat → Nat → Int32} {L : Nat → Nat → Int64} {r : Nat → Nat → Nat} {x2 : Int32} {x3 : Int32} {x4 : Int32} {K : Int32 → cS → Prop} (hJ : J F0 F r) (ha1 : kd a1 = 6) (hK : ∀ v : Int32, ∀ u : cS, J F0 u.1 u.2.2 → isB v → K v u) : wpX8_isNeeded a1 F L r x2 x3 x4 K := by
  unfold wpX8_isNeeded
  unfold wpX8_isNeeded_b0
  refine s_X6_usesYes hJ ha1 (fun r2 hb2 => ?_)
  try dsimp only
  refine ⟨fun c0 => ?_, fun c0 => ?_⟩
  · refine s_X8_layFirst hJ (fun u14 hJ14  => ?_)
    exact ⟨_, l_X8_isNeeded_b30 ha1 hK _ _ _ _ _ (Jf kp88 rfl hJ14) (by first | assumption | omega | grind | (simp only [pt_r] at *; grind) | (simp [pt_r]; grind)) (Nat.lt_succ_self _)⟩
  · exact hK _ _ hJ (by first | exact Or.inl rfl | exact Or.inr rfl | assumption)
set_option maxHeartbeats 1000000 in
theorem s_X10_needs {F0 : Nat → Nat → Int32} {F : Nat → Nat → Int32} {L : Nat → Nat → Int64} {r : Nat → Nat → Nat} {x1 : Int32} {x2 : Int32} {x3 : Int32} {K : Int32 → cS → Prop} (hJ : J F0 F r) (hK : ∀ v : Int32, ∀ u : cS, J F0 u.1 u.2.2 → K v u) : wpX10_needs F L r x1 x2 x3 K := by
  have t0_i := hJ.t0
  unfold wpX10_needs
  unfold wpX10_needs_b0
  refine s_X8_isSmall (fun r2 hb2 hp2 => ?_)
  refine ⟨fun c0 => ?_, fun c0 => ?_⟩
  · unfold wpX10_needs_b17
    exact hK _ _ hJ
  · refine ⟨fun c1 => ?_, fun c1 => ?_⟩
    · unfold wpX10_needs_b17
      exact hK _ _ hJ
    · refine ⟨fun c2 => ?_, fun c2 => ?_⟩
      · refine ⟨(hJ).c03, ?_⟩
        refine s_X8_isNeeded hJ (hJ).c03 (fun r30 u30 hJ30 hb30  => ?_)
        have t0_30 := hJ30.t0
        refine ⟨fun c3 => ?_, fun c3 => ?_⟩
        · unfold wpX10_needs_b41
          exact hK _ _ hJ30
        · unfold wpX10_needs_b41
          exact hK _ _ hJ30
      · unfold wpX10_needs_b17
        exact hK _ _ hJ
set_option maxHeartbeats 1000000 in
theorem l_X10_knows_b17 {F0 : Nat → Nat → Int32} {F : Nat → Nat → Int32} {L : Nat → Nat → Int64} {r : Nat → Nat → Nat} {K : Int32 → cS → Prop} (hJ : J F0 F r) (hK : ∀ v : Int32, K v (F, L, r)) (n : Nat) : ∀ (x2 : Int32) (x3 : Int32), 0 ≤ x3 → mu (x3) < n → wpX10_knows_b17 n F L r x2 x3 K := by
  induction n with
  | zero => intro x2 x3 hi0 hm; exact absurd hm (Nat.not_lt_zero _)
  | succ n ih =>
    intro x2 x3 hi0 hm
    have t0_i := hJ.t0
    unfold wpX10_knows_b17 wpX10_knows_b17_body
    refine ⟨fun c0 => ?_, fun c0 => ?_⟩
    · exact hK _
    · refine ⟨fun c1 => ?_, fun c1 => ?_⟩
      · refine s_X3_wayOf hJ kp74 (fun r46 => ?_)
        try dsimp only
        refine s_X1_isWalled hJ kp46 (fun r58 hb58 => ?_)
        try dsimp only
        refine ⟨fun c2 => ?_, fun c2 => ?_⟩
        · refine s_X1_ahead hJ kp46 (fun r73 => ?_)
          try dsimp only
          exact ih _ _ (by first | assumption | omega | grind | (simp only [pt_r] at *; grind) | (simp [pt_r]; grind)) (lt1 (mu_lt c0) hm)
        · exact hK _
      · exact hK _
set_option maxHeartbeats 1000000 in
theorem s_X10_knows {F0 : Nat → Nat → Int32} {F : Nat → Nat → Int32} {L : Nat → Nat → Int64} {r : Nat → Nat → Nat} {x1 : Int32} {K : Int32 → cS → Prop} (hJ : J F0 F r) (hK : ∀ v : Int32, K v (F, L, r)) : wpX10_knows F L r x1 K := by
  have t0_i := hJ.t0
  unfold wpX10_knows
  unfold wpX10_knows_b0
  refine s_X1_has hJ kp46 (fun r5 hb5 => ?_)
  try dsimp only
  refine ⟨fun c0 => ?_, fun c0 => ?_⟩
  · exact ⟨_, l_X10_knows_b17 hJ hK _ _ _ (by first | assumption | omega | grind | (simp only [pt_r] at *; grind) | (simp [pt_r]; grind)) (Nat.lt_succ_self _)⟩
  · exact hK _
set_option maxHeartbeats 1000000 in
theorem s_X3_inputs {F0 : Nat → Nat → Int32} {a0 : Nat} {a1 : Nat} {F : Nat → Nat → Int32} {L : Nat → Nat → Int64} {r : Nat → Nat → Nat} {K : Int32 → cS → Prop} (hJ : J F0 F r) (ha0 : kd a0 = 3) (ha1 : kd a1 = 1) (hK : ∀ v : Int32, K v (F, L, r)) : wpX3_inputs a0 a1 F L r K := by
  unfold wpX3_inputs
  unfold wpX3_inputs_b0
  refine s_X3_wayOf hJ ha0 (fun r5 => ?_)
  try dsimp only
  refine s_X1_isWalled hJ ha1 (fun r21 hb21 => ?_)
  try dsimp only
  refine ⟨fun c0 => ?_, fun c0 => ?_⟩
  · unfold wpX3_inputs_b32
    refine ⟨fun c1 => ?_, fun c1 => ?_⟩
    · unfold wpX3_inputs_b48
      exact hK _
    · unfold wpX3_inputs_b48
      exact hK _
  · unfold wpX3_inputs_b32
    refine ⟨fun c1 => ?_, fun c1 => ?_⟩
    · unfold wpX3_inputs_b48
      exact hK _
    · unfold wpX3_inputs_b48
      exact hK _
set_option maxHeartbeats 1000000 in
theorem l_X4_valueOf_b22 {F0 : Nat → Nat → Int32} {a0 : Nat} {F : Nat → Nat → Int32} {L : Nat → Nat → Int64} {r : Nat → Nat → Nat} {K : Int32 → cS → Prop} (hJ : J F0 F r) (ha0 : kd a0 = 4) (hK : ∀ v : Int32, K v (F, L, r)) (n : Nat) : ∀ (x1 : Int32) (x2 : Int32) (x3 : Int32) (x4 : Int32), 0 ≤ x4 → 0 ≤ x1 → x1 < 24 → mu (x4) < n → wpX4_valueOf_b22 a0 n F L r x1 x2 x3 x4 K := by
  induction n with
  | zero => intro x1 x2 x3 x4 hi0 hi1 hi2 hm; exact absurd hm (Nat.not_lt_zero _)
  | succ n ih =>
    intro x1 x2 x3 x4 hi0 hi1 hi2 hm
    have i4_i := is4 ha0
    have l0_i := hJ.r4 ha0
    have l2_i := hJ.g4 ha0
    have b_i := fun i => hJ.b4 (i := i) ha0
    have e_i := fun i => hJ.d4 (i := i) ha0
    unfold wpX4_valueOf_b22 wpX4_valueOf_b22_body
    refine ⟨vI (c := 24) rfl (by first | assumption | omega | grind | (simp only [pt_r] at *; grind) | (simp [pt_r]; grind)) (by first | assumption | omega | grind | (simp only [pt_r] at *; grind) | (simp [pt_r]; grind)), ?_⟩
    refine ⟨fun c0 => ?_, fun c0 => ?_⟩
    · exact hK _
    · refine ⟨vI (c := 64) rfl (by first | assumption | omega | grind | (simp only [pt_r] at *; grind) | (simp [pt_r]; grind)) (by first | assumption | omega | grind | (simp only [pt_r] at *; grind) | (simp [pt_r]; grind)), ?_⟩
      refine ⟨fun c1 => ?_, fun c1 => ?_⟩
      · refine ⟨fun c2 => ?_, fun c2 => ?_⟩
        · refine ⟨fun c3 => ?_, fun c3 => ?_⟩
          · unfold wpX4_valueOf_b107
            unfold wpX4_valueOf_b108
            exact ih _ _ _ _ (by first | assumption | omega | grind | (simp only [pt_r] at *; grind) | (simp [pt_r]; grind)) (by first | assumption | omega | grind | (simp only [pt_r] at *; grind) | (simp [pt_r]; grind)) (by first | assumption | omega | grind | (simp only [pt_r] at *; grind) | (simp [pt_r]; grind)) (lt1 (mu_lt c0) hm)
          · unfold wpX4_valueOf_b107
            unfold wpX4_valueOf_b108
            exact ih _ _ _ _ (by first | assumption | omega | grind | (simp only [pt_r] at *; grind) | (simp [pt_r]; grind)) (by first | assumption | omega | grind | (simp only [pt_r] at *; grind) | (simp [pt_r]; grind)) (by first | assumption | omega | grind | (simp only [pt_r] at *; grind) | (simp [pt_r]; grind)) (lt1 (mu_lt c0) hm)
        · unfold wpX4_valueOf_b108
          exact ih _ _ _ _ (by first | assumption | omega | grind | (simp only [pt_r] at *; grind) | (simp [pt_r]; grind)) (by first | assumption | omega | grind | (simp only [pt_r] at *; grind) | (simp [pt_r]; grind)) (by first | assumption | omega | grind | (simp only [pt_r] at *; grind) | (simp [pt_r]; grind)) (lt1 (mu_lt c0) hm)
      · intro y59 hy59
        unfold wpX4_valueOf_b108
        exact ih _ _ _ _ (by first | assumption | omega | grind | (simp only [pt_r] at *; grind) | (simp [pt_r]; grind)) (by first | assumption | omega | grind | (simp only [pt_r] at *; grind) | (simp [pt_r]; grind)) (by first | assumption | omega | grind | (simp only [pt_r] at *; grind) | (simp [pt_r]; grind)) (lt1 (mu_lt c0) hm)
set_option maxHeartbeats 1000000 in
theorem s_X4_valueOf {F0 : Nat → Nat → Int32} {a0 : Nat} {F : Nat → Nat → Int32} {L : Nat → Nat → Int64} {r : Nat → Nat → Nat} {x1 : Int32} {x2 : Int32} {K : Int32 → cS → Prop} (hJ : J F0 F r) (ha0 : kd a0 = 4) (hK : ∀ v : Int32, K v (F, L, r)) : wpX4_valueOf a0 F L r x1 x2 K := by
  have i4_i := is4 ha0
  have l0_i := hJ.r4 ha0
  have l2_i := hJ.g4 ha0
  have b_i := fun i => hJ.b4 (i := i) ha0
  have e_i := fun i => hJ.d4 (i := i) ha0
  unfold wpX4_valueOf
  unfold wpX4_valueOf_b0
  refine ⟨fun c0 => ?_, fun c0 => ?_⟩
  · unfold wpX4_valueOf_b10
    exact hK _
  · refine ⟨fun c1 => ?_, fun c1 => ?_⟩
    · refine ⟨vI (c := 24) rfl (by first | assumption | omega | grind | (simp only [pt_r] at *; grind) | (simp [pt_r]; grind)) (by first | assumption | omega | grind | (simp only [pt_r] at *; grind) | (simp [pt_r]; grind)), ?_⟩
      exact ⟨_, l_X4_valueOf_b22 hJ ha0 hK _ _ _ _ _ (by first | assumption | omega | grind | (simp only [pt_r] at *; grind) | (simp [pt_r]; grind)) (by first | assumption | omega | grind | (simp only [pt_r] at *; grind) | (simp [pt_r]; grind)) (by first | assumption | omega | grind | (simp only [pt_r] at *; grind) | (simp [pt_r]; grind)) (Nat.lt_succ_self _)⟩
    · unfold wpX4_valueOf_b10
      exact hK _
set_option maxHeartbeats 1000000 in
theorem l_X4_relaysBy_b4 {F0 : Nat → Nat → Int32} {a0 : Nat} {F : Nat → Nat → Int32} {L : Nat → Nat → Int64} {r : Nat → Nat → Nat} {K : Int32 → cS → Prop} (hJ : J F0 F r) (ha0 : kd a0 = 4) (hK : ∀ v : Int32, K v (F, L, r)) (n : Nat) : ∀ (x1 : Int32) (x2 : Int32) (x3 : Int32), 0 ≤ x3 → mu (x3) < n → wpX4_relaysBy_b4 a0 n F L r x1 x2 x3 K := by
  induction n with
  | zero => intro x1 x2 x3 hi0 hm; exact absurd hm (Nat.not_lt_zero _)
  | succ n ih =>
    intro x1 x2 x3 hi0 hm
    have i4_i := is4 ha0
    have l0_i := hJ.r4 ha0
    have l2_i := hJ.g4 ha0
    unfold wpX4_relaysBy_b4 wpX4_relaysBy_b4_body
    refine ⟨fun c0 => ?_, fun c0 => ?_⟩
    · exact hK _
    · refine s_X4_valueOf hJ ha0 (fun r16 => ?_)
      try dsimp only
      exact ih _ _ _ (by first | assumption | omega | grind | (simp only [pt_r] at *; grind) | (simp [pt_r]; grind)) (lt1 (mu_lt c0) hm)
set_option maxHeartbeats 1000000 in
theorem s_X4_relaysBy {F0 : Nat → Nat → Int32} {a0 : Nat} {F : Nat → Nat → Int32} {L : Nat → Nat → Int64} {r : Nat → Nat → Nat} {x1 : Int32} {K : Int32 → cS → Prop} (hJ : J F0 F r) (ha0 : kd a0 = 4) (hK : ∀ v : Int32, K v (F, L, r)) : wpX4_relaysBy a0 F L r x1 K := by
  have i4_i := is4 ha0
  have l0_i := hJ.r4 ha0
  have l2_i := hJ.g4 ha0
  unfold wpX4_relaysBy
  unfold wpX4_relaysBy_b0
  exact ⟨_, l_X4_relaysBy_b4 hJ ha0 hK _ _ _ _ (by first | assumption | omega | grind | (simp only [pt_r] at *; grind) | (simp [pt_r]; grind)) (Nat.lt_succ_self _)⟩
set_option maxHeartbeats 1000000 in
theorem l_X4_outputsBy_b4 {F0 : Nat → Nat → Int32} {a0 : Nat} {F : Nat → Nat → Int32} {L : Nat → Nat → Int64} {r : Nat → Nat → Nat} {K : Int32 → cS → Prop} (hJ : J F0 F r) (ha0 : kd a0 = 4) (hK : ∀ v : Int32, K v (F, L, r)) (n : Nat) : ∀ (x1 : Int32) (x2 : Int32) (x3 : Int32), 0 ≤ x3 → mu (x3) < n → wpX4_outputsBy_b4 a0 n F L r x1 x2 x3 K := by
  induction n with
  | zero => intro x1 x2 x3 hi0 hm; exact absurd hm (Nat.not_lt_zero _)
  | succ n ih =>
    intro x1 x2 x3 hi0 hm
    have i4_i := is4 ha0
    have l0_i := hJ.r4 ha0
    have l2_i := hJ.g4 ha0
    unfold wpX4_outputsBy_b4 wpX4_outputsBy_b4_body
    refine ⟨fun c0 => ?_, fun c0 => ?_⟩
    · exact hK _
    · refine s_X4_placeOfOutput (fun r12 => ?_)
      refine s_X4_valueOf hJ ha0 (fun r16 => ?_)
      try dsimp only
      exact ih _ _ _ (by first | assumption | omega | grind | (simp only [pt_r] at *; grind) | (simp [pt_r]; grind)) (lt1 (mu_le c0 (by first | decide | grind)) hm)
set_option maxHeartbeats 1000000 in
theorem s_X4_outputsBy {F0 : Nat → Nat → Int32} {a0 : Nat} {F : Nat → Nat → Int32} {L : Nat → Nat → Int64} {r : Nat → Nat → Nat} {x1 : Int32} {K : Int32 → cS → Prop} (hJ : J F0 F r) (ha0 : kd a0 = 4) (hK : ∀ v : Int32, K v (F, L, r)) : wpX4_outputsBy a0 F L r x1 K := by
  have i4_i := is4 ha0
  have l0_i := hJ.r4 ha0
  have l2_i := hJ.g4 ha0
  unfold wpX4_outputsBy
  unfold wpX4_outputsBy_b0
  exact ⟨_, l_X4_outputsBy_b4 hJ ha0 hK _ _ _ _ (by first | assumption | omega | grind | (simp only [pt_r] at *; grind) | (simp [pt_r]; grind)) (Nat.lt_succ_self _)⟩
set_option maxHeartbeats 1000000 in
theorem s_X3_doOutputs {F0 : Nat → Nat → Int32} {a0 : Nat} {a2 : Nat} {F : Nat → Nat → Int32} {L : Nat → Nat → Int64} {r : Nat → Nat → Nat} {x1 : Int32} {K : cS → Prop} (hJ : J F0 F r) (ha0 : kd a0 = 3) (ha2 : kd a2 = 1) (hK : ∀ u : cS, J F0 u.1 u.2.2 → K u) : wpX3_doOutputs a0 a2 F L r x1 K := by
  unfold wpX3_doOutputs
  unfold wpX3_doOutputs_b0
  refine ⟨fun c0 => ?_, fun c0 => ?_⟩
  · unfold wpX3_doOutputs_b12
    refine ⟨fun c1 => ?_, fun c1 => ?_⟩
    · unfold wpX3_doOutputs_b25
      refine ⟨fun c2 => ?_, fun c2 => ?_⟩
      · unfold wpX3_doOutputs_b38
        refine ⟨fun c3 => ?_, fun c3 => ?_⟩
        · unfold wpX3_doOutputs_b51
          exact hK _ hJ
        · refine s_X3_advance hJ ha0 ha2 (fun u48 hJ48  => ?_)
          unfold wpX3_doOutputs_b51
          exact hK _ hJ48
      · refine s_X3_turn hJ ha0 (fun u35 hJ35  => ?_)
        unfold wpX3_doOutputs_b38
        refine ⟨fun c3 => ?_, fun c3 => ?_⟩
        · unfold wpX3_doOutputs_b51
          exact hK _ hJ35
        · refine s_X3_advance hJ35 ha0 ha2 (fun u48 hJ48  => ?_)
          unfold wpX3_doOutputs_b51
          exact hK _ hJ48
    · refine s_X3_turn hJ ha0 (fun u22 hJ22  => ?_)
      unfold wpX3_doOutputs_b25
      refine ⟨fun c2 => ?_, fun c2 => ?_⟩
      · unfold wpX3_doOutputs_b38
        refine ⟨fun c3 => ?_, fun c3 => ?_⟩
        · unfold wpX3_doOutputs_b51
          exact hK _ hJ22
        · refine s_X3_advance hJ22 ha0 ha2 (fun u48 hJ48  => ?_)
          unfold wpX3_doOutputs_b51
          exact hK _ hJ48
      · refine s_X3_turn hJ22 ha0 (fun u35 hJ35  => ?_)
        unfold wpX3_doOutputs_b38
        refine ⟨fun c3 => ?_, fun c3 => ?_⟩
        · unfold wpX3_doOutputs_b51
          exact hK _ hJ35
        · refine s_X3_advance hJ35 ha0 ha2 (fun u48 hJ48  => ?_)
          unfold wpX3_doOutputs_b51
          exact hK _ hJ48
  · refine s_X3_markWay hJ ha0 (fun u9 hJ9  => ?_)
    unfold wpX3_doOutputs_b12
    refine ⟨fun c1 => ?_, fun c1 => ?_⟩
    · unfold wpX3_doOutputs_b25
      refine ⟨fun c2 => ?_, fun c2 => ?_⟩
      · unfold wpX3_doOutputs_b38
        refine ⟨fun c3 => ?_, fun c3 => ?_⟩
        · unfold wpX3_doOutputs_b51
          exact hK _ hJ9
        · refine s_X3_advance hJ9 ha0 ha2 (fun u48 hJ48  => ?_)
          unfold wpX3_doOutputs_b51
          exact hK _ hJ48
      · refine s_X3_turn hJ9 ha0 (fun u35 hJ35  => ?_)
        unfold wpX3_doOutputs_b38
        refine ⟨fun c3 => ?_, fun c3 => ?_⟩
        · unfold wpX3_doOutputs_b51
          exact hK _ hJ35
        · refine s_X3_advance hJ35 ha0 ha2 (fun u48 hJ48  => ?_)
          unfold wpX3_doOutputs_b51
          exact hK _ hJ48
    · refine s_X3_turn hJ9 ha0 (fun u22 hJ22  => ?_)
      unfold wpX3_doOutputs_b25
      refine ⟨fun c2 => ?_, fun c2 => ?_⟩
      · unfold wpX3_doOutputs_b38
        refine ⟨fun c3 => ?_, fun c3 => ?_⟩
        · unfold wpX3_doOutputs_b51
          exact hK _ hJ22
        · refine s_X3_advance hJ22 ha0 ha2 (fun u48 hJ48  => ?_)
          unfold wpX3_doOutputs_b51
          exact hK _ hJ48
      · refine s_X3_turn hJ22 ha0 (fun u35 hJ35  => ?_)
        unfold wpX3_doOutputs_b38
        refine ⟨fun c3 => ?_, fun c3 => ?_⟩
        · unfold wpX3_doOutputs_b51
          exact hK _ hJ35
        · refine s_X3_advance hJ35 ha0 ha2 (fun u48 hJ48  => ?_)
          unfold wpX3_doOutputs_b51
          exact hK _ hJ48
set_option maxHeartbeats 1000000 in
theorem s_X0_step {F0 : Nat → Nat → Int32} {a0 : Nat} {a1 : Nat} {a2 : Nat} {a3 : Nat} {F : Nat → Nat → Int32} {L : Nat → Nat → Int64} {r : Nat → Nat → Nat} {K : cS → Prop} (hJ : J F0 F r) (ha0 : kd a0 = 0) (ha1 : kd a1 = 4) (ha2 : kd a2 = 3) (ha3 : kd a3 = 1) (hK : ∀ u : cS, J F0 u.1 u.2.2 → K u) : wpX0_step a0 a1 a2 a3 F L r K := by
  unfold wpX0_step
  unfold wpX0_step_b0
  refine s_X3_inputs hJ ha2 ha3 (fun r3 => ?_)
  try dsimp only
  refine s_X4_relaysBy (Jf ha0 rfl (Jf ha0 rfl hJ)) ha1 (fun r28 => ?_)
  try dsimp only
  refine s_X0_settle (Jf ha0 rfl (Jf ha0 rfl hJ)) ha0 (fun u31 hJ31  => ?_)
  refine s_X4_outputsBy (Jf ha0 rfl (Jf ha0 rfl hJ31)) ha1 (fun r58 => ?_)
  try dsimp only
  refine s_X3_doOutputs (Jf ha0 rfl (Jf ha0 rfl hJ31)) ha2 ha3 (fun u62 hJ62  => ?_)
  exact hK _ hJ62
set_option maxHeartbeats 1000000 in
theorem l_X10_pull_b23 {F0 : Nat → Nat → Int32} {K : Int32 → cS → Prop} (hK : ∀ v : Int32, ∀ u : cS, J F0 u.1 u.2.2 → K v u) (n : Nat) : ∀ (F : Nat → Nat → Int32) (L : Nat → Nat → Int64) (r : Nat → Nat → Nat) (x1 : Int32) (x2 : Int32), J F0 F r → 0 ≤ x2 → mu (x2) < n → wpX10_pull_b23 n F L r x1 x2 K := by
  induction n with
  | zero => intro F L r x1 x2 hJ hi0 hm; exact absurd hm (Nat.not_lt_zero _)
  | succ n ih =>
    intro F L r x1 x2 hJ hi0 hm
    have t0_i := hJ.t0
    unfold wpX10_pull_b23 wpX10_pull_b23_body
    refine ⟨fun c0 => ?_, fun c0 => ?_⟩
    · exact hK _ _ hJ
    · refine ⟨(hJ).c04, ?_⟩
      refine s_X0_step hJ kp43 (hJ).c04 kp74 kp46 (fun u44 hJ44  => ?_)
      have t0_44 := hJ44.t0
      exact ih _ _ _ _ _ hJ44 (by first | assumption | omega | grind | (simp only [pt_r] at *; grind) | (simp [pt_r]; grind)) (lt1 (mu_lt c0) hm)
set_option maxHeartbeats 1000000 in
theorem s_X10_pull {F0 : Nat → Nat → Int32} {F : Nat → Nat → Int32} {L : Nat → Nat → Int64} {r : Nat → Nat → Nat} {x1 : Int32} {K : Int32 → cS → Prop} (hJ : J F0 F r) (hK : ∀ v : Int32, ∀ u : cS, J F0 u.1 u.2.2 → K v u) : wpX10_pull F L r x1 K := by
  have t0_i := hJ.t0
  unfold wpX10_pull
  unfold wpX10_pull_b0
  refine ⟨fun c0 => ?_, fun c0 => ?_⟩
  · unfold wpX10_pull_b11
    exact hK _ _ hJ
  · refine ⟨fun c1 => ?_, fun c1 => ?_⟩
    · exact ⟨_, l_X10_pull_b23 hK _ _ _ _ _ _ (Jf kp74 rfl hJ) (by first | assumption | omega | grind | (simp only [pt_r] at *; grind) | (simp [pt_r]; grind)) (Nat.lt_succ_self _)⟩
    · unfold wpX10_pull_b11
      exact hK _ _ hJ
set_option maxHeartbeats 1000000 in
theorem l_X10_pullRun_b15 {F0 : Nat → Nat → Int32} {K : Int32 → cS → Prop} (hK : ∀ v : Int32, ∀ u : cS, J F0 u.1 u.2.2 → K v u) (n : Nat) : ∀ (F : Nat → Nat → Int32) (L : Nat → Nat → Int64) (r : Nat → Nat → Nat) (x1 : Int32) (x2 : Int32), J F0 F r → 0 ≤ x2 → mu (x2) < n → wpX10_pullRun_b15 n F L r x1 x2 K := by
  induction n with
  | zero => intro F L r x1 x2 hJ hi0 hm; exact absurd hm (Nat.not_lt_zero _)
  | succ n ih =>
    intro F L r x1 x2 hJ hi0 hm
    have t0_i := hJ.t0
    unfold wpX10_pullRun_b15 wpX10_pullRun_b15_body
    refine ⟨fun c0 => ?_, fun c0 => ?_⟩
    · refine ⟨fun c1 => ?_, fun c1 => ?_⟩
      · unfold wpX10_pullRun_b87
        exact hK _ _ hJ
      · unfold wpX10_pullRun_b87
        exact hK _ _ hJ
    · refine ⟨fun c1 => ?_, fun c1 => ?_⟩
      · refine ⟨(hJ).c04, ?_⟩
        refine s_X0_step hJ kp43 (hJ).c04 kp74 kp46 (fun u55 hJ55  => ?_)
        have t0_55 := hJ55.t0
        exact ih _ _ _ _ _ hJ55 (by first | assumption | omega | grind | (simp only [pt_r] at *; grind) | (simp [pt_r]; grind)) (lt1 (mu_lt c0) hm)
      · exact hK _ _ hJ
set_option maxHeartbeats 1000000 in
theorem s_X10_pullRun {F0 : Nat → Nat → Int32} {F : Nat → Nat → Int32} {L : Nat → Nat → Int64} {r : Nat → Nat → Nat} {x1 : Int32} {K : Int32 → cS → Prop} (hJ : J F0 F r) (hK : ∀ v : Int32, ∀ u : cS, J F0 u.1 u.2.2 → K v u) : wpX10_pullRun F L r x1 K := by
  have t0_i := hJ.t0
  unfold wpX10_pullRun
  unfold wpX10_pullRun_b0
  refine ⟨fun c0 => ?_, fun c0 => ?_⟩
  · unfold wpX10_pullRun_b11
    exact hK _ _ hJ
  · refine ⟨fun c1 => ?_, fun c1 => ?_⟩
    · exact ⟨_, l_X10_pullRun_b15 hK _ _ _ _ _ _ hJ (by first | assumption | omega | grind | (simp only [pt_r] at *; grind) | (simp [pt_r]; grind)) (Nat.lt_succ_self _)⟩
    · unfold wpX10_pullRun_b11
      exact hK _ _ hJ
set_option maxHeartbeats 1000000 in
theorem s_X10_relays {F0 : Nat → Nat → Int32} {F : Nat → Nat → Int32} {L : Nat → Nat → Int64} {r : Nat → Nat → Nat} {K : Int32 → cS → Prop} (hJ : J F0 F r) (hK : ∀ v : Int32, K v (F, L, r)) : wpX10_relays F L r K := by
  have t0_i := hJ.t0
  unfold wpX10_relays
  unfold wpX10_relays_b0
  exact hK _
set_option maxHeartbeats 1000000 in
theorem s_X0_wouldStay {F0 : Nat → Nat → Int32} {a0 : Nat} {a1 : Nat} {F : Nat → Nat → Int32} {L : Nat → Nat → Int64} {r : Nat → Nat → Nat} {x2 : Int32} {x3 : Int32} {K : Int32 → cS → Prop} (hJ : J F0 F r) (ha0 : kd a0 = 0) (ha1 : kd a1 = 4) (hK : ∀ v : Int32, isB v → K v (F, L, r)) : wpX0_wouldStay a0 a1 F L r x2 x3 K := by
  unfold wpX0_wouldStay
  unfold wpX0_wouldStay_b0
  intro y13 hy13
  refine s_X4_valueOf hJ ha1 (fun r19 => ?_)
  try dsimp only
  refine ⟨fun c0 => ?_, fun c0 => ?_⟩
  · unfold wpX0_wouldStay_b38
    refine ⟨(by first | exact Or.inl rfl | exact Or.inr rfl | assumption), ?_⟩
    exact hK _ (by first | exact Or.inl rfl | exact Or.inr rfl | assumption)
  · unfold wpX0_wouldStay_b38
    refine ⟨(by first | exact Or.inl rfl | exact Or.inr rfl | assumption), ?_⟩
    exact hK _ (by first | exact Or.inl rfl | exact Or.inr rfl | assumption)
set_option maxHeartbeats 1000000 in
theorem s_X0_raceOf {F0 : Nat → Nat → Int32} {a0 : Nat} {a1 : Nat} {F : Nat → Nat → Int32} {L : Nat → Nat → Int64} {r : Nat → Nat → Nat} {x2 : Int32} {x3 : Int32} {K : Int32 → cS → Prop} (hJ : J F0 F r) (ha0 : kd a0 = 0) (ha1 : kd a1 = 4) (hK : ∀ v : Int32, K v (F, L, r)) : wpX0_raceOf a0 a1 F L r x2 x3 K := by
  unfold wpX0_raceOf
  unfold wpX0_raceOf_b0
  refine s_X0_wouldStay hJ ha0 ha1 (fun r4 hb4 => ?_)
  try dsimp only
  refine ⟨fun c0 => ?_, fun c0 => ?_⟩
  · refine s_X0_wouldStay hJ ha0 ha1 (fun r21 hb21 => ?_)
    try dsimp only
    refine ⟨fun c1 => ?_, fun c1 => ?_⟩
    · unfold wpX0_raceOf_b37
      exact hK _
    · unfold wpX0_raceOf_b37
      exact hK _
  · exact hK _
set_option maxHeartbeats 1000000 in
theorem l_X0_firstRace_b34 {F0 : Nat → Nat → Int32} {a0 : Nat} {a1 : Nat} {F : Nat → Nat → Int32} {L : Nat → Nat → Int64} {r : Nat → Nat → Nat} {B21 : (Nat → Nat → Int32) → (Nat → Nat → Int64) → (Nat → Nat → Nat) → Int32 → Int32 → Prop} {m21 : Nat} {K : Int32 → cS → Prop} (hJ : J F0 F r) (ha0 : kd a0 = 0) (ha1 : kd a1 = 4) (hK : ∀ v : Int32, K v (F, L, r)) (hB21 : ∀ (x2 : Int32) (x3 : Int32), 0 ≤ x3 → mu x3 < m21 → B21 F L r x2 x3) (n : Nat) : ∀ (x2 : Int32) (x3 : Int32) (x4 : Int32), 0 ≤ x4 → 0 ≤ x3 → x3 < 20 → mu (x3 + 1) < m21 → mu (x4) < n → wpX0_firstRace_b34 B21 a0 a1 n F L r x2 x3 x4 K := by
  induction n with
  | zero => intro x2 x3 x4 hi0 hi1 hi2 hi3 hm; exact absurd hm (Nat.not_lt_zero _)
  | succ n ih =>
    intro x2 x3 x4 hi0 hi1 hi2 hi3 hm
    have l0_i := hJ.r4 ha1
    have hm21 := hi3
    unfold wpX0_firstRace_b34 wpX0_firstRace_b34_body
    refine ⟨fun c0 => ?_, fun c0 => ?_⟩
    · exact hB21 _ _ (by first | assumption | (exact lt1 (mu_lt (by assumption)) hm) | grind) hm21
    · refine ⟨fun c1 => ?_, fun c1 => ?_⟩
      · unfold wpX0_firstRace_b81
        exact ih _ _ _ (by first | assumption | (exact lt1 (mu_lt (by assumption)) hm) | grind) (by first | assumption | (exact lt1 (mu_lt (by assumption)) hm) | grind) (by first | assumption | (exact lt1 (mu_lt (by assumption)) hm) | grind) (by first | assumption | (exact lt1 (mu_lt (by assumption)) hm) | grind) (lt1 (mu_lt c0) hm)
      · refine s_X0_raceOf hJ ha0 ha1 (fun r67 => ?_)
        try dsimp only
        refine ⟨fun c2 => ?_, fun c2 => ?_⟩
        · unfold wpX0_firstRace_b81
          exact ih _ _ _ (by first | assumption | (exact lt1 (mu_lt (by assumption)) hm) | grind) (by first | assumption | (exact lt1 (mu_lt (by assumption)) hm) | grind) (by first | assumption | (exact lt1 (mu_lt (by assumption)) hm) | grind) (by first | assumption | (exact lt1 (mu_lt (by assumption)) hm) | grind) (lt1 (mu_lt c0) hm)
        · exact hK _
set_option maxHeartbeats 1000000 in
theorem l_X0_firstRace_b21 {F0 : Nat → Nat → Int32} {a0 : Nat} {a1 : Nat} {F : Nat → Nat → Int32} {L : Nat → Nat → Int64} {r : Nat → Nat → Nat} {K : Int32 → cS → Prop} (hJ : J F0 F r) (ha0 : kd a0 = 0) (ha1 : kd a1 = 4) (hK : ∀ v : Int32, K v (F, L, r)) (n : Nat) : ∀ (x2 : Int32) (x3 : Int32), 0 ≤ x3 → mu (x3) < n → wpX0_firstRace_b21 a0 a1 n F L r x2 x3 K := by
  induction n with
  | zero => intro x2 x3 hi0 hm; exact absurd hm (Nat.not_lt_zero _)
  | succ n ih =>
    intro x2 x3 hi0 hm
    have l0_i := hJ.r4 ha1
    unfold wpX0_firstRace_b21 wpX0_firstRace_b21_body
    refine ⟨fun c0 => ?_, fun c0 => ?_⟩
    · exact hK _
    · exact ⟨_, l_X0_firstRace_b34 hJ ha0 ha1 hK ih _ _ _ _ (by first | assumption | (exact lt1 (mu_lt (by assumption)) hm) | grind) (by first | assumption | (exact lt1 (mu_lt (by assumption)) hm) | grind) (by first | assumption | (exact lt1 (mu_lt (by assumption)) hm) | grind) (by first | assumption | (exact lt1 (mu_lt (by assumption)) hm) | grind) (Nat.lt_succ_self _)⟩
set_option maxHeartbeats 1000000 in
theorem s_X0_firstRace {F0 : Nat → Nat → Int32} {a0 : Nat} {a1 : Nat} {F : Nat → Nat → Int32} {L : Nat → Nat → Int64} {r : Nat → Nat → Nat} {K : Int32 → cS → Prop} (hJ : J F0 F r) (ha0 : kd a0 = 0) (ha1 : kd a1 = 4) (hK : ∀ v : Int32, K v (F, L, r)) : wpX0_firstRace a0 a1 F L r K := by
  have l0_i := hJ.r4 ha1
  unfold wpX0_firstRace
  unfold wpX0_firstRace_b0
  refine ⟨fun c0 => ?_, fun c0 => ?_⟩
  · exact ⟨_, l_X0_firstRace_b21 hJ ha0 ha1 hK _ _ _ (by first | assumption | (exact lt1 (mu_lt (by assumption)) hm) | grind) (Nat.lt_succ_self _)⟩
  · exact hK _
set_option maxHeartbeats 1000000 in
theorem s_X10_race {F0 : Nat → Nat → Int32} {F : Nat → Nat → Int32} {L : Nat → Nat → Int64} {r : Nat → Nat → Nat} {K : Int32 → cS → Prop} (hJ : J F0 F r) (hK : ∀ v : Int32, K v (F, L, r)) : wpX10_race F L r K := by
  have t0_i := hJ.t0
  unfold wpX10_race
  unfold wpX10_race_b0
  refine ⟨(hJ).c04, ?_⟩
  refine s_X0_firstRace hJ kp43 (hJ).c04 (fun r8 => ?_)
  try dsimp only
  exact hK _
set_option maxHeartbeats 1000000 in
theorem s_X0_free {F0 : Nat → Nat → Int32} {a0 : Nat} {F : Nat → Nat → Int32} {L : Nat → Nat → Int64} {r : Nat → Nat → Nat} {x1 : Int32} {K : cS → Prop} (hJ : J F0 F r) (ha0 : kd a0 = 0) (hK : ∀ u : cS, J F0 u.1 u.2.2 → K u) : wpX0_free a0 F L r x1 K := by
  unfold wpX0_free
  unfold wpX0_free_b0
  exact hK _ (Jf ha0 rfl (Jf ha0 rfl hJ))
set_option maxHeartbeats 1000000 in
theorem s_X0_jam {F0 : Nat → Nat → Int32} {a0 : Nat} {F : Nat → Nat → Int32} {L : Nat → Nat → Int64} {r : Nat → Nat → Nat} {x1 : Int32} {x2 : Int32} {K : cS → Prop} (hJ : J F0 F r) (ha0 : kd a0 = 0) (hK : ∀ u : cS, J F0 u.1 u.2.2 → K u) : wpX0_jam a0 F L r x1 x2 K := by
  unfold wpX0_jam
  unfold wpX0_jam_b0
  refine ⟨fun c0 => ?_, fun c0 => ?_⟩
  · unfold wpX0_jam_b36
    refine s_X0_settle (Jf ha0 rfl (Jf ha0 rfl hJ)) ha0 (fun u44 hJ44  => ?_)
    exact hK _ hJ44
  · unfold wpX0_jam_b36
    refine s_X0_settle (Jf ha0 rfl (Jf ha0 rfl hJ)) ha0 (fun u44 hJ44  => ?_)
    exact hK _ hJ44
