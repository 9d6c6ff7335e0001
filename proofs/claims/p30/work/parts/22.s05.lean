set_option maxHeartbeats 1000000 in
theorem l_X3_obey_b44 {F0 : Nat → Nat → Int32} {a0 : Nat} {a1 : Nat} {a2 : Nat} {K : cS → Prop} (ha0 : kd a0 = 3) (ha1 : kd a1 = 6) (ha2 : kd a2 = 1) (hK : ∀ u : cS, J F0 u.1 u.2.2 → K u) (n : Nat) : ∀ (F : Nat → Nat → Int32) (L : Nat → Nat → Int64) (r : Nat → Nat → Nat) (x3 : Int32) (x4 : Int32), J F0 F r → 0 ≤ x4 → x3 ≤ 360 → mu (x4) < n → wpX3_obey_b44 a0 a1 a2 n F L r x3 x4 K := by
  induction n with
  | zero => intro F L r x3 x4 hJ hi0 hi1 hm; exact absurd hm (Nat.not_lt_zero _)
  | succ n ih =>
    intro F L r x3 x4 hJ hi0 hi1 hm
    unfold wpX3_obey_b44 wpX3_obey_b44_body
    refine ⟨fun c0 => ?_, fun c0 => ?_⟩
    · exact hK _ hJ
    · refine ⟨vI (c := 360) rfl (by first | assumption | omega | grind | (simp only [pt_r] at *; grind) | (simp [pt_r]; grind)) (by first | assumption | omega | grind | (simp only [pt_r] at *; grind) | (simp [pt_r]; grind)), ?_⟩
      refine s_X3_perform hJ ha0 ha2 (fun u59 hJ59  => ?_)
      exact ih _ _ _ _ _ hJ59 (by first | (rw [hy34]; exact ((Jf ha0 rfl hJ).ae ha1).2) | (simp [pt_r] at *; grind)) (by first | (rw [hy34]; exact ((Jf ha0 rfl hJ).ae ha1).2) | (simp [pt_r] at *; grind)) (lt1 (mu_lt c0) hm)
set_option maxHeartbeats 1000000 in
theorem s_X3_obey {F0 : Nat → Nat → Int32} {a0 : Nat} {a1 : Nat} {a2 : Nat} {F : Nat → Nat → Int32} {L : Nat → Nat → Int64} {r : Nat → Nat → Nat} {K : cS → Prop} (hJ : J F0 F r) (ha0 : kd a0 = 3) (ha1 : kd a1 = 6) (ha2 : kd a2 = 1) (hK : ∀ u : cS, J F0 u.1 u.2.2 → K u) : wpX3_obey a0 a1 a2 F L r K := by
  unfold wpX3_obey
  unfold wpX3_obey_b0
  refine s_X3_signs hJ ha0 ha2 (fun r4 => ?_)
  try dsimp only
  refine s_X6_lineFor hJ ha1 (fun r11 hp11 => ?_)
  try dsimp only
  refine ⟨fun c0 => ?_, fun c0 => ?_⟩
  · refine ⟨vI (c := 30) rfl (by first | assumption | omega | grind | (simp only [pt_r] at *; grind) | (simp [pt_r]; grind)) (by first | assumption | omega | grind | (simp only [pt_r] at *; grind) | (simp [pt_r]; grind)), ?_⟩
    intro y34 hy34
    exact ⟨_, l_X3_obey_b44 ha0 ha1 ha2 hK _ _ _ _ _ _ (Jf ha0 rfl hJ) (by first | (rw [hy34]; exact ((Jf ha0 rfl hJ).ae ha1).2) | (simp [pt_r] at *; grind)) (by first | (rw [hy34]; exact ((Jf ha0 rfl hJ).ae ha1).2) | (simp [pt_r] at *; grind)) (Nat.lt_succ_self _)⟩
  · exact hK _ (Jf ha0 rfl hJ)
set_option maxHeartbeats 1000000 in
theorem l_X10_tick_b17 {F0 : Nat → Nat → Int32} {K : Int32 → cS → Prop} (hK : ∀ v : Int32, ∀ u : cS, J F0 u.1 u.2.2 → K v u) (n : Nat) : ∀ (F : Nat → Nat → Int32) (L : Nat → Nat → Int64) (r : Nat → Nat → Nat) (x1 : Int32) (x2 : Int32) (x3 : Int32), J F0 F r → 0 ≤ x3 → mu (x3) < n → wpX10_tick_b17 n F L r x1 x2 x3 K := by
  induction n with
  | zero => intro F L r x1 x2 x3 hJ hi0 hm; exact absurd hm (Nat.not_lt_zero _)
  | succ n ih =>
    intro F L r x1 x2 x3 hJ hi0 hm
    have t0_i := hJ.t0
    unfold wpX10_tick_b17 wpX10_tick_b17_body
    refine ⟨fun c0 => ?_, fun c0 => ?_⟩
    · exact hK _ _ hJ
    · refine ⟨(hJ).c03, ?_⟩
      refine s_X3_obey hJ kp74 (hJ).c03 kp46 (fun u34 hJ34  => ?_)
      have t0_34 := hJ34.t0
      refine ⟨fun c1 => ?_, fun c1 => ?_⟩
      · unfold wpX10_tick_b51
        exact ih _ _ _ _ _ _ hJ34 (by first | assumption | omega | grind | (simp only [pt_r] at *; grind) | (simp [pt_r]; grind)) (lt1 (mu_lt c0) hm)
      · unfold wpX10_tick_b51
        exact ih _ _ _ _ _ _ hJ34 (by first | assumption | omega | grind | (simp only [pt_r] at *; grind) | (simp [pt_r]; grind)) (lt1 (mu_lt c0) hm)
set_option maxHeartbeats 1000000 in
theorem s_X10_tick {F0 : Nat → Nat → Int32} {F : Nat → Nat → Int32} {L : Nat → Nat → Int64} {r : Nat → Nat → Nat} {x1 : Int32} {K : Int32 → cS → Prop} (hJ : J F0 F r) (hK : ∀ v : Int32, ∀ u : cS, J F0 u.1 u.2.2 → K v u) : wpX10_tick F L r x1 K := by
  have t0_i := hJ.t0
  unfold wpX10_tick
  unfold wpX10_tick_b0
  refine ⟨fun c0 => ?_, fun c0 => ?_⟩
  · unfold wpX10_tick_b11
    exact hK _ _ hJ
  · refine ⟨fun c1 => ?_, fun c1 => ?_⟩
    · exact ⟨_, l_X10_tick_b17 hK _ _ _ _ _ _ _ hJ (by first | assumption | omega | grind | (simp only [pt_r] at *; grind) | (simp [pt_r]; grind)) (Nat.lt_succ_self _)⟩
    · unfold wpX10_tick_b11
      exact hK _ _ hJ
set_option maxHeartbeats 1000000 in
theorem l_X3_arrive_b3 {F0 : Nat → Nat → Int32} {a0 : Nat} {a1 : Nat} {a2 : Nat} {K : Int32 → cS → Prop} (ha0 : kd a0 = 3) (ha1 : kd a1 = 6) (ha2 : kd a2 = 1) (hK : ∀ v : Int32, ∀ u : cS, J F0 u.1 u.2.2 → K v u) (n : Nat) : ∀ (F : Nat → Nat → Int32) (L : Nat → Nat → Int64) (r : Nat → Nat → Nat) (x3 : Int32) (x4 : Int32), J F0 F r → 0 ≤ x4 → mu (x4) < n → wpX3_arrive_b3 a0 a1 a2 n F L r x3 x4 K := by
  induction n with
  | zero => intro F L r x3 x4 hJ hi0 hm; exact absurd hm (Nat.not_lt_zero _)
  | succ n ih =>
    intro F L r x3 x4 hJ hi0 hm
    unfold wpX3_arrive_b3 wpX3_arrive_b3_body
    refine ⟨fun c0 => ?_, fun c0 => ?_⟩
    · refine ⟨fun c1 => ?_, fun c1 => ?_⟩
      · unfold wpX3_arrive_b63
        exact hK _ _ hJ
      · unfold wpX3_arrive_b63
        exact hK _ _ hJ
    · refine ⟨fun c1 => ?_, fun c1 => ?_⟩
      · refine s_X3_obey hJ ha0 ha1 ha2 (fun u26 hJ26  => ?_)
        refine ⟨fun c2 => ?_, fun c2 => ?_⟩
        · exact ih _ _ _ _ _ hJ26 (by first | assumption | omega | grind | (simp only [pt_r] at *; grind) | (simp [pt_r]; grind)) (lt1 (mu_lt c0) hm)
        · exact hK _ _ hJ26
      · exact hK _ _ hJ
set_option maxHeartbeats 1000000 in
theorem s_X3_arrive {F0 : Nat → Nat → Int32} {a0 : Nat} {a1 : Nat} {a2 : Nat} {F : Nat → Nat → Int32} {L : Nat → Nat → Int64} {r : Nat → Nat → Nat} {x3 : Int32} {K : Int32 → cS → Prop} (hJ : J F0 F r) (ha0 : kd a0 = 3) (ha1 : kd a1 = 6) (ha2 : kd a2 = 1) (hK : ∀ v : Int32, ∀ u : cS, J F0 u.1 u.2.2 → K v u) : wpX3_arrive a0 a1 a2 F L r x3 K := by
  unfold wpX3_arrive
  unfold wpX3_arrive_b0
  exact ⟨_, l_X3_arrive_b3 ha0 ha1 ha2 hK _ _ _ _ _ _ hJ (by first | assumption | omega | grind | (simp only [pt_r] at *; grind) | (simp [pt_r]; grind)) (Nat.lt_succ_self _)⟩
set_option maxHeartbeats 1000000 in
theorem s_X10_run {F0 : Nat → Nat → Int32} {F : Nat → Nat → Int32} {L : Nat → Nat → Int64} {r : Nat → Nat → Nat} {x1 : Int32} {K : Int32 → cS → Prop} (hJ : J F0 F r) (hK : ∀ v : Int32, ∀ u : cS, J F0 u.1 u.2.2 → K v u) : wpX10_run F L r x1 K := by
  have t0_i := hJ.t0
  unfold wpX10_run
  unfold wpX10_run_b0
  refine ⟨fun c0 => ?_, fun c0 => ?_⟩
  · unfold wpX10_run_b11
    exact hK _ _ hJ
  · refine ⟨fun c1 => ?_, fun c1 => ?_⟩
    · refine ⟨(hJ).c03, ?_⟩
      refine s_X3_arrive hJ kp74 (hJ).c03 kp46 (fun r26 u26 hJ26  => ?_)
      have t0_26 := hJ26.t0
      exact hK _ _ hJ26
    · unfold wpX10_run_b11
      exact hK _ _ hJ
set_option maxHeartbeats 1000000 in
theorem s_X10_mouse {F0 : Nat → Nat → Int32} {F : Nat → Nat → Int32} {L : Nat → Nat → Int64} {r : Nat → Nat → Nat} {x1 : Int32} {K : Int32 → cS → Prop} (hJ : J F0 F r) (hK : ∀ v : Int32, K v (F, L, r)) : wpX10_mouse F L r x1 K := by
  have t0_i := hJ.t0
  unfold wpX10_mouse
  unfold wpX10_mouse_b0
  refine ⟨fun c0 => ?_, fun c0 => ?_, fun c0 => ?_, fun c0 => ?_, fun c0 => ?_, fun c0 => ?_⟩
  · exact hK _
  · exact hK _
  · exact hK _
  · exact hK _
  · exact hK _
  · exact hK _
set_option maxHeartbeats 1000000 in
theorem l_X1_wallsOf_b4 {F0 : Nat → Nat → Int32} {a0 : Nat} {F : Nat → Nat → Int32} {L : Nat → Nat → Int64} {r : Nat → Nat → Nat} {K : Int32 → cS → Prop} (hJ : J F0 F r) (ha0 : kd a0 = 1) (hK : ∀ v : Int32, K v (F, L, r)) (n : Nat) : ∀ (x1 : Int32) (x2 : Int32) (x3 : Int32), 0 ≤ x3 → mu (x3) < n → wpX1_wallsOf_b4 a0 n F L r x1 x2 x3 K := by
  induction n with
  | zero => intro x1 x2 x3 hi0 hm; exact absurd hm (Nat.not_lt_zero _)
  | succ n ih =>
    intro x1 x2 x3 hi0 hm
    unfold wpX1_wallsOf_b4 wpX1_wallsOf_b4_body
    refine ⟨fun c0 => ?_, fun c0 => ?_⟩
    · exact hK _
    · refine s_X1_isWalled hJ ha0 (fun r12 hb12 => ?_)
      try dsimp only
      refine ⟨fun c1 => ?_, fun c1 => ?_⟩
      · unfold wpX1_wallsOf_b24
        exact ih _ _ _ (by first | assumption | omega | grind | (simp only [pt_r] at *; grind) | (simp [pt_r]; grind)) (lt1 (mu_lt c0) hm)
      · unfold wpX1_wallsOf_b24
        exact ih _ _ _ (by first | assumption | omega | grind | (simp only [pt_r] at *; grind) | (simp [pt_r]; grind)) (lt1 (mu_lt c0) hm)
set_option maxHeartbeats 1000000 in
theorem s_X1_wallsOf {F0 : Nat → Nat → Int32} {a0 : Nat} {F : Nat → Nat → Int32} {L : Nat → Nat → Int64} {r : Nat → Nat → Nat} {x1 : Int32} {K : Int32 → cS → Prop} (hJ : J F0 F r) (ha0 : kd a0 = 1) (hK : ∀ v : Int32, K v (F, L, r)) : wpX1_wallsOf a0 F L r x1 K := by
  unfold wpX1_wallsOf
  unfold wpX1_wallsOf_b0
  exact ⟨_, l_X1_wallsOf_b4 hJ ha0 hK _ _ _ _ (by first | assumption | omega | grind | (simp only [pt_r] at *; grind) | (simp [pt_r]; grind)) (Nat.lt_succ_self _)⟩
set_option maxHeartbeats 1000000 in
theorem s_X1_spread {F0 : Nat → Nat → Int32} {a0 : Nat} {F : Nat → Nat → Int32} {L : Nat → Nat → Int64} {r : Nat → Nat → Nat} {x1 : Int64} {K : Int64 → cS → Prop} (hJ : J F0 F r) (ha0 : kd a0 = 1) (hK : ∀ v : Int64, K v (F, L, r)) : wpX1_spread a0 F L r x1 K := by
  unfold wpX1_spread
  unfold wpX1_spread_b0
  refine ⟨vI (c := 4) rfl (by first | assumption | omega | grind | (simp only [pt_r] at *; grind) | (simp [pt_r]; grind)) (by first | assumption | omega | grind | (simp only [pt_r] at *; grind) | (simp [pt_r]; grind)), ?_⟩
  refine ⟨vI (c := 4) rfl (by first | assumption | omega | grind | (simp only [pt_r] at *; grind) | (simp [pt_r]; grind)) (by first | assumption | omega | grind | (simp only [pt_r] at *; grind) | (simp [pt_r]; grind)), ?_⟩
  refine ⟨vI (c := 4) rfl (by first | assumption | omega | grind | (simp only [pt_r] at *; grind) | (simp [pt_r]; grind)) (by first | assumption | omega | grind | (simp only [pt_r] at *; grind) | (simp [pt_r]; grind)), ?_⟩
  refine ⟨vI (c := 4) rfl (by first | assumption | omega | grind | (simp only [pt_r] at *; grind) | (simp [pt_r]; grind)) (by first | assumption | omega | grind | (simp only [pt_r] at *; grind) | (simp [pt_r]; grind)), ?_⟩
  exact hK _
set_option maxHeartbeats 1000000 in
theorem l_X1_far_b7 {F0 : Nat → Nat → Int32} {a0 : Nat} {F : Nat → Nat → Int32} {L : Nat → Nat → Int64} {r : Nat → Nat → Nat} {K : Int32 → cS → Prop} (hJ : J F0 F r) (ha0 : kd a0 = 1) (hK : ∀ v : Int32, K v (F, L, r)) (n : Nat) : ∀ (x2 : Int64) (x4 : Int32), 0 ≤ x4 → mu (x4) < n → wpX1_far_b7 a0 n F L r x2 x4 K := by
  induction n with
  | zero => intro x2 x4 hi0 hm; exact absurd hm (Nat.not_lt_zero _)
  | succ n ih =>
    intro x2 x4 hi0 hm
    unfold wpX1_far_b7 wpX1_far_b7_body
    refine ⟨fun c0 => ?_, fun c0 => ?_⟩
    · exact hK _
    · refine ⟨fun c1 => ?_, fun c1 => ?_⟩
      · refine s_X1_spread hJ ha0 (fun r34 => ?_)
        try dsimp only
        exact ih _ _ (by first | assumption | omega | grind | (simp only [pt_r] at *; grind) | (simp [pt_r]; grind)) (lt1 (mu_lt c0) hm)
      · exact hK _
set_option maxHeartbeats 1000000 in
theorem s_X1_far {F0 : Nat → Nat → Int32} {a0 : Nat} {F : Nat → Nat → Int32} {L : Nat → Nat → Int64} {r : Nat → Nat → Nat} {x1 : Int32} {K : Int32 → cS → Prop} (hJ : J F0 F r) (ha0 : kd a0 = 1) (hK : ∀ v : Int32, K v (F, L, r)) : wpX1_far a0 F L r x1 K := by
  unfold wpX1_far
  unfold wpX1_far_b0
  exact ⟨_, l_X1_far_b7 hJ ha0 hK _ _ _ (by first | assumption | omega | grind | (simp only [pt_r] at *; grind) | (simp [pt_r]; grind)) (Nat.lt_succ_self _)⟩
set_option maxHeartbeats 1000000 in
theorem l_X1_reach_b9 {F0 : Nat → Nat → Int32} {a0 : Nat} {F : Nat → Nat → Int32} {L : Nat → Nat → Int64} {r : Nat → Nat → Nat} {K : Int64 → cS → Prop} (hJ : J F0 F r) (ha0 : kd a0 = 1) (hK : ∀ v : Int64, K v (F, L, r)) (n : Nat) : ∀ (x1 : Int64) (x3 : Int32), 0 ≤ x3 → mu (x3) < n → wpX1_reach_b9 a0 n F L r x1 x3 K := by
  induction n with
  | zero => intro x1 x3 hi0 hm; exact absurd hm (Nat.not_lt_zero _)
  | succ n ih =>
    intro x1 x3 hi0 hm
    unfold wpX1_reach_b9 wpX1_reach_b9_body
    refine ⟨fun c0 => ?_, fun c0 => ?_⟩
    · exact hK _
    · refine s_X1_spread hJ ha0 (fun r19 => ?_)
      try dsimp only
      exact ih _ _ (by first | assumption | omega | grind | (simp only [pt_r] at *; grind) | (simp [pt_r]; grind)) (lt1 (mu_lt c0) hm)
set_option maxHeartbeats 1000000 in
theorem s_X1_reach {F0 : Nat → Nat → Int32} {a0 : Nat} {F : Nat → Nat → Int32} {L : Nat → Nat → Int64} {r : Nat → Nat → Nat} {K : Int64 → cS → Prop} (hJ : J F0 F r) (ha0 : kd a0 = 1) (hK : ∀ v : Int64, K v (F, L, r)) : wpX1_reach a0 F L r K := by
  unfold wpX1_reach
  unfold wpX1_reach_b0
  exact ⟨_, l_X1_reach_b9 hJ ha0 hK _ _ _ (by first | assumption | omega | grind | (simp only [pt_r] at *; grind) | (simp [pt_r]; grind)) (Nat.lt_succ_self _)⟩
set_option maxHeartbeats 1000000 in
theorem s_X10_scoutRun {F0 : Nat → Nat → Int32} {F : Nat → Nat → Int32} {L : Nat → Nat → Int64} {r : Nat → Nat → Nat} {x1 : Int32} {x2 : Int32} {K : Int32 → cS → Prop} (hJ : J F0 F r) (hK : ∀ v : Int32, ∀ u : cS, J F0 u.1 u.2.2 → K v u) : wpX10_scoutRun F L r x1 x2 K := by
  have t0_i := hJ.t0
  unfold wpX10_scoutRun
  unfold wpX10_scoutRun_b0
  refine ⟨fun c0 => ?_, fun c0 => ?_⟩
  · refine s_X3_setDown hJ kp84 (fun u20 hJ20  => ?_)
    have t0_20 := hJ20.t0
    unfold wpX10_scoutRun_b23
    refine ⟨(hJ20).c03, ?_⟩
    refine s_X3_arrive (Jf kp84 rfl hJ20) kp84 (hJ20).c03 kp46 (fun r46 u46 hJ46  => ?_)
    have t0_46 := hJ46.t0
    exact hK _ _ hJ46
  · refine s_X3_setDownWiped hJ kp84 (fun u9 hJ9  => ?_)
    have t0_9 := hJ9.t0
    unfold wpX10_scoutRun_b23
    refine ⟨(hJ9).c03, ?_⟩
    refine s_X3_arrive (Jf kp84 rfl hJ9) kp84 (hJ9).c03 kp46 (fun r46 u46 hJ46  => ?_)
    have t0_46 := hJ46.t0
    exact hK _ _ hJ46
set_option maxHeartbeats 1000000 in
theorem l_X10_comes_b28 {F0 : Nat → Nat → Int32} {K : Int32 → cS → Prop} (hK : ∀ v : Int32, ∀ u : cS, J F0 u.1 u.2.2 → K v u) (n : Nat) : ∀ (F : Nat → Nat → Int32) (L : Nat → Nat → Int64) (r : Nat → Nat → Nat) (x1 : Int32) (x2 : Int64) (x4 : Int32) (x5 : Int32) (x6 : Int32), J F0 F r → 0 ≤ x6 → mu (x6) < n → wpX10_comes_b28 n F L r x1 x2 x4 x5 x6 K := by
  induction n with
  | zero => intro F L r x1 x2 x4 x5 x6 hJ hi0 hm; exact absurd hm (Nat.not_lt_zero _)
  | succ n ih =>
    intro F L r x1 x2 x4 x5 x6 hJ hi0 hm
    have t0_i := hJ.t0
    unfold wpX10_comes_b28 wpX10_comes_b28_body
    refine ⟨fun c0 => ?_, fun c0 => ?_⟩
    · refine ⟨fun c1 => ?_, fun c1 => ?_⟩
      · unfold wpX10_comes_b93
        exact hK _ _ hJ
      · unfold wpX10_comes_b93
        exact hK _ _ hJ
    · refine ⟨fun c1 => ?_, fun c1 => ?_⟩
      · unfold wpX10_comes_b76
        exact ih _ _ _ _ _ _ _ _ hJ (by first | assumption | omega | grind | (simp only [pt_r] at *; grind) | (simp [pt_r]; grind)) (lt1 (mu_lt c0) hm)
      · refine s_X10_scoutRun hJ (fun r55 u55 hJ55  => ?_)
        have t0_55 := hJ55.t0
        refine ⟨fun c2 => ?_, fun c2 => ?_⟩
        · unfold wpX10_comes_b76
          exact ih _ _ _ _ _ _ _ _ hJ55 (by first | assumption | omega | grind | (simp only [pt_r] at *; grind) | (simp [pt_r]; grind)) (lt1 (mu_lt c0) hm)
        · refine ⟨fun c3 => ?_, fun c3 => ?_⟩
          · unfold wpX10_comes_b76
            exact ih _ _ _ _ _ _ _ _ hJ55 (by first | assumption | omega | grind | (simp only [pt_r] at *; grind) | (simp [pt_r]; grind)) (lt1 (mu_lt c0) hm)
          · unfold wpX10_comes_b76
            exact ih _ _ _ _ _ _ _ _ hJ55 (by first | assumption | omega | grind | (simp only [pt_r] at *; grind) | (simp [pt_r]; grind)) (lt1 (mu_lt c0) hm)
set_option maxHeartbeats 1000000 in
theorem s_X10_comes {F0 : Nat → Nat → Int32} {F : Nat → Nat → Int32} {L : Nat → Nat → Int64} {r : Nat → Nat → Nat} {x1 : Int32} {K : Int32 → cS → Prop} (hJ : J F0 F r) (hK : ∀ v : Int32, ∀ u : cS, J F0 u.1 u.2.2 → K v u) : wpX10_comes F L r x1 K := by
  have t0_i := hJ.t0
  unfold wpX10_comes
  unfold wpX10_comes_b0
  refine ⟨fun c0 => ?_, fun c0 => ?_⟩
  · unfold wpX10_comes_b9
    exact hK _ _ hJ
  · refine ⟨fun c1 => ?_, fun c1 => ?_⟩
    · refine s_X1_reach hJ kp46 (fun r15 => ?_)
      try dsimp only
      exact ⟨_, l_X10_comes_b28 hK _ _ _ _ _ _ _ _ _ hJ (by first | assumption | omega | grind | (simp only [pt_r] at *; grind) | (simp [pt_r]; grind)) (Nat.lt_succ_self _)⟩
    · unfold wpX10_comes_b9
      exact hK _ _ hJ
set_option maxHeartbeats 1000000 in
theorem s_X10_second {F0 : Nat → Nat → Int32} {F : Nat → Nat → Int32} {L : Nat → Nat → Int64} {r : Nat → Nat → Nat} {x1 : Int32} {x2 : Int32} {K : Int32 → cS → Prop} (hJ : J F0 F r) (hK : ∀ v : Int32, ∀ u : cS, J F0 u.1 u.2.2 → K v u) : wpX10_second F L r x1 x2 K := by
  have t0_i := hJ.t0
  unfold wpX10_second
  unfold wpX10_second_b0
  refine s_X1_has hJ kp46 (fun r5 hb5 => ?_)
  try dsimp only
  refine ⟨fun c0 => ?_, fun c0 => ?_⟩
  · unfold wpX10_second_b20
    exact hK _ _ hJ
  · refine ⟨fun c1 => ?_, fun c1 => ?_⟩
    · unfold wpX10_second_b20
      exact hK _ _ hJ
    · refine ⟨fun c2 => ?_, fun c2 => ?_⟩
      · refine s_X10_scoutRun hJ (fun r25 u25 hJ25  => ?_)
        have t0_25 := hJ25.t0
        refine ⟨fun c3 => ?_, fun c3 => ?_⟩
        · unfold wpX10_second_b39
          unfold wpX10_second_b44
          refine ⟨fun c4 => ?_, fun c4 => ?_⟩
          · unfold wpX10_second_b64
            refine ⟨fun c5 => ?_, fun c5 => ?_⟩
            · refine ⟨fun c6 => ?_, fun c6 => ?_⟩
              · unfold wpX10_second_b89
                exact hK _ _ hJ25
              · unfold wpX10_second_b89
                exact hK _ _ hJ25
            · exact hK _ _ hJ25
          · refine ⟨fun c5 => ?_, fun c5 => ?_⟩
            · unfold wpX10_second_b64
              refine ⟨fun c6 => ?_, fun c6 => ?_⟩
              · refine ⟨fun c7 => ?_, fun c7 => ?_⟩
                · unfold wpX10_second_b89
                  exact hK _ _ hJ25
                · unfold wpX10_second_b89
                  exact hK _ _ hJ25
              · exact hK _ _ hJ25
            · refine s_X10_scoutRun hJ25 (fun r60 u60 hJ60  => ?_)
              have t0_60 := hJ60.t0
              unfold wpX10_second_b64
              refine ⟨fun c6 => ?_, fun c6 => ?_⟩
              · refine ⟨fun c7 => ?_, fun c7 => ?_⟩
                · unfold wpX10_second_b89
                  exact hK _ _ hJ60
                · unfold wpX10_second_b89
                  exact hK _ _ hJ60
              · exact hK _ _ hJ60
        · refine ⟨fun c4 => ?_, fun c4 => ?_⟩
          · unfold wpX10_second_b44
            refine ⟨fun c5 => ?_, fun c5 => ?_⟩
            · unfold wpX10_second_b64
              refine ⟨fun c6 => ?_, fun c6 => ?_⟩
              · refine ⟨fun c7 => ?_, fun c7 => ?_⟩
                · unfold wpX10_second_b89
                  exact hK _ _ hJ25
                · unfold wpX10_second_b89
                  exact hK _ _ hJ25
              · exact hK _ _ hJ25
            · refine ⟨fun c6 => ?_, fun c6 => ?_⟩
              · unfold wpX10_second_b64
                refine ⟨fun c7 => ?_, fun c7 => ?_⟩
                · refine ⟨fun c8 => ?_, fun c8 => ?_⟩
                  · unfold wpX10_second_b89
                    exact hK _ _ hJ25
                  · unfold wpX10_second_b89
                    exact hK _ _ hJ25
                · exact hK _ _ hJ25
              · refine s_X10_scoutRun hJ25 (fun r60 u60 hJ60  => ?_)
                have t0_60 := hJ60.t0
                unfold wpX10_second_b64
                refine ⟨fun c7 => ?_, fun c7 => ?_⟩
                · refine ⟨fun c8 => ?_, fun c8 => ?_⟩
                  · unfold wpX10_second_b89
                    exact hK _ _ hJ60
                  · unfold wpX10_second_b89
                    exact hK _ _ hJ60
                · exact hK _ _ hJ60
          · unfold wpX10_second_b39
            unfold wpX10_second_b44
            refine ⟨fun c5 => ?_, fun c5 => ?_⟩
            · unfold wpX10_second_b64
              refine ⟨fun c6 => ?_, fun c6 => ?_⟩
              · refine ⟨fun c7 => ?_, fun c7 => ?_⟩
                · unfold wpX10_second_b89
                  exact hK _ _ hJ25
                · unfold wpX10_second_b89
                  exact hK _ _ hJ25
              · exact hK _ _ hJ25
            · refine ⟨fun c6 => ?_, fun c6 => ?_⟩
              · unfold wpX10_second_b64
                refine ⟨fun c7 => ?_, fun c7 => ?_⟩
                · refine ⟨fun c8 => ?_, fun c8 => ?_⟩
                  · unfold wpX10_second_b89
                    exact hK _ _ hJ25
                  · unfold wpX10_second_b89
                    exact hK _ _ hJ25
                · exact hK _ _ hJ25
              · refine s_X10_scoutRun hJ25 (fun r60 u60 hJ60  => ?_)
                have t0_60 := hJ60.t0
                unfold wpX10_second_b64
                refine ⟨fun c7 => ?_, fun c7 => ?_⟩
                · refine ⟨fun c8 => ?_, fun c8 => ?_⟩
                  · unfold wpX10_second_b89
                    exact hK _ _ hJ60
                  · unfold wpX10_second_b89
                    exact hK _ _ hJ60
                · exact hK _ _ hJ60
      · unfold wpX10_second_b20
        exact hK _ _ hJ
set_option maxHeartbeats 1000000 in
theorem s_X8_isSmall {x0 : Int32} {x1 : Int32} {K : Int32 → Unit → Prop} (hK : ∀ v : Int32, isB v → (v = 0 ∨ (2 ≤ x0 ∧ x0 ≤ 3 ∧ 2 ≤ x1 ∧ x1 ≤ 3)) → K v ()) : wpX8_isSmall x0 x1 K := by
  unfold wpX8_isSmall
  unfold wpX8_isSmall_b0
  refine ⟨fun c0 => ?_, fun c0 => ?_⟩
  · unfold wpX8_isSmall_b24
    unfold wpX8_isSmall_b25
    refine ⟨(by first | exact Or.inl rfl | exact Or.inr rfl | assumption), ?_⟩
    exact hK _ (by first | exact Or.inl rfl | exact Or.inr rfl | assumption) (by first | assumption | omega | grind | (simp only [pt_r] at *; grind) | (simp [pt_r]; grind))
  · refine ⟨fun c1 => ?_, fun c1 => ?_⟩
    · unfold wpX8_isSmall_b24
      unfold wpX8_isSmall_b25
      refine ⟨(by first | exact Or.inl rfl | exact Or.inr rfl | assumption), ?_⟩
      exact hK _ (by first | exact Or.inl rfl | exact Or.inr rfl | assumption) (by first | assumption | omega | grind | (simp only [pt_r] at *; grind) | (simp [pt_r]; grind))
    · refine ⟨fun c2 => ?_, fun c2 => ?_⟩
      · unfold wpX8_isSmall_b24
        unfold wpX8_isSmall_b25
        refine ⟨(by first | exact Or.inl rfl | exact Or.inr rfl | assumption), ?_⟩
        exact hK _ (by first | exact Or.inl rfl | exact Or.inr rfl | assumption) (by first | assumption | omega | grind | (simp only [pt_r] at *; grind) | (simp [pt_r]; grind))
      · refine ⟨fun c3 => ?_, fun c3 => ?_⟩
        · unfold wpX8_isSmall_b24
          unfold wpX8_isSmall_b25
          refine ⟨(by first | exact Or.inl rfl | exact Or.inr rfl | assumption), ?_⟩
          exact hK _ (by first | exact Or.inl rfl | exact Or.inr rfl | assumption) (by first | assumption | omega | grind | (simp only [pt_r] at *; grind) | (simp [pt_r]; grind))
        · unfold wpX8_isSmall_b25
          refine ⟨(by first | exact Or.inl rfl | exact Or.inr rfl | assumption), ?_⟩
          exact hK _ (by first | exact Or.inl rfl | exact Or.inr rfl | assumption) (by first | assumption | omega | grind | (simp only [pt_r] at *; grind) | (simp [pt_r]; grind))
set_option maxHeartbeats 1000000 in
theorem s_X8_sizeOf {x0 : Int32} {x1 : Int32} {K : Int32 → Unit → Prop} (hK : ∀ v : Int32, (0 ≤ v ∧ v < 4) → K v ()) : wpX8_sizeOf x0 x1 K := by
  unfold wpX8_sizeOf
  unfold wpX8_sizeOf_b0
  refine s_X8_isSmall (fun r2 hb2 hp2 => ?_)
  refine ⟨fun c0 => ?_, fun c0 => ?_⟩
  · unfold wpX8_sizeOf_b21
    exact hK _ (by first | assumption | omega | grind | (simp only [pt_r] at *; grind) | (simp [pt_r]; grind))
  · unfold wpX8_sizeOf_b21
    exact hK _ (by first | assumption | omega | grind | (simp only [pt_r] at *; grind) | (simp [pt_r]; grind))
set_option maxHeartbeats 1000000 in
theorem s_X8_layFirst {F0 : Nat → Nat → Int32} {F : Nat → Nat → Int32} {L : Nat → Nat → Int64} {r : Nat → Nat → Nat} {x1 : Int32} {x2 : Int32} {K : cS → Prop} (hJ : J F0 F r) (hK : ∀ u : cS, J F0 u.1 u.2.2 → K u) : wpX8_layFirst F L r x1 x2 K := by
  unfold wpX8_layFirst
  unfold wpX8_layFirst_b0
  refine s_X1_lay hJ kp66 rfl (fun u6 hJ6  => ?_)
  refine s_X1_reach (Jf kp96 rfl (Jf kp96 rfl hJ6)) kp66 (fun r24 => ?_)
  try dsimp only
  exact hK _ (Jf kp96 rfl (Jf kp96 rfl hJ6))
set_option maxHeartbeats 1000000 in
theorem s_X1_wallNumbers {F0 : Nat → Nat → Int32} {a0 : Nat} {F : Nat → Nat → Int32} {L : Nat → Nat → Int64} {r : Nat → Nat → Nat} {K : Int32 → cS → Prop} (hJ : J F0 F r) (ha0 : kd a0 = 1) (hK : ∀ v : Int32, K v (F, L, r)) : wpX1_wallNumbers a0 F L r K := by
  unfold wpX1_wallNumbers
  unfold wpX1_wallNumbers_b0
  exact hK _
set_option maxHeartbeats 1000000 in
theorem s_X1_squareOfWall {F0 : Nat → Nat → Int32} {a0 : Nat} {F : Nat → Nat → Int32} {L : Nat → Nat → Int64} {r : Nat → Nat → Nat} {x1 : Int32} {K : Int32 → cS → Prop} (hJ : J F0 F r) (ha0 : kd a0 = 1) (hK : ∀ v : Int32, K v (F, L, r)) : wpX1_squareOfWall a0 F L r x1 K := by
  unfold wpX1_squareOfWall
  unfold wpX1_squareOfWall_b0
  refine ⟨fun c0 => ?_, fun c0 => ?_⟩
  · unfold wpX1_squareOfWall_b24
    exact hK _
  · refine ⟨fun c1 => ?_, fun c1 => ?_⟩
    · refine ⟨(by first | assumption | omega | grind | (simp only [pt_r] at *; grind) | (simp [pt_r]; grind)), ?_⟩
      refine ⟨(by first | assumption | omega | grind | (simp only [pt_r] at *; grind) | (simp [pt_r]; grind)), ?_⟩
      exact hK _
    · unfold wpX1_squareOfWall_b24
      exact hK _
set_option maxHeartbeats 1000000 in
theorem s_X1_sideOfWall {F0 : Nat → Nat → Int32} {a0 : Nat} {F : Nat → Nat → Int32} {L : Nat → Nat → Int64} {r : Nat → Nat → Nat} {x1 : Int32} {K : Int32 → cS → Prop} (hJ : J F0 F r) (ha0 : kd a0 = 1) (hK : ∀ v : Int32, K v (F, L, r)) : wpX1_sideOfWall a0 F L r x1 K := by
  unfold wpX1_sideOfWall
  unfold wpX1_sideOfWall_b0
  refine ⟨fun c0 => ?_, fun c0 => ?_⟩
  · unfold wpX1_sideOfWall_b20
    exact hK _
  · unfold wpX1_sideOfWall_b20
    exact hK _
set_option maxHeartbeats 1000000 in
theorem l_X1_raiseWalls_b6 {F0 : Nat → Nat → Int32} {a0 : Nat} {F : Nat → Nat → Int32} {r : Nat → Nat → Nat} {K : cS → Prop} (hJ : J F0 F r) (ha0 : kd a0 = 1) (hK : ∀ L' : Nat → Nat → Int64, K (F, L', r)) (n : Nat) : ∀ (L : Nat → Nat → Int64) (x1 : Int32) (x2 : Int32), 0 ≤ x2 → mu (x2) < n → wpX1_raiseWalls_b6 a0 n F L r x1 x2 K := by
  induction n with
  | zero => intro L x1 x2 hi0 hm; exact absurd hm (Nat.not_lt_zero _)
  | succ n ih =>
    intro L x1 x2 hi0 hm
    unfold wpX1_raiseWalls_b6 wpX1_raiseWalls_b6_body
    refine s_X1_wallNumbers hJ ha0 (fun r8 => ?_)
    try dsimp only
    refine ⟨fun c0 => ?_, fun c0 => ?_⟩
    · exact hK _
    · refine ⟨fun c1 => ?_, fun c1 => ?_⟩
      · unfold wpX1_raiseWalls_b37
        exact ih _ _ _ (by first | assumption | omega | grind | (simp only [pt_r] at *; grind) | (simp [pt_r]; grind)) (lt1 (mu_lt c0) hm)
      · refine s_X1_squareOfWall hJ ha0 (fun r25 => ?_)
        try dsimp only
        refine s_X1_sideOfWall hJ ha0 (fun r30 => ?_)
        try dsimp only
        refine s_X1_putWall hJ ha0 (fun L34 => ?_)
        try dsimp only
        unfold wpX1_raiseWalls_b37
        exact ih _ _ _ (by first | assumption | omega | grind | (simp only [pt_r] at *; grind) | (simp [pt_r]; grind)) (lt1 (mu_lt c0) hm)
