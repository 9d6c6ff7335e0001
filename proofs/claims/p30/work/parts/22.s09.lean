set_option maxHeartbeats 1000000 in
theorem s_X2_findBestWall {F0 : Nat → Nat → Int32} {F : Nat → Nat → Int32} {L : Nat → Nat → Int64} {r : Nat → Nat → Nat} {x1 : Int32} {K : cS → Prop} (hJ : J F0 F r) (hK : ∀ u : cS, J F0 u.1 u.2.2 → K u) : wpX2_findBestWall F L r x1 K := by
  unfold wpX2_findBestWall
  unfold wpX2_findBestWall_b0
  refine s_X2_suspectCount (Jf kp102 rfl hJ) (fun r7 => ?_)
  try dsimp only
  exact ⟨_, l_X2_findBestWall_b17 hK _ _ _ _ _ _ (Jf kp102 rfl (Jf kp102 rfl hJ)) (by first | assumption | omega | grind | (simp only [pt_r] at *; grind) | (simp [pt_r]; grind)) (Nat.lt_succ_self _)⟩
set_option maxHeartbeats 1000000 in
theorem s_X10_trial {F0 : Nat → Nat → Int32} {F : Nat → Nat → Int32} {L : Nat → Nat → Int64} {r : Nat → Nat → Nat} {x1 : Int32} {x2 : Int32} {K : Int32 → cS → Prop} (hJ : J F0 F r) (hK : ∀ v : Int32, ∀ u : cS, J F0 u.1 u.2.2 → K v u) : wpX10_trial F L r x1 x2 K := by
  have t0_i := hJ.t0
  unfold wpX10_trial
  unfold wpX10_trial_b0
  refine s_X2_isLength (fun r1 hb1 hp1 => ?_)
  refine ⟨fun c0 => ?_, fun c0 => ?_⟩
  · unfold wpX10_trial_b16
    exact hK _ _ hJ
  · refine ⟨fun c1 => ?_, fun c1 => ?_⟩
    · unfold wpX10_trial_b16
      exact hK _ _ hJ
    · refine ⟨fun c2 => ?_, fun c2 => ?_⟩
      · refine ⟨(hJ).c04, ?_⟩
        refine s_X2_begin hJ (hJ).c04 kp74 kp46 kp43 (fun u38 hJ38  => ?_)
        have t0_38 := hJ38.t0
        refine s_X2_findSuspects hJ38 (fun u46 hJ46  => ?_)
        have t0_46 := hJ46.t0
        refine s_X2_suspectCount hJ46 (fun r53 => ?_)
        try dsimp only
        refine ⟨fun c3 => ?_, fun c3 => ?_⟩
        · refine s_X2_findBestWall hJ46 (fun u67 hJ67  => ?_)
          have t0_67 := hJ67.t0
          refine ⟨fun c4 => ?_, fun c4 => ?_⟩
          · unfold wpX10_trial_b91
            exact hK _ _ hJ67
          · unfold wpX10_trial_b91
            exact hK _ _ hJ67
        · exact hK _ _ hJ46
      · unfold wpX10_trial_b16
        exact hK _ _ hJ
set_option maxHeartbeats 1000000 in
theorem s_X1_standingWalls {F0 : Nat → Nat → Int32} {a0 : Nat} {F : Nat → Nat → Int32} {L : Nat → Nat → Int64} {r : Nat → Nat → Nat} {K : Int32 → cS → Prop} (hJ : J F0 F r) (ha0 : kd a0 = 1) (hK : ∀ v : Int32, K v (F, L, r)) : wpX1_standingWalls a0 F L r K := by
  unfold wpX1_standingWalls
  unfold wpX1_standingWalls_b0
  refine ⟨vI (c := 4) rfl (by first | assumption | omega | grind | (simp only [pt_r] at *; grind) | (simp [pt_r]; grind)) (by first | assumption | omega | grind | (simp only [pt_r] at *; grind) | (simp [pt_r]; grind)), ?_⟩
  refine ⟨vI (c := 4) rfl (by first | assumption | omega | grind | (simp only [pt_r] at *; grind) | (simp [pt_r]; grind)) (by first | assumption | omega | grind | (simp only [pt_r] at *; grind) | (simp [pt_r]; grind)), ?_⟩
  refine s_J13_bitCount_95d88 (fun r17 => ?_)
  refine ⟨vI (c := 4) rfl (by first | assumption | omega | grind | (simp only [pt_r] at *; grind) | (simp [pt_r]; grind)) (by first | assumption | omega | grind | (simp only [pt_r] at *; grind) | (simp [pt_r]; grind)), ?_⟩
  refine ⟨vI (c := 4) rfl (by first | assumption | omega | grind | (simp only [pt_r] at *; grind) | (simp [pt_r]; grind)) (by first | assumption | omega | grind | (simp only [pt_r] at *; grind) | (simp [pt_r]; grind)), ?_⟩
  refine s_J13_bitCount_95d88 (fun r37 => ?_)
  exact hK _
set_option maxHeartbeats 1000000 in
theorem s_X10_count {F0 : Nat → Nat → Int32} {F : Nat → Nat → Int32} {L : Nat → Nat → Int64} {r : Nat → Nat → Nat} {x1 : Int32} {K : Int32 → cS → Prop} (hJ : J F0 F r) (hK : ∀ v : Int32, K v (F, L, r)) : wpX10_count F L r x1 K := by
  have t0_i := hJ.t0
  unfold wpX10_count
  unfold wpX10_count_b0
  refine ⟨fun c0 => ?_, fun c0 => ?_, fun c0 => ?_, fun c0 => ?_, fun c0 => ?_, fun c0 => ?_, fun c0 => ?_, fun c0 => ?_⟩
  · exact hK _
  · refine ⟨(hJ).c03, ?_⟩
    exact hK _
  · refine ⟨(hJ).c04, ?_⟩
    exact hK _
  · refine ⟨(hJ).c04, ?_⟩
    exact hK _
  · refine s_X1_standingWalls hJ kp46 (fun r80 => ?_)
    try dsimp only
    exact hK _
  · exact hK _
  · refine s_J6_bitCount_0f7a4 (fun r96 => ?_)
    exact hK _
  · exact hK _

