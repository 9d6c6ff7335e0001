set_option maxHeartbeats 1000000 in
theorem s_X10_stick {F0 : Nat → Nat → Int32} {F : Nat → Nat → Int32} {L : Nat → Nat → Int64} {r : Nat → Nat → Nat} {x1 : Int32} {x2 : Int32} {K : Int32 → cS → Prop} (hJ : J F0 F r) (hK : ∀ v : Int32, ∀ u : cS, J F0 u.1 u.2.2 → isB v → K v u) : wpX10_stick F L r x1 x2 K := by
  have t0_i := hJ.t0
  unfold wpX10_stick
  unfold wpX10_stick_b0
  refine ⟨fun c0 => ?_, fun c0 => ?_⟩
  · unfold wpX10_stick_b24
    exact hK _ _ hJ (by first | exact Or.inl rfl | exact Or.inr rfl | assumption)
  · refine ⟨(hJ).c04, ?_⟩
    refine ⟨fun c1 => ?_, fun c1 => ?_⟩
    · unfold wpX10_stick_b24
      exact hK _ _ hJ (by first | exact Or.inl rfl | exact Or.inr rfl | assumption)
    · refine ⟨fun c2 => ?_, fun c2 => ?_⟩
      · unfold wpX10_stick_b24
        exact hK _ _ hJ (by first | exact Or.inl rfl | exact Or.inr rfl | assumption)
      · refine ⟨fun c3 => ?_, fun c3 => ?_⟩
        · refine ⟨fun c4 => ?_, fun c4 => ?_⟩
          · refine ⟨fun c5 => ?_, fun c5 => ?_⟩
            · unfold wpX10_stick_b57
              refine s_X0_jam hJ kp43 (fun u57 hJ57  => ?_)
              have t0_57 := hJ57.t0
              unfold wpX10_stick_b60
              exact hK _ _ hJ57 (by first | exact Or.inl rfl | exact Or.inr rfl | assumption)
            · unfold wpX10_stick_b57
              refine s_X0_jam hJ kp43 (fun u57 hJ57  => ?_)
              have t0_57 := hJ57.t0
              unfold wpX10_stick_b60
              exact hK _ _ hJ57 (by first | exact Or.inl rfl | exact Or.inr rfl | assumption)
          · refine s_X0_free hJ kp43 (fun u36 hJ36  => ?_)
            have t0_36 := hJ36.t0
            unfold wpX10_stick_b60
            exact hK _ _ hJ36 (by first | exact Or.inl rfl | exact Or.inr rfl | assumption)
        · unfold wpX10_stick_b24
          exact hK _ _ hJ (by first | exact Or.inl rfl | exact Or.inr rfl | assumption)
set_option maxHeartbeats 1000000 in
theorem s_X10_stuck {F0 : Nat → Nat → Int32} {F : Nat → Nat → Int32} {L : Nat → Nat → Int64} {r : Nat → Nat → Nat} {K : Int32 → cS → Prop} (hJ : J F0 F r) (hK : ∀ v : Int32, K v (F, L, r)) : wpX10_stuck F L r K := by
  have t0_i := hJ.t0
  unfold wpX10_stuck
  unfold wpX10_stuck_b0
  exact hK _
set_option maxHeartbeats 1000000 in
theorem s_X2_isLength {x0 : Int32} {K : Int32 → Unit → Prop} (hK : ∀ v : Int32, isB v → (v = 0 ∨ (1 ≤ x0 ∧ x0 ≤ 500)) → K v ()) : wpX2_isLength x0 K := by
  unfold wpX2_isLength
  unfold wpX2_isLength_b0
  refine ⟨fun c0 => ?_, fun c0 => ?_⟩
  · unfold wpX2_isLength_b16
    unfold wpX2_isLength_b17
    refine ⟨(by first | exact Or.inl rfl | exact Or.inr rfl | assumption), ?_⟩
    exact hK _ (by first | exact Or.inl rfl | exact Or.inr rfl | assumption) (by first | assumption | omega | grind | (simp only [pt_r] at *; grind) | (simp [pt_r]; grind))
  · refine ⟨fun c1 => ?_, fun c1 => ?_⟩
    · unfold wpX2_isLength_b16
      unfold wpX2_isLength_b17
      refine ⟨(by first | exact Or.inl rfl | exact Or.inr rfl | assumption), ?_⟩
      exact hK _ (by first | exact Or.inl rfl | exact Or.inr rfl | assumption) (by first | assumption | omega | grind | (simp only [pt_r] at *; grind) | (simp [pt_r]; grind))
    · unfold wpX2_isLength_b17
      refine ⟨(by first | exact Or.inl rfl | exact Or.inr rfl | assumption), ?_⟩
      exact hK _ (by first | exact Or.inl rfl | exact Or.inr rfl | assumption) (by first | assumption | omega | grind | (simp only [pt_r] at *; grind) | (simp [pt_r]; grind))
set_option maxHeartbeats 1000000 in
theorem l_X3_copyFrom_b50 {F0 : Nat → Nat → Int32} {a0 : Nat} {a1 : Nat} {K : cS → Prop} (ha0 : kd a0 = 3) (ha1 : kd a1 = 3) (hK : ∀ u : cS, J F0 u.1 u.2.2 → K u) (n : Nat) : ∀ (F : Nat → Nat → Int32) (L : Nat → Nat → Int64) (r : Nat → Nat → Nat) (x2 : Int32), J F0 F r → 0 ≤ x2 → mu (x2) < n → wpX3_copyFrom_b50 a0 a1 n F L r x2 K := by
  induction n with
  | zero => intro F L r x2 hJ hi0 hm; exact absurd hm (Nat.not_lt_zero _)
  | succ n ih =>
    intro F L r x2 hJ hi0 hm
    unfold wpX3_copyFrom_b50 wpX3_copyFrom_b50_body
    refine ⟨fun c0 => ?_, fun c0 => ?_⟩
    · exact hK _ hJ
    · refine ⟨vI (c := 3) rfl (by first | assumption | omega | grind | (simp only [pt_r] at *; grind) | (simp [pt_r]; grind)) (by first | assumption | omega | grind | (simp only [pt_r] at *; grind) | (simp [pt_r]; grind)), ?_⟩
      refine ⟨vI (c := 3) rfl (by first | assumption | omega | grind | (simp only [pt_r] at *; grind) | (simp [pt_r]; grind)) (by first | assumption | omega | grind | (simp only [pt_r] at *; grind) | (simp [pt_r]; grind)), ?_⟩
      exact ih _ _ _ _ hJ (by first | assumption | omega | grind | (simp only [pt_r] at *; grind) | (simp [pt_r]; grind)) (lt1 (mu_lt c0) hm)
set_option maxHeartbeats 1000000 in
theorem s_X3_copyFrom {F0 : Nat → Nat → Int32} {a0 : Nat} {a1 : Nat} {F : Nat → Nat → Int32} {L : Nat → Nat → Int64} {r : Nat → Nat → Nat} {K : cS → Prop} (hJ : J F0 F r) (ha0 : kd a0 = 3) (ha1 : kd a1 = 3) (hK : ∀ u : cS, J F0 u.1 u.2.2 → K u) : wpX3_copyFrom a0 a1 F L r K := by
  unfold wpX3_copyFrom
  unfold wpX3_copyFrom_b0
  exact ⟨_, l_X3_copyFrom_b50 ha0 ha1 hK _ _ _ _ _ (Jf ha0 rfl (Jf ha0 rfl (Jf ha0 rfl (Jf ha0 rfl hJ)))) (by first | assumption | omega | grind | (simp only [pt_r] at *; grind) | (simp [pt_r]; grind)) (Nat.lt_succ_self _)⟩
set_option maxHeartbeats 1000000 in
theorem s_X0_jamAll {F0 : Nat → Nat → Int32} {a0 : Nat} {F : Nat → Nat → Int32} {L : Nat → Nat → Int64} {r : Nat → Nat → Nat} {x1 : Int32} {x2 : Int32} {K : cS → Prop} (hJ : J F0 F r) (ha0 : kd a0 = 0) (hK : ∀ u : cS, J F0 u.1 u.2.2 → K u) : wpX0_jamAll a0 F L r x1 x2 K := by
  unfold wpX0_jamAll
  unfold wpX0_jamAll_b0
  exact hK _ (Jf ha0 rfl (Jf ha0 rfl (Jf ha0 rfl hJ)))
set_option maxHeartbeats 1000000 in
theorem s_X0_jamLike {F0 : Nat → Nat → Int32} {a0 : Nat} {a1 : Nat} {F : Nat → Nat → Int32} {L : Nat → Nat → Int64} {r : Nat → Nat → Nat} {K : cS → Prop} (hJ : J F0 F r) (ha0 : kd a0 = 0) (ha1 : kd a1 = 0) (hK : ∀ u : cS, J F0 u.1 u.2.2 → K u) : wpX0_jamLike a0 a1 F L r K := by
  unfold wpX0_jamLike
  unfold wpX0_jamLike_b0
  refine s_X0_jamAll hJ ha0 (fun u9 hJ9  => ?_)
  exact hK _ hJ9
set_option maxHeartbeats 1000000 in
theorem s_X2_begin {F0 : Nat → Nat → Int32} {a1 : Nat} {a2 : Nat} {a3 : Nat} {a4 : Nat} {F : Nat → Nat → Int32} {L : Nat → Nat → Int64} {r : Nat → Nat → Nat} {K : cS → Prop} (hJ : J F0 F r) (ha1 : kd a1 = 4) (ha2 : kd a2 = 3) (ha3 : kd a3 = 1) (ha4 : kd a4 = 0) (hK : ∀ u : cS, J F0 u.1 u.2.2 → K u) : wpX2_begin a1 a2 a3 a4 F L r K := by
  unfold wpX2_begin
  unfold wpX2_begin_b0
  refine s_X3_copyFrom (Jr102_4 ha1 hJ) kp90 ha2 (fun u10 hJ10  => ?_)
  refine s_X1_copyFrom hJ10 kp70 ha3 rfl (fun u18 hJ18  => ?_)
  refine s_X0_jamLike hJ18 kp44 ha4 (fun u27 hJ27  => ?_)
  exact hK _ hJ27
set_option maxHeartbeats 1000000 in
theorem s_X3_hasWaysOf {F0 : Nat → Nat → Int32} {a0 : Nat} {a1 : Nat} {F : Nat → Nat → Int32} {L : Nat → Nat → Int64} {r : Nat → Nat → Nat} {K : Int32 → cS → Prop} (hJ : J F0 F r) (ha0 : kd a0 = 3) (ha1 : kd a1 = 3) (hK : ∀ v : Int32, isB v → K v (F, L, r)) : wpX3_hasWaysOf a0 a1 F L r K := by
  unfold wpX3_hasWaysOf
  unfold wpX3_hasWaysOf_b0
  refine ⟨fun c0 => ?_, fun c0 => ?_⟩
  · unfold wpX3_hasWaysOf_b28
    unfold wpX3_hasWaysOf_b29
    refine ⟨(by first | exact Or.inl rfl | exact Or.inr rfl | assumption), ?_⟩
    exact hK _ (by first | exact Or.inl rfl | exact Or.inr rfl | assumption)
  · refine ⟨fun c1 => ?_, fun c1 => ?_⟩
    · unfold wpX3_hasWaysOf_b28
      unfold wpX3_hasWaysOf_b29
      refine ⟨(by first | exact Or.inl rfl | exact Or.inr rfl | assumption), ?_⟩
      exact hK _ (by first | exact Or.inl rfl | exact Or.inr rfl | assumption)
    · unfold wpX3_hasWaysOf_b29
      refine ⟨(by first | exact Or.inl rfl | exact Or.inr rfl | assumption), ?_⟩
      exact hK _ (by first | exact Or.inl rfl | exact Or.inr rfl | assumption)
set_option maxHeartbeats 1000000 in
theorem l_X2_firstDifference_b35 {F0 : Nat → Nat → Int32} {a1 : Nat} {K : Int32 → cS → Prop} (ha1 : kd a1 = 6) (hK : ∀ v : Int32, ∀ u : cS, J F0 u.1 u.2.2 → K v u) (n : Nat) : ∀ (F : Nat → Nat → Int32) (L : Nat → Nat → Int64) (r : Nat → Nat → Nat) (x2 : Int32) (x3 : Int32), J F0 F r → 0 ≤ x3 → x2 ≤ 500 → mu (x3) < n → wpX2_firstDifference_b35 a1 n F L r x2 x3 K := by
  induction n with
  | zero => intro F L r x2 x3 hJ hi0 hi1 hm; exact absurd hm (Nat.not_lt_zero _)
  | succ n ih =>
    intro F L r x2 x3 hJ hi0 hi1 hm
    unfold wpX2_firstDifference_b35 wpX2_firstDifference_b35_body
    refine ⟨fun c0 => ?_, fun c0 => ?_⟩
    · exact hK _ _ hJ
    · refine s_X3_obey hJ kp94 ha1 kp70 (fun u49 hJ49  => ?_)
      refine ⟨(hJ49).c1024, ?_⟩
      refine s_X0_step hJ49 kp45 (hJ49).c1024 kp92 kp70 (fun u68 hJ68  => ?_)
      refine s_X3_standsAs hJ68 kp92 kp94 (fun r79 hb79 => ?_)
      try dsimp only
      refine ⟨fun c1 => ?_, fun c1 => ?_⟩
      · unfold wpX2_firstDifference_b99
        exact hK _ _ hJ68
      · refine s_X3_hasWaysOf hJ68 kp92 kp94 (fun r93 hb93 => ?_)
        try dsimp only
        refine ⟨fun c2 => ?_, fun c2 => ?_⟩
        · exact ih _ _ _ _ _ hJ68 (by first | assumption | omega | grind | (simp only [pt_r] at *; grind) | (simp [pt_r]; grind)) (by first | assumption | omega | grind | (simp only [pt_r] at *; grind) | (simp [pt_r]; grind)) (lt1 (mu_le c0 (by first | decide | grind)) hm)
        · unfold wpX2_firstDifference_b99
          exact hK _ _ hJ68
set_option maxHeartbeats 1000000 in
theorem s_X2_firstDifference {F0 : Nat → Nat → Int32} {a1 : Nat} {F : Nat → Nat → Int32} {L : Nat → Nat → Int64} {r : Nat → Nat → Nat} {x2 : Int32} {K : Int32 → cS → Prop} (hJ : J F0 F r) (ha1 : kd a1 = 6) (hp : x2 ≤ 500) (hK : ∀ v : Int32, ∀ u : cS, J F0 u.1 u.2.2 → K v u) : wpX2_firstDifference a1 F L r x2 K := by
  unfold wpX2_firstDifference
  unfold wpX2_firstDifference_b0
  refine s_X3_copyFrom hJ kp94 kp90 (fun u8 hJ8  => ?_)
  refine s_X3_copyFrom hJ8 kp92 kp90 (fun u19 hJ19  => ?_)
  refine s_X0_jamLike hJ19 kp45 kp44 (fun u30 hJ30  => ?_)
  exact ⟨_, l_X2_firstDifference_b35 ha1 hK _ _ _ _ _ _ hJ30 (by first | assumption | omega | grind | (simp only [pt_r] at *; grind) | (simp [pt_r]; grind)) (by first | assumption | omega | grind | (simp only [pt_r] at *; grind) | (simp [pt_r]; grind)) (Nat.lt_succ_self _)⟩
set_option maxHeartbeats 1000000 in
theorem s_X10_same {F0 : Nat → Nat → Int32} {F : Nat → Nat → Int32} {L : Nat → Nat → Int64} {r : Nat → Nat → Nat} {x1 : Int32} {K : Int32 → cS → Prop} (hJ : J F0 F r) (hK : ∀ v : Int32, ∀ u : cS, J F0 u.1 u.2.2 → K v u) : wpX10_same F L r x1 K := by
  have t0_i := hJ.t0
  unfold wpX10_same
  unfold wpX10_same_b0
  refine s_X2_isLength (fun r1 hb1 hp1 => ?_)
  refine ⟨fun c0 => ?_, fun c0 => ?_⟩
  · refine ⟨(hJ).c04, ?_⟩
    refine s_X2_begin hJ (hJ).c04 kp74 kp46 kp43 (fun u29 hJ29  => ?_)
    have t0_29 := hJ29.t0
    refine ⟨(hJ29).c03, ?_⟩
    refine s_X2_firstDifference hJ29 (hJ29).c03 (by first | assumption | omega | grind | (simp only [pt_r] at *; grind) | (simp [pt_r]; grind)) (fun r41 u41 hJ41  => ?_)
    have t0_41 := hJ41.t0
    exact hK _ _ hJ41
  · exact hK _ _ hJ
set_option maxHeartbeats 1000000 in
theorem s_X2_stand {F0 : Nat → Nat → Int32} {F : Nat → Nat → Int32} {L : Nat → Nat → Int64} {r : Nat → Nat → Nat} {K : Int32 → cS → Prop} (hJ : J F0 F r) (hK : ∀ v : Int32, K v (F, L, r)) : wpX2_stand F L r K := by
  unfold wpX2_stand
  unfold wpX2_stand_b0
  exact hK _
set_option maxHeartbeats 1000000 in
theorem l_X2_recordTrack_b24 {F0 : Nat → Nat → Int32} {K : cS → Prop} (hK : ∀ u : cS, J F0 u.1 u.2.2 → K u) (n : Nat) : ∀ (F : Nat → Nat → Int32) (L : Nat → Nat → Int64) (r : Nat → Nat → Nat) (x1 : Int32) (x2 : Int32), J F0 F r → 0 ≤ x2 → mu (x2) < n → wpX2_recordTrack_b24 n F L r x1 x2 K := by
  induction n with
  | zero => intro F L r x1 x2 hJ hi0 hm; exact absurd hm (Nat.not_lt_zero _)
  | succ n ih =>
    intro F L r x1 x2 hJ hi0 hm
    unfold wpX2_recordTrack_b24 wpX2_recordTrack_b24_body
    refine ⟨fun c0 => ?_, fun c0 => ?_⟩
    · unfold wpX2_recordTrack_b71
      exact hK _ hJ
    · refine ⟨fun c1 => ?_, fun c1 => ?_⟩
      · unfold wpX2_recordTrack_b71
        exact hK _ hJ
      · refine ⟨(hJ).c1024, ?_⟩
        refine s_X0_step hJ kp45 (hJ).c1024 kp92 kp70 (fun u52 hJ52  => ?_)
        refine s_X2_stand hJ52 (fun r61 => ?_)
        try dsimp only
        refine ⟨vI (c := 500) rfl (by first | assumption | omega | grind | (simp only [pt_r] at *; grind) | (simp [pt_r]; grind)) (by first | assumption | omega | grind | (simp only [pt_r] at *; grind) | (simp [pt_r]; grind)), ?_⟩
        exact ih _ _ _ _ _ (Jf kp103 rfl hJ52) (by first | assumption | omega | grind | (simp only [pt_r] at *; grind) | (simp [pt_r]; grind)) (lt1 (mu_lt c1) hm)
set_option maxHeartbeats 1000000 in
theorem s_X2_recordTrack {F0 : Nat → Nat → Int32} {F : Nat → Nat → Int32} {L : Nat → Nat → Int64} {r : Nat → Nat → Nat} {x1 : Int32} {K : cS → Prop} (hJ : J F0 F r) (hK : ∀ u : cS, J F0 u.1 u.2.2 → K u) : wpX2_recordTrack F L r x1 K := by
  unfold wpX2_recordTrack
  unfold wpX2_recordTrack_b0
  refine s_X3_copyFrom hJ kp92 kp90 (fun u8 hJ8  => ?_)
  refine s_X0_jamLike hJ8 kp45 kp44 (fun u19 hJ19  => ?_)
  exact ⟨_, l_X2_recordTrack_b24 hK _ _ _ _ _ _ hJ19 (by first | assumption | omega | grind | (simp only [pt_r] at *; grind) | (simp [pt_r]; grind)) (Nat.lt_succ_self _)⟩
set_option maxHeartbeats 1000000 in
theorem l_X2_keepsTrack_b23 {F0 : Nat → Nat → Int32} {K : Int32 → cS → Prop} (hK : ∀ v : Int32, ∀ u : cS, J F0 u.1 u.2.2 → isB v → K v u) (n : Nat) : ∀ (F : Nat → Nat → Int32) (L : Nat → Nat → Int64) (r : Nat → Nat → Nat) (x3 : Int32) (x4 : Int32), J F0 F r → 0 ≤ x4 → mu (x4) < n → wpX2_keepsTrack_b23 n F L r x3 x4 K := by
  induction n with
  | zero => intro F L r x3 x4 hJ hi0 hm; exact absurd hm (Nat.not_lt_zero _)
  | succ n ih =>
    intro F L r x3 x4 hJ hi0 hm
    unfold wpX2_keepsTrack_b23 wpX2_keepsTrack_b23_body
    refine ⟨fun c0 => ?_, fun c0 => ?_⟩
    · unfold wpX2_keepsTrack_b78
      exact hK _ _ hJ (by first | exact Or.inl rfl | exact Or.inr rfl | assumption)
    · refine ⟨fun c1 => ?_, fun c1 => ?_⟩
      · unfold wpX2_keepsTrack_b78
        exact hK _ _ hJ (by first | exact Or.inl rfl | exact Or.inr rfl | assumption)
      · refine ⟨(hJ).c1024, ?_⟩
        refine s_X0_step hJ kp45 (hJ).c1024 kp92 kp70 (fun u53 hJ53  => ?_)
        refine ⟨vI (c := 500) rfl (by first | assumption | omega | grind | (simp only [pt_r] at *; grind) | (simp [pt_r]; grind)) (by first | assumption | omega | grind | (simp only [pt_r] at *; grind) | (simp [pt_r]; grind)), ?_⟩
        refine s_X2_stand hJ53 (fun r64 => ?_)
        try dsimp only
        refine ⟨fun c2 => ?_, fun c2 => ?_⟩
        · exact ih _ _ _ _ _ hJ53 (by first | assumption | omega | grind | (simp only [pt_r] at *; grind) | (simp [pt_r]; grind)) (lt1 (mu_lt c1) hm)
        · exact hK _ _ hJ53 (by first | exact Or.inl rfl | exact Or.inr rfl | assumption)
set_option maxHeartbeats 1000000 in
theorem s_X2_keepsTrack {F0 : Nat → Nat → Int32} {F : Nat → Nat → Int32} {L : Nat → Nat → Int64} {r : Nat → Nat → Nat} {x1 : Int32} {x2 : Int32} {x3 : Int32} {K : Int32 → cS → Prop} (hJ : J F0 F r) (hK : ∀ v : Int32, ∀ u : cS, J F0 u.1 u.2.2 → isB v → K v u) : wpX2_keepsTrack F L r x1 x2 x3 K := by
  unfold wpX2_keepsTrack
  unfold wpX2_keepsTrack_b0
  refine s_X3_copyFrom hJ kp92 kp90 (fun u8 hJ8  => ?_)
  refine s_X0_jamAll hJ8 kp45 (fun u17 hJ17  => ?_)
  exact ⟨_, l_X2_keepsTrack_b23 hK _ _ _ _ _ _ hJ17 (by first | assumption | omega | grind | (simp only [pt_r] at *; grind) | (simp [pt_r]; grind)) (Nat.lt_succ_self _)⟩
set_option maxHeartbeats 1000000 in
theorem l_X2_findSuspects_b28 {F0 : Nat → Nat → Int32} {K : cS → Prop} (hK : ∀ u : cS, J F0 u.1 u.2.2 → K u) (n : Nat) : ∀ (F : Nat → Nat → Int32) (L : Nat → Nat → Int64) (r : Nat → Nat → Nat) (x1 : Int32) (x2 : Int32), J F0 F r → 0 ≤ x2 → mu (x2) < n → wpX2_findSuspects_b28 n F L r x1 x2 K := by
  induction n with
  | zero => intro F L r x1 x2 hJ hi0 hm; exact absurd hm (Nat.not_lt_zero _)
  | succ n ih =>
    intro F L r x1 x2 hJ hi0 hm
    have l0_i := hJ.r4 hJ.c1024
    unfold wpX2_findSuspects_b28 wpX2_findSuspects_b28_body
    refine ⟨(hJ).c1024, ?_⟩
    refine ⟨fun c0 => ?_, fun c0 => ?_⟩
    · exact hK _ hJ
    · refine s_X2_keepsTrack hJ (fun r47 u47 hJ47 hb47  => ?_)
      have l0_47 := hJ47.r4 hJ47.c1024
      refine ⟨fun c1 => ?_, fun c1 => ?_⟩
      · unfold wpX2_findSuspects_b63
        refine s_X2_keepsTrack hJ47 (fun r67 u67 hJ67 hb67  => ?_)
        have l0_67 := hJ67.r4 hJ67.c1024
        refine ⟨fun c2 => ?_, fun c2 => ?_⟩
        · unfold wpX2_findSuspects_b83
          exact ih _ _ _ _ _ hJ67 (by first | assumption | omega | grind | (simp only [pt_r] at *; grind) | (simp [pt_r]; grind)) (lt1 (mu_lt c0) hm)
        · unfold wpX2_findSuspects_b83
          exact ih _ _ _ _ _ (Jf kp102 rfl hJ67) (by first | assumption | omega | grind | (simp only [pt_r] at *; grind) | (simp [pt_r]; grind)) (lt1 (mu_lt c0) hm)
      · unfold wpX2_findSuspects_b63
        refine s_X2_keepsTrack (Jf kp102 rfl hJ47) (fun r67 u67 hJ67 hb67  => ?_)
        have l0_67 := hJ67.r4 hJ67.c1024
        refine ⟨fun c2 => ?_, fun c2 => ?_⟩
        · unfold wpX2_findSuspects_b83
          exact ih _ _ _ _ _ hJ67 (by first | assumption | omega | grind | (simp only [pt_r] at *; grind) | (simp [pt_r]; grind)) (lt1 (mu_lt c0) hm)
        · unfold wpX2_findSuspects_b83
          exact ih _ _ _ _ _ (Jf kp102 rfl hJ67) (by first | assumption | omega | grind | (simp only [pt_r] at *; grind) | (simp [pt_r]; grind)) (lt1 (mu_lt c0) hm)
set_option maxHeartbeats 1000000 in
theorem s_X2_findSuspects {F0 : Nat → Nat → Int32} {F : Nat → Nat → Int32} {L : Nat → Nat → Int64} {r : Nat → Nat → Nat} {x1 : Int32} {K : cS → Prop} (hJ : J F0 F r) (hK : ∀ u : cS, J F0 u.1 u.2.2 → K u) : wpX2_findSuspects F L r x1 K := by
  have l0_i := hJ.r4 hJ.c1024
  unfold wpX2_findSuspects
  unfold wpX2_findSuspects_b0
  refine s_X2_recordTrack (Jf kp102 rfl (Jf kp102 rfl hJ)) (fun u12 hJ12  => ?_)
  have l0_12 := hJ12.r4 hJ12.c1024
  refine s_X2_keepsTrack hJ12 (fun r19 u19 hJ19 hb19  => ?_)
  have l0_19 := hJ19.r4 hJ19.c1024
  refine ⟨fun c0 => ?_, fun c0 => ?_⟩
  · exact ⟨_, l_X2_findSuspects_b28 hK _ _ _ _ _ _ hJ19 (by first | assumption | omega | grind | (simp only [pt_r] at *; grind) | (simp [pt_r]; grind)) (Nat.lt_succ_self _)⟩
  · exact hK _ hJ19
set_option maxHeartbeats 1000000 in
theorem s_X10_suspects {F0 : Nat → Nat → Int32} {F : Nat → Nat → Int32} {L : Nat → Nat → Int64} {r : Nat → Nat → Nat} {x1 : Int32} {x2 : Int32} {K : Int32 → cS → Prop} (hJ : J F0 F r) (hK : ∀ v : Int32, ∀ u : cS, J F0 u.1 u.2.2 → K v u) : wpX10_suspects F L r x1 x2 K := by
  have t0_i := hJ.t0
  unfold wpX10_suspects
  unfold wpX10_suspects_b0
  refine s_X2_isLength (fun r1 hb1 hp1 => ?_)
  refine ⟨fun c0 => ?_, fun c0 => ?_⟩
  · unfold wpX10_suspects_b16
    exact hK _ _ hJ
  · refine ⟨fun c1 => ?_, fun c1 => ?_⟩
    · unfold wpX10_suspects_b16
      exact hK _ _ hJ
    · refine ⟨fun c2 => ?_, fun c2 => ?_⟩
      · refine ⟨(hJ).c04, ?_⟩
        refine s_X2_begin hJ (hJ).c04 kp74 kp46 kp43 (fun u38 hJ38  => ?_)
        have t0_38 := hJ38.t0
        refine s_X2_findSuspects hJ38 (fun u46 hJ46  => ?_)
        have t0_46 := hJ46.t0
        refine ⟨fun c3 => ?_, fun c3 => ?_⟩
        · unfold wpX10_suspects_b70
          exact hK _ _ hJ46
        · unfold wpX10_suspects_b70
          exact hK _ _ hJ46
      · unfold wpX10_suspects_b16
        exact hK _ _ hJ
set_option maxHeartbeats 1000000 in
theorem s_X2_suspectCount {F0 : Nat → Nat → Int32} {F : Nat → Nat → Int32} {L : Nat → Nat → Int64} {r : Nat → Nat → Nat} {K : Int32 → cS → Prop} (hJ : J F0 F r) (hK : ∀ v : Int32, K v (F, L, r)) : wpX2_suspectCount F L r K := by
  unfold wpX2_suspectCount
  unfold wpX2_suspectCount_b0
  refine s_J6_bitCount_0f7a4 (fun r4 => ?_)
  refine s_J6_bitCount_0f7a4 (fun r11 => ?_)
  exact hK _
set_option maxHeartbeats 1000000 in
theorem s_X1_moveWall {F0 : Nat → Nat → Int32} {a0 : Nat} {F : Nat → Nat → Int32} {L : Nat → Nat → Int64} {r : Nat → Nat → Nat} {x1 : Int32} {K : cS → Prop} (hJ : J F0 F r) (ha0 : kd a0 = 1) (hK : ∀ L' : Nat → Nat → Int64, K (F, L', r)) : wpX1_moveWall a0 F L r x1 K := by
  unfold wpX1_moveWall
  unfold wpX1_moveWall_b0
  refine s_X1_squareOfWall hJ ha0 (fun r2 => ?_)
  try dsimp only
  refine s_X1_sideOfWall hJ ha0 (fun r8 => ?_)
  try dsimp only
  refine s_X1_isWalled hJ ha0 (fun r18 hb18 => ?_)
  try dsimp only
  refine ⟨fun c0 => ?_, fun c0 => ?_⟩
  · unfold wpX1_moveWall_b29
    refine s_X1_putWall hJ ha0 (fun L29 => ?_)
    try dsimp only
    exact hK _
  · unfold wpX1_moveWall_b29
    refine s_X1_putWall hJ ha0 (fun L29 => ?_)
    try dsimp only
    exact hK _
set_option maxHeartbeats 1000000 in
theorem l_X2_suspectsLeft_b9 {F0 : Nat → Nat → Int32} {K : Int32 → cS → Prop} (hK : ∀ v : Int32, ∀ u : cS, J F0 u.1 u.2.2 → K v u) (n : Nat) : ∀ (F : Nat → Nat → Int32) (L : Nat → Nat → Int64) (r : Nat → Nat → Nat) (x1 : Int32) (x2 : Int32) (x3 : Int32), J F0 F r → 0 ≤ x3 → mu (x3) < n → wpX2_suspectsLeft_b9 n F L r x1 x2 x3 K := by
  induction n with
  | zero => intro F L r x1 x2 x3 hJ hi0 hm; exact absurd hm (Nat.not_lt_zero _)
  | succ n ih =>
    intro F L r x1 x2 x3 hJ hi0 hm
    have l0_i := hJ.r4 hJ.c1024
    unfold wpX2_suspectsLeft_b9 wpX2_suspectsLeft_b9_body
    refine ⟨(hJ).c1024, ?_⟩
    refine ⟨fun c0 => ?_, fun c0 => ?_⟩
    · unfold wpX2_suspectsLeft_b88
      exact hK _ _ hJ
    · refine ⟨fun c1 => ?_, fun c1 => ?_⟩
      · unfold wpX2_suspectsLeft_b88
        exact hK _ _ hJ
      · refine ⟨fun c2 => ?_, fun c2 => ?_⟩
        · unfold wpX2_suspectsLeft_b57
          refine ⟨fun c3 => ?_, fun c3 => ?_⟩
          · unfold wpX2_suspectsLeft_b82
            exact ih _ _ _ _ _ _ hJ (by first | assumption | omega | grind | (simp only [pt_r] at *; grind) | (simp [pt_r]; grind)) (lt1 (mu_lt c0) hm)
          · refine s_X2_keepsTrack hJ (fun r73 u73 hJ73 hb73  => ?_)
            have l0_73 := hJ73.r4 hJ73.c1024
            refine ⟨fun c4 => ?_, fun c4 => ?_⟩
            · unfold wpX2_suspectsLeft_b82
              exact ih _ _ _ _ _ _ hJ73 (by first | assumption | omega | grind | (simp only [pt_r] at *; grind) | (simp [pt_r]; grind)) (lt1 (mu_lt c0) hm)
            · unfold wpX2_suspectsLeft_b82
              exact ih _ _ _ _ _ _ hJ73 (by first | assumption | omega | grind | (simp only [pt_r] at *; grind) | (simp [pt_r]; grind)) (lt1 (mu_lt c0) hm)
        · refine s_X2_keepsTrack hJ (fun r48 u48 hJ48 hb48  => ?_)
          have l0_48 := hJ48.r4 hJ48.c1024
          refine ⟨fun c3 => ?_, fun c3 => ?_⟩
          · unfold wpX2_suspectsLeft_b57
            refine ⟨fun c4 => ?_, fun c4 => ?_⟩
            · unfold wpX2_suspectsLeft_b82
              exact ih _ _ _ _ _ _ hJ48 (by first | assumption | omega | grind | (simp only [pt_r] at *; grind) | (simp [pt_r]; grind)) (lt1 (mu_lt c0) hm)
            · refine s_X2_keepsTrack hJ48 (fun r73 u73 hJ73 hb73  => ?_)
              have l0_73 := hJ73.r4 hJ73.c1024
              refine ⟨fun c5 => ?_, fun c5 => ?_⟩
              · unfold wpX2_suspectsLeft_b82
                exact ih _ _ _ _ _ _ hJ73 (by first | assumption | omega | grind | (simp only [pt_r] at *; grind) | (simp [pt_r]; grind)) (lt1 (mu_lt c0) hm)
              · unfold wpX2_suspectsLeft_b82
                exact ih _ _ _ _ _ _ hJ73 (by first | assumption | omega | grind | (simp only [pt_r] at *; grind) | (simp [pt_r]; grind)) (lt1 (mu_lt c0) hm)
          · unfold wpX2_suspectsLeft_b57
            refine ⟨fun c4 => ?_, fun c4 => ?_⟩
            · unfold wpX2_suspectsLeft_b82
              exact ih _ _ _ _ _ _ hJ48 (by first | assumption | omega | grind | (simp only [pt_r] at *; grind) | (simp [pt_r]; grind)) (lt1 (mu_lt c0) hm)
            · refine s_X2_keepsTrack hJ48 (fun r73 u73 hJ73 hb73  => ?_)
              have l0_73 := hJ73.r4 hJ73.c1024
              refine ⟨fun c5 => ?_, fun c5 => ?_⟩
              · unfold wpX2_suspectsLeft_b82
                exact ih _ _ _ _ _ _ hJ73 (by first | assumption | omega | grind | (simp only [pt_r] at *; grind) | (simp [pt_r]; grind)) (lt1 (mu_lt c0) hm)
              · unfold wpX2_suspectsLeft_b82
                exact ih _ _ _ _ _ _ hJ73 (by first | assumption | omega | grind | (simp only [pt_r] at *; grind) | (simp [pt_r]; grind)) (lt1 (mu_lt c0) hm)
set_option maxHeartbeats 1000000 in
theorem s_X2_suspectsLeft {F0 : Nat → Nat → Int32} {F : Nat → Nat → Int32} {L : Nat → Nat → Int64} {r : Nat → Nat → Nat} {x1 : Int32} {K : Int32 → cS → Prop} (hJ : J F0 F r) (hK : ∀ v : Int32, ∀ u : cS, J F0 u.1 u.2.2 → K v u) : wpX2_suspectsLeft F L r x1 K := by
  have l0_i := hJ.r4 hJ.c1024
  unfold wpX2_suspectsLeft
  unfold wpX2_suspectsLeft_b0
  refine s_X2_recordTrack hJ (fun u2 hJ2  => ?_)
  have l0_2 := hJ2.r4 hJ2.c1024
  exact ⟨_, l_X2_suspectsLeft_b9 hK _ _ _ _ _ _ _ hJ2 (by first | assumption | omega | grind | (simp only [pt_r] at *; grind) | (simp [pt_r]; grind)) (Nat.lt_succ_self _)⟩
set_option maxHeartbeats 1000000 in
theorem l_X2_findBestWall_b17 {F0 : Nat → Nat → Int32} {K : cS → Prop} (hK : ∀ u : cS, J F0 u.1 u.2.2 → K u) (n : Nat) : ∀ (F : Nat → Nat → Int32) (L : Nat → Nat → Int64) (r : Nat → Nat → Nat) (x1 : Int32) (x2 : Int32), J F0 F r → 0 ≤ x2 → mu (x2) < n → wpX2_findBestWall_b17 n F L r x1 x2 K := by
  induction n with
  | zero => intro F L r x1 x2 hJ hi0 hm; exact absurd hm (Nat.not_lt_zero _)
  | succ n ih =>
    intro F L r x1 x2 hJ hi0 hm
    unfold wpX2_findBestWall_b17 wpX2_findBestWall_b17_body
    refine s_X1_wallNumbers hJ kp70 (fun r22 => ?_)
    try dsimp only
    refine ⟨fun c0 => ?_, fun c0 => ?_⟩
    · exact hK _ hJ
    · refine s_X1_moveWall hJ kp70 (fun L33 => ?_)
      try dsimp only
      refine s_X2_suspectsLeft hJ (fun r38 u38 hJ38  => ?_)
      refine s_X1_moveWall hJ38 kp70 (fun L47 => ?_)
      try dsimp only
      refine ⟨fun c1 => ?_, fun c1 => ?_⟩
      · unfold wpX2_findBestWall_b68
        exact ih _ _ _ _ _ hJ38 (by first | assumption | omega | grind | (simp only [pt_r] at *; grind) | (simp [pt_r]; grind)) (lt1 (mu_lt c0) hm)
      · unfold wpX2_findBestWall_b68
        exact ih _ _ _ _ _ (Jf kp102 rfl (Jf kp102 rfl hJ38)) (by first | assumption | omega | grind | (simp only [pt_r] at *; grind) | (simp [pt_r]; grind)) (lt1 (mu_lt c0) hm)
