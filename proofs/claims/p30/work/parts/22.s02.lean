set_option maxHeartbeats 1000000 in
theorem l_X7_read_b20 {F0 : Nat → Nat → Int32} {K : Int32 → cS → Prop} (hK : ∀ v : Int32, ∀ u : cS, J F0 u.1 u.2.2 → isB v → K v u) (n : Nat) : ∀ (F : Nat → Nat → Int32) (L : Nat → Nat → Int64) (r : Nat → Nat → Nat) (x2 : Int32), J F0 F r → 0 ≤ x2 → mu (x2) < n → wpX7_read_b20 n F L r x2 K := by
  induction n with
  | zero => intro F L r x2 hJ hi0 hm; exact absurd hm (Nat.not_lt_zero _)
  | succ n ih =>
    intro F L r x2 hJ hi0 hm
    have q_i := hJ.q2
    unfold wpX7_read_b20 wpX7_read_b20_body
    refine ⟨fun c0 => ?_, fun c0 => ?_⟩
    · unfold wpX7_read_b56
      refine ⟨fun c1 => ?_, fun c1 => ?_⟩
      · unfold wpX7_read_b71
        refine ⟨(by first | exact Or.inl rfl | exact Or.inr rfl | assumption), ?_⟩
        exact hK _ _ hJ (by first | exact Or.inl rfl | exact Or.inr rfl | assumption)
      · unfold wpX7_read_b71
        refine ⟨(by first | exact Or.inl rfl | exact Or.inr rfl | assumption), ?_⟩
        exact hK _ _ hJ (by first | exact Or.inl rfl | exact Or.inr rfl | assumption)
    · refine ⟨fun c1 => ?_, fun c1 => ?_⟩
      · unfold wpX7_read_b56
        refine ⟨fun c2 => ?_, fun c2 => ?_⟩
        · unfold wpX7_read_b71
          refine ⟨(by first | exact Or.inl rfl | exact Or.inr rfl | assumption), ?_⟩
          exact hK _ _ hJ (by first | exact Or.inl rfl | exact Or.inr rfl | assumption)
        · unfold wpX7_read_b71
          refine ⟨(by first | exact Or.inl rfl | exact Or.inr rfl | assumption), ?_⟩
          exact hK _ _ hJ (by first | exact Or.inl rfl | exact Or.inr rfl | assumption)
      · refine ⟨fun c2 => ?_, fun c2 => ?_⟩
        · unfold wpX7_read_b56
          refine ⟨fun c3 => ?_, fun c3 => ?_⟩
          · unfold wpX7_read_b71
            refine ⟨(by first | exact Or.inl rfl | exact Or.inr rfl | assumption), ?_⟩
            exact hK _ _ hJ (by first | exact Or.inl rfl | exact Or.inr rfl | assumption)
          · unfold wpX7_read_b71
            refine ⟨(by first | exact Or.inl rfl | exact Or.inr rfl | assumption), ?_⟩
            exact hK _ _ hJ (by first | exact Or.inl rfl | exact Or.inr rfl | assumption)
        · refine s_X7_readLine hJ (fun u47 hJ47  => ?_)
          have q_47 := hJ47.q2
          exact ih _ _ _ _ hJ47 (by first | assumption | omega | grind | (simp only [pt_r] at *; grind) | (simp [pt_r]; grind)) (lt1 (mu_le c0 (by first | decide | grind)) hm)
set_option maxHeartbeats 1000000 in
theorem s_X7_read {F0 : Nat → Nat → Int32} {F : Nat → Nat → Int32} {L : Nat → Nat → Int64} {r : Nat → Nat → Nat} {x1 : Int32} {K : Int32 → cS → Prop} (hJ : J F0 F r) (hK : ∀ v : Int32, ∀ u : cS, J F0 u.1 u.2.2 → isB v → K v u) : wpX7_read F L r x1 K := by
  have q_i := hJ.q2
  unfold wpX7_read
  unfold wpX7_read_b0
  refine ⟨(hJ).c103, ?_⟩
  refine s_X9_open (J6_0 (hJ).c103 (by first | assumption | omega | grind | (simp only [pt_r] at *; grind) | (simp [pt_r]; grind)) hJ) (by decide) (fun u15 hJ15  => ?_)
  have q_15 := hJ15.q2
  exact ⟨_, l_X7_read_b20 hK _ _ _ _ _ hJ15 (by first | assumption | omega | grind | (simp only [pt_r] at *; grind) | (simp [pt_r]; grind)) (Nat.lt_succ_self _)⟩
set_option maxHeartbeats 1000000 in
theorem s_X7_exchange {F0 : Nat → Nat → Int32} {a1 : Nat} {F : Nat → Nat → Int32} {L : Nat → Nat → Int64} {r : Nat → Nat → Nat} {K : Nat → cS → Prop} (hJ : J F0 F r) (ha1 : kd a1 = 6) (hK : ∀ v : Nat, ∀ u : cS, J F0 u.1 u.2.2 → kd v = 6 → K v u) : wpX7_exchange a1 F L r K := by
  have q_i := hJ.q2
  unfold wpX7_exchange
  unfold wpX7_exchange_b0
  exact hK _ _ (Jr10_3 ha1 hJ) ((hJ).c103)
set_option maxHeartbeats 1000000 in
theorem s_X8_forget {F0 : Nat → Nat → Int32} {F : Nat → Nat → Int32} {L : Nat → Nat → Int64} {r : Nat → Nat → Nat} {K : cS → Prop} (hJ : J F0 F r) (hK : ∀ u : cS, J F0 u.1 u.2.2 → K u) : wpX8_forget F L r K := by
  unfold wpX8_forget
  unfold wpX8_forget_b0
  exact hK _ (Jf kp96 rfl (Jf kp96 rfl hJ))
set_option maxHeartbeats 1000000 in
theorem s_X10_rules {F0 : Nat → Nat → Int32} {F : Nat → Nat → Int32} {L : Nat → Nat → Int64} {r : Nat → Nat → Nat} {x1 : Int32} {K : Int32 → cS → Prop} (hJ : J F0 F r) (hK : ∀ v : Int32, ∀ u : cS, J F0 u.1 u.2.2 → K v u) : wpX10_rules F L r x1 K := by
  have t0_i := hJ.t0
  unfold wpX10_rules
  unfold wpX10_rules_b0
  refine ⟨fun c0 => ?_, fun c0 => ?_⟩
  · unfold wpX10_rules_b15
    exact hK _ _ hJ
  · refine ⟨fun c1 => ?_, fun c1 => ?_⟩
    · refine s_X7_read hJ (fun r23 u23 hJ23 hb23  => ?_)
      have t0_23 := hJ23.t0
      refine ⟨fun c2 => ?_, fun c2 => ?_⟩
      · refine ⟨(hJ23).c03, ?_⟩
        refine s_X7_exchange hJ23 (hJ23).c03 (fun r40 u40 hJ40 hp40  => ?_)
        have t0_40 := hJ40.t0
        refine s_X8_forget (Jf kp74 rfl (Jr0_3 hp40 hJ40)) (fun u58 hJ58  => ?_)
        have t0_58 := hJ58.t0
        refine ⟨(hJ58).c03, ?_⟩
        exact hK _ _ hJ58
      · exact hK _ _ hJ23
    · unfold wpX10_rules_b15
      exact hK _ _ hJ
set_option maxHeartbeats 1000000 in
theorem l_X4_clear_b17 {F0 : Nat → Nat → Int32} {a0 : Nat} {K : cS → Prop} (ha0 : kd a0 = 4) (hK : ∀ u : cS, J F0 u.1 u.2.2 → K u) (n : Nat) : ∀ (F : Nat → Nat → Int32) (L : Nat → Nat → Int64) (r : Nat → Nat → Nat) (x1 : Int32), J F0 F r → 0 ≤ x1 → mu (x1) < n → wpX4_clear_b17 a0 n F L r x1 K := by
  induction n with
  | zero => intro F L r x1 hJ hi0 hm; exact absurd hm (Nat.not_lt_zero _)
  | succ n ih =>
    intro F L r x1 hJ hi0 hm
    have i4_i := is4 ha0
    have l0_i := hJ.r4 ha0
    have l2_i := hJ.g4 ha0
    unfold wpX4_clear_b17 wpX4_clear_b17_body
    refine ⟨fun c0 => ?_, fun c0 => ?_⟩
    · unfold wpX4_clear_b55
      exact hK _ hJ
    · refine ⟨fun c1 => ?_, fun c1 => ?_⟩
      · unfold wpX4_clear_b55
        exact hK _ hJ
      · refine ⟨vI (c := 24) rfl (by first | assumption | omega | grind | (simp only [pt_r] at *; grind) | (simp [pt_r]; grind)) (by first | assumption | omega | grind | (simp only [pt_r] at *; grind) | (simp [pt_r]; grind)), ?_⟩
        refine ⟨vI (c := 24) rfl (by first | assumption | omega | grind | (simp only [pt_r] at *; grind) | (simp [pt_r]; grind)) (by first | assumption | omega | grind | (simp only [pt_r] at *; grind) | (simp [pt_r]; grind)), ?_⟩
        exact ih _ _ _ _ (J21 ha0 (k := 3) (by decide) (by first | assumption | omega | grind | (simp only [pt_r] at *; grind) | (simp [pt_r]; grind)) (J21 ha0 (k := 2) (by decide) (by first | assumption | omega | grind | (simp only [pt_r] at *; grind) | (simp [pt_r]; grind)) hJ)) (by first | assumption | omega | grind | (simp only [pt_r] at *; grind) | (simp [pt_r]; grind)) (lt1 (mu_lt c1) hm)
set_option maxHeartbeats 1000000 in
theorem s_X4_clear {F0 : Nat → Nat → Int32} {a0 : Nat} {F : Nat → Nat → Int32} {L : Nat → Nat → Int64} {r : Nat → Nat → Nat} {K : cS → Prop} (hJ : J F0 F r) (ha0 : kd a0 = 4) (hK : ∀ u : cS, J F0 u.1 u.2.2 → K u) : wpX4_clear a0 F L r K := by
  have i4_i := is4 ha0
  have l0_i := hJ.r4 ha0
  have l2_i := hJ.g4 ha0
  unfold wpX4_clear
  unfold wpX4_clear_b0
  exact ⟨_, l_X4_clear_b17 ha0 hK _ _ _ _ _ (J4_2 ha0 (by first | assumption | omega | grind | (simp only [pt_r] at *; grind) | (simp [pt_r]; grind)) (J4_1 ha0 (J4_0 ha0 (by first | assumption | omega | grind | (simp only [pt_r] at *; grind) | (simp [pt_r]; grind)) hJ))) (by first | assumption | omega | grind | (simp only [pt_r] at *; grind) | (simp [pt_r]; grind)) (Nat.lt_succ_self _)⟩
set_option maxHeartbeats 1000000 in
theorem s_X5_isName {F0 : Nat → Nat → Int32} {F : Nat → Nat → Int32} {L : Nat → Nat → Int64} {r : Nat → Nat → Nat} {K : Int32 → cS → Prop} (hJ : J F0 F r) (hK : ∀ v : Int32, isB v → K v (F, L, r)) : wpX5_isName F L r K := by
  have i4_i := is4 hJ.c125
  have n_i := hJ.n9
  have d0_i := hJ.r4 hJ.c125
  have d2_i := hJ.g4 hJ.c125
  unfold wpX5_isName
  unfold wpX5_isName_b0
  refine ⟨fun c0 => ?_, fun c0 => ?_⟩
  · unfold wpX5_isName_b36
    unfold wpX5_isName_b37
    refine ⟨(by first | exact Or.inl rfl | exact Or.inr rfl | assumption), ?_⟩
    exact hK _ (by first | exact Or.inl rfl | exact Or.inr rfl | assumption)
  · refine ⟨fun c1 => ?_, fun c1 => ?_⟩
    · unfold wpX5_isName_b36
      unfold wpX5_isName_b37
      refine ⟨(by first | exact Or.inl rfl | exact Or.inr rfl | assumption), ?_⟩
      exact hK _ (by first | exact Or.inl rfl | exact Or.inr rfl | assumption)
    · refine ⟨fun c2 => ?_, fun c2 => ?_⟩
      · unfold wpX5_isName_b36
        unfold wpX5_isName_b37
        refine ⟨(by first | exact Or.inl rfl | exact Or.inr rfl | assumption), ?_⟩
        exact hK _ (by first | exact Or.inl rfl | exact Or.inr rfl | assumption)
      · unfold wpX5_isName_b37
        refine ⟨(by first | exact Or.inl rfl | exact Or.inr rfl | assumption), ?_⟩
        exact hK _ (by first | exact Or.inl rfl | exact Or.inr rfl | assumption)
set_option maxHeartbeats 1000000 in
theorem l_X5_relayOf_b2 {F0 : Nat → Nat → Int32} {F : Nat → Nat → Int32} {L : Nat → Nat → Int64} {r : Nat → Nat → Nat} {K : Int32 → cS → Prop} (hJ : J F0 F r) (hK : ∀ v : Int32, K v (F, L, r)) (n : Nat) : ∀ (x1 : Int32) (x2 : Int32), 0 ≤ x2 → mu (x2) < n → wpX5_relayOf_b2 n F L r x1 x2 K := by
  induction n with
  | zero => intro x1 x2 hi0 hm; exact absurd hm (Nat.not_lt_zero _)
  | succ n ih =>
    intro x1 x2 hi0 hm
    have i4_i := is4 hJ.c125
    have n_i := hJ.n9
    have d0_i := hJ.r4 hJ.c125
    have d2_i := hJ.g4 hJ.c125
    unfold wpX5_relayOf_b2 wpX5_relayOf_b2_body
    refine ⟨(hJ).c125, ?_⟩
    refine ⟨fun c0 => ?_, fun c0 => ?_⟩
    · exact hK _
    · refine ⟨vI (c := 20) rfl (by first | assumption | omega | grind | (simp only [pt_r] at *; grind) | (simp [pt_r]; grind)) (by first | assumption | omega | grind | (simp only [pt_r] at *; grind) | (simp [pt_r]; grind)), ?_⟩
      refine ⟨fun c1 => ?_, fun c1 => ?_⟩
      · exact ih _ _ (by first | assumption | omega | grind | (simp only [pt_r] at *; grind) | (simp [pt_r]; grind)) (lt1 (mu_lt c0) hm)
      · exact hK _
set_option maxHeartbeats 1000000 in
theorem s_X5_relayOf {F0 : Nat → Nat → Int32} {F : Nat → Nat → Int32} {L : Nat → Nat → Int64} {r : Nat → Nat → Nat} {x1 : Int32} {K : Int32 → cS → Prop} (hJ : J F0 F r) (hK : ∀ v : Int32, K v (F, L, r)) : wpX5_relayOf F L r x1 K := by
  have i4_i := is4 hJ.c125
  have n_i := hJ.n9
  have d0_i := hJ.r4 hJ.c125
  have d2_i := hJ.g4 hJ.c125
  unfold wpX5_relayOf
  unfold wpX5_relayOf_b0
  exact ⟨_, l_X5_relayOf_b2 hJ hK _ _ _ (by first | assumption | omega | grind | (simp only [pt_r] at *; grind) | (simp [pt_r]; grind)) (Nat.lt_succ_self _)⟩
set_option maxHeartbeats 1000000 in
theorem s_X5_readRelay {F0 : Nat → Nat → Int32} {F : Nat → Nat → Int32} {L : Nat → Nat → Int64} {r : Nat → Nat → Nat} {K : Int32 → cS → Prop} (hJ : J F0 F r) (hK : ∀ v : Int32, ∀ u : cS, J F0 u.1 u.2.2 → K v u) : wpX5_readRelay F L r K := by
  have i4_i := is4 hJ.c125
  have n_i := hJ.n9
  have d0_i := hJ.r4 hJ.c125
  have d2_i := hJ.g4 hJ.c125
  unfold wpX5_readRelay
  unfold wpX5_readRelay_b0
  refine ⟨(hJ).c125, ?_⟩
  refine ⟨fun c0 => ?_, fun c0 => ?_⟩
  · refine s_X9_advance hJ (fun u33 hJ33  hr33 hf33 => ?_)
    have i4_33 := is4 hJ33.c125
    have n_33 := hJ33.n9
    have d0_33 := hJ33.r4 hJ33.c125
    have d2_33 := hJ33.g4 hJ33.c125
    have f4_33 := congrFun (hf33 _ (ne4 (hJ).c125)) 0
    have g4_33 := congrFun (congrFun hr33 12) 5
    refine s_X5_isName hJ33 (fun r37 hb37 => ?_)
    try dsimp only
    refine ⟨fun c1 => ?_, fun c1 => ?_⟩
    · refine s_X5_relayOf hJ33 (fun r68 => ?_)
      try dsimp only
      refine ⟨fun c2 => ?_, fun c2 => ?_⟩
      · refine ⟨(hJ33).c125, ?_⟩
        refine ⟨vI (c := 20) rfl (by first | assumption | omega | grind | (simp only [pt_r] at *; grind) | (simp [pt_r]; grind)) (by first | assumption | omega | grind | (simp only [pt_r] at *; grind) | (simp [pt_r]; grind)), ?_⟩
        refine ⟨(hJ33).c125, ?_⟩
        refine ⟨(hJ33).c125, ?_⟩
        exact hK _ _ (J4_0 (hJ33).c125 (by first | assumption | omega | grind | (simp only [pt_r] at *; grind) | (simp [pt_r]; grind)) (Jf kp13 rfl hJ33))
      · refine s_X9_refuse hJ33 (fun u87 hJ87  hr87 hf87 => ?_)
        have i4_87 := is4 hJ87.c125
        have n_87 := hJ87.n9
        have d0_87 := hJ87.r4 hJ87.c125
        have d2_87 := hJ87.g4 hJ87.c125
        have f4_87 := congrFun (hf87 _ (ne4 (hJ33).c125)) 0
        have g4_87 := congrFun (congrFun hr87 12) 5
        exact hK _ _ hJ87
    · refine s_X9_refuse hJ33 (fun u55 hJ55  hr55 hf55 => ?_)
      have i4_55 := is4 hJ55.c125
      have n_55 := hJ55.n9
      have d0_55 := hJ55.r4 hJ55.c125
      have d2_55 := hJ55.g4 hJ55.c125
      have f4_55 := congrFun (hf55 _ (ne4 (hJ33).c125)) 0
      have g4_55 := congrFun (congrFun hr55 12) 5
      exact hK _ _ hJ55
  · refine s_X9_refuse hJ (fun u24 hJ24  hr24 hf24 => ?_)
    have i4_24 := is4 hJ24.c125
    have n_24 := hJ24.n9
    have d0_24 := hJ24.r4 hJ24.c125
    have d2_24 := hJ24.g4 hJ24.c125
    have f4_24 := congrFun (hf24 _ (ne4 (hJ).c125)) 0
    have g4_24 := congrFun (congrFun hr24 12) 5
    exact hK _ _ hJ24
set_option maxHeartbeats 1000000 in
theorem s_X4_placeOfOutput {x0 : Int32} {K : Int32 → Unit → Prop} (hK : ∀ v : Int32, K v ()) : wpX4_placeOfOutput x0 K := by
  unfold wpX4_placeOfOutput
  unfold wpX4_placeOfOutput_b0
  exact hK _
set_option maxHeartbeats 1000000 in
theorem s_X5_readTarget {F0 : Nat → Nat → Int32} {F : Nat → Nat → Int32} {L : Nat → Nat → Int64} {r : Nat → Nat → Nat} {K : Int32 → cS → Prop} (hJ : J F0 F r) (hK : ∀ v : Int32, ∀ u : cS, J F0 u.1 u.2.2 → K v u) : wpX5_readTarget F L r K := by
  have i4_i := is4 hJ.c125
  have n_i := hJ.n9
  have d0_i := hJ.r4 hJ.c125
  have d2_i := hJ.g4 hJ.c125
  unfold wpX5_readTarget
  unfold wpX5_readTarget_b0
  refine ⟨fun c0 => ?_, fun c0 => ?_⟩
  · refine ⟨fun c1 => ?_, fun c1 => ?_⟩
    · unfold wpX5_readTarget_b27
      refine s_X9_refuse hJ (fun u39 hJ39  hr39 hf39 => ?_)
      have i4_39 := is4 hJ39.c125
      have n_39 := hJ39.n9
      have d0_39 := hJ39.r4 hJ39.c125
      have d2_39 := hJ39.g4 hJ39.c125
      have f4_39 := congrFun (hf39 _ (ne4 (hJ).c125)) 0
      have g4_39 := congrFun (congrFun hr39 12) 5
      exact hK _ _ hJ39
    · refine ⟨fun c2 => ?_, fun c2 => ?_⟩
      · refine ⟨fun c3 => ?_, fun c3 => ?_⟩
        · refine s_X4_placeOfOutput (fun r85 => ?_)
          exact hK _ _ (J5 (by decide) hJ)
        · refine s_X9_refuse hJ (fun u67 hJ67  hr67 hf67 => ?_)
          have i4_67 := is4 hJ67.c125
          have n_67 := hJ67.n9
          have d0_67 := hJ67.r4 hJ67.c125
          have d2_67 := hJ67.g4 hJ67.c125
          have f4_67 := congrFun (hf67 _ (ne4 (hJ).c125)) 0
          have g4_67 := congrFun (congrFun hr67 12) 5
          exact hK _ _ hJ67
      · unfold wpX5_readTarget_b27
        refine s_X9_refuse hJ (fun u39 hJ39  hr39 hf39 => ?_)
        have i4_39 := is4 hJ39.c125
        have n_39 := hJ39.n9
        have d0_39 := hJ39.r4 hJ39.c125
        have d2_39 := hJ39.g4 hJ39.c125
        have f4_39 := congrFun (hf39 _ (ne4 (hJ).c125)) 0
        have g4_39 := congrFun (congrFun hr39 12) 5
        exact hK _ _ hJ39
  · refine s_X5_readRelay hJ (fun r13 u13 hJ13  => ?_)
    have i4_13 := is4 hJ13.c125
    have n_13 := hJ13.n9
    have d0_13 := hJ13.r4 hJ13.c125
    have d2_13 := hJ13.g4 hJ13.c125
    exact hK _ _ hJ13
set_option maxHeartbeats 1000000 in
theorem s_X5_await {F0 : Nat → Nat → Int32} {F : Nat → Nat → Int32} {L : Nat → Nat → Int64} {r : Nat → Nat → Nat} {x1 : Int32} {K : cS → Prop} (hJ : J F0 F r) (hK : ∀ u : cS, J F0 u.1 u.2.2 → K u) : wpX5_await F L r x1 K := by
  have i4_i := is4 hJ.c125
  have n_i := hJ.n9
  have d0_i := hJ.r4 hJ.c125
  have d2_i := hJ.g4 hJ.c125
  unfold wpX5_await
  unfold wpX5_await_b0
  refine ⟨fun c0 => ?_, fun c0 => ?_⟩
  · unfold wpX5_await_b32
    exact hK _ hJ
  · refine ⟨vI (c := 72) rfl (by first | assumption | omega | grind | (simp only [pt_r] at *; grind) | (simp [pt_r]; grind)) (by first | assumption | omega | grind | (simp only [pt_r] at *; grind) | (simp [pt_r]; grind)), ?_⟩
    unfold wpX5_await_b32
    exact hK _ (J5_9 (by first | assumption | omega | grind | (simp only [pt_r] at *; grind) | (simp [pt_r]; grind)) (Jf kp16 rfl hJ))
set_option maxHeartbeats 1000000 in
theorem s_X5_openBracket {F0 : Nat → Nat → Int32} {F : Nat → Nat → Int32} {L : Nat → Nat → Int64} {r : Nat → Nat → Nat} {K : cS → Prop} (hJ : J F0 F r) (hK : ∀ u : cS, J F0 u.1 u.2.2 → K u) : wpX5_openBracket F L r K := by
  have i4_i := is4 hJ.c125
  have n_i := hJ.n9
  have d0_i := hJ.r4 hJ.c125
  have d2_i := hJ.g4 hJ.c125
  unfold wpX5_openBracket
  unfold wpX5_openBracket_b0
  refine ⟨fun c0 => ?_, fun c0 => ?_⟩
  · refine s_X5_await (J5 (by decide) (J5 (by decide) hJ)) (fun u48 hJ48  => ?_)
    have i4_48 := is4 hJ48.c125
    have n_48 := hJ48.n9
    have d0_48 := hJ48.r4 hJ48.c125
    have d2_48 := hJ48.g4 hJ48.c125
    exact hK _ hJ48
  · refine s_X9_refuse hJ (fun u21 hJ21  hr21 hf21 => ?_)
    have i4_21 := is4 hJ21.c125
    have n_21 := hJ21.n9
    have d0_21 := hJ21.r4 hJ21.c125
    have d2_21 := hJ21.g4 hJ21.c125
    have f4_21 := congrFun (hf21 _ (ne4 (hJ).c125)) 0
    have g4_21 := congrFun (congrFun hr21 12) 5
    exact hK _ hJ21
set_option maxHeartbeats 1000000 in
theorem s_X5_countKnot {F0 : Nat → Nat → Int32} {F : Nat → Nat → Int32} {L : Nat → Nat → Int64} {r : Nat → Nat → Nat} {K : Int32 → cS → Prop} (hJ : J F0 F r) (hK : ∀ v : Int32, ∀ u : cS, J F0 u.1 u.2.2 → isB v → K v u) : wpX5_countKnot F L r K := by
  have i4_i := is4 hJ.c125
  have n_i := hJ.n9
  have d0_i := hJ.r4 hJ.c125
  have d2_i := hJ.g4 hJ.c125
  unfold wpX5_countKnot
  unfold wpX5_countKnot_b0
  refine ⟨(hJ).c125, ?_⟩
  refine ⟨fun c0 => ?_, fun c0 => ?_⟩
  · refine ⟨(hJ).c125, ?_⟩
    exact hK _ _ (J4_1 (hJ).c125 hJ) (by first | exact Or.inl rfl | exact Or.inr rfl | assumption)
  · refine s_X9_refuse hJ (fun u24 hJ24  hr24 hf24 => ?_)
    have i4_24 := is4 hJ24.c125
    have n_24 := hJ24.n9
    have d0_24 := hJ24.r4 hJ24.c125
    have d2_24 := hJ24.g4 hJ24.c125
    have f4_24 := congrFun (hf24 _ (ne4 (hJ).c125)) 0
    have g4_24 := congrFun (congrFun hr24 12) 5
    exact hK _ _ hJ24 (by first | exact Or.inl rfl | exact Or.inr rfl | assumption)
set_option maxHeartbeats 1000000 in
theorem s_X4_addCode {F0 : Nat → Nat → Int32} {a0 : Nat} {F : Nat → Nat → Int32} {L : Nat → Nat → Int64} {r : Nat → Nat → Nat} {x1 : Int32} {K : cS → Prop} (hJ : J F0 F r) (ha0 : kd a0 = 4) (hK : ∀ u : cS, J F0 u.1 u.2.2 → u.1 12 = F 12 ∧ u.2.2 = r → K u) : wpX4_addCode a0 F L r x1 K := by
  have i4_i := is4 ha0
  have l0_i := hJ.r4 ha0
  have l2_i := hJ.g4 ha0
  unfold wpX4_addCode
  unfold wpX4_addCode_b0
  refine ⟨fun c0 => ?_, fun c0 => ?_⟩
  · unfold wpX4_addCode_b29
    exact hK _ hJ (by first | exact ⟨rfl, rfl⟩ | (refine ⟨?_, rfl⟩; rcases is4 ha0 with rfl | rfl | rfl <;> simp [pt_ne]))
  · refine ⟨vI (c := 64) rfl (by first | assumption | omega | grind | (simp only [pt_r] at *; grind) | (simp [pt_r]; grind)) (by first | assumption | omega | grind | (simp only [pt_r] at *; grind) | (simp [pt_r]; grind)), ?_⟩
    unfold wpX4_addCode_b29
    exact hK _ (J4_2 ha0 (by first | assumption | omega | grind | (simp only [pt_r] at *; grind) | (simp [pt_r]; grind)) (Jf (kd4_1 ha0) rfl hJ)) (by first | exact ⟨rfl, rfl⟩ | (refine ⟨?_, rfl⟩; rcases is4 ha0 with rfl | rfl | rfl <;> simp [pt_ne]))
set_option maxHeartbeats 1000000 in
theorem s_X5_takeOperand {F0 : Nat → Nat → Int32} {F : Nat → Nat → Int32} {L : Nat → Nat → Int64} {r : Nat → Nat → Nat} {x1 : Int32} {K : cS → Prop} (hJ : J F0 F r) (hK : ∀ u : cS, J F0 u.1 u.2.2 → K u) : wpX5_takeOperand F L r x1 K := by
  have i4_i := is4 hJ.c125
  have n_i := hJ.n9
  have d0_i := hJ.r4 hJ.c125
  have d2_i := hJ.g4 hJ.c125
  unfold wpX5_takeOperand
  unfold wpX5_takeOperand_b0
  refine ⟨(hJ).c125, ?_⟩
  refine ⟨fun c0 => ?_, fun c0 => ?_⟩
  · unfold wpX5_takeOperand_b50
    refine ⟨(hJ).c125, ?_⟩
    refine s_X4_addCode hJ (hJ).c125 (fun u55 hJ55  hu55 => ?_)
    have i4_55 := is4 hJ55.c125
    have n_55 := hJ55.n9
    have d0_55 := hJ55.r4 hJ55.c125
    have d2_55 := hJ55.g4 hJ55.c125
    exact hK _ hJ55
  · refine ⟨(hJ).c125, ?_⟩
    refine ⟨vI (c := 64) rfl (by first | assumption | omega | grind | (simp only [pt_r] at *; grind) | (simp [pt_r]; grind)) (by first | assumption | omega | grind | (simp only [pt_r] at *; grind) | (simp [pt_r]; grind)), ?_⟩
    refine ⟨(hJ).c125, ?_⟩
    refine ⟨vI (c := 64) rfl (by first | assumption | omega | grind | (simp only [pt_r] at *; grind) | (simp [pt_r]; grind)) (by first | assumption | omega | grind | (simp only [pt_r] at *; grind) | (simp [pt_r]; grind)), ?_⟩
    unfold wpX5_takeOperand_b50
    refine ⟨(hJ).c125, ?_⟩
    refine s_X4_addCode (Jf kp15 rfl (Jf kp14 rfl hJ)) (hJ).c125 (fun u55 hJ55  hu55 => ?_)
    have i4_55 := is4 hJ55.c125
    have n_55 := hJ55.n9
    have d0_55 := hJ55.r4 hJ55.c125
    have d2_55 := hJ55.g4 hJ55.c125
    exact hK _ hJ55
set_option maxHeartbeats 1000000 in
theorem s_X5_readOperand {F0 : Nat → Nat → Int32} {F : Nat → Nat → Int32} {L : Nat → Nat → Int64} {r : Nat → Nat → Nat} {K : Int32 → cS → Prop} (hJ : J F0 F r) (hK : ∀ v : Int32, ∀ u : cS, J F0 u.1 u.2.2 → isB v → K v u) : wpX5_readOperand F L r K := by
  have i4_i := is4 hJ.c125
  have n_i := hJ.n9
  have d0_i := hJ.r4 hJ.c125
  have d2_i := hJ.g4 hJ.c125
  unfold wpX5_readOperand
  unfold wpX5_readOperand_b0
  refine s_X9_isSign hJ (fun r14 hb14 => ?_)
  try dsimp only
  refine ⟨fun c0 => ?_, fun c0 => ?_⟩
  · refine ⟨fun c1 => ?_, fun c1 => ?_⟩
    · refine ⟨fun c2 => ?_, fun c2 => ?_⟩
      · unfold wpX5_readOperand_b63
        unfold wpX5_readOperand_b64
        refine ⟨fun c3 => ?_, fun c3 => ?_⟩
        · unfold wpX5_readOperand_b94
          refine s_X5_countKnot hJ (fun r95 u95 hJ95 hb95  => ?_)
          have i4_95 := is4 hJ95.c125
          have n_95 := hJ95.n9
          have d0_95 := hJ95.r4 hJ95.c125
          have d2_95 := hJ95.g4 hJ95.c125
          refine ⟨fun c4 => ?_, fun c4 => ?_⟩
          · unfold wpX5_readOperand_b121
            exact hK _ _ hJ95 (by first | exact Or.inl rfl | exact Or.inr rfl | assumption)
          · refine ⟨fun c5 => ?_, fun c5 => ?_⟩
            · unfold wpX5_readOperand_b118
              refine s_X5_takeOperand hJ95 (fun u118 hJ118  => ?_)
              have i4_118 := is4 hJ118.c125
              have n_118 := hJ118.n9
              have d0_118 := hJ118.r4 hJ118.c125
              have d2_118 := hJ118.g4 hJ118.c125
              unfold wpX5_readOperand_b121
              exact hK _ _ hJ118 (by first | exact Or.inl rfl | exact Or.inr rfl | assumption)
            · unfold wpX5_readOperand_b118
              refine s_X5_takeOperand hJ95 (fun u118 hJ118  => ?_)
              have i4_118 := is4 hJ118.c125
              have n_118 := hJ118.n9
              have d0_118 := hJ118.r4 hJ118.c125
              have d2_118 := hJ118.g4 hJ118.c125
              unfold wpX5_readOperand_b121
              exact hK _ _ hJ118 (by first | exact Or.inl rfl | exact Or.inr rfl | assumption)
        · refine s_X5_isName hJ (fun r70 hb70 => ?_)
          try dsimp only
          refine ⟨fun c4 => ?_, fun c4 => ?_⟩
          · unfold wpX5_readOperand_b94
            refine s_X5_countKnot hJ (fun r95 u95 hJ95 hb95  => ?_)
            have i4_95 := is4 hJ95.c125
            have n_95 := hJ95.n9
            have d0_95 := hJ95.r4 hJ95.c125
            have d2_95 := hJ95.g4 hJ95.c125
            refine ⟨fun c5 => ?_, fun c5 => ?_⟩
            · unfold wpX5_readOperand_b121
              exact hK _ _ hJ95 (by first | exact Or.inl rfl | exact Or.inr rfl | assumption)
            · refine ⟨fun c6 => ?_, fun c6 => ?_⟩
              · unfold wpX5_readOperand_b118
                refine s_X5_takeOperand hJ95 (fun u118 hJ118  => ?_)
                have i4_118 := is4 hJ118.c125
                have n_118 := hJ118.n9
                have d0_118 := hJ118.r4 hJ118.c125
                have d2_118 := hJ118.g4 hJ118.c125
                unfold wpX5_readOperand_b121
                exact hK _ _ hJ118 (by first | exact Or.inl rfl | exact Or.inr rfl | assumption)
              · unfold wpX5_readOperand_b118
                refine s_X5_takeOperand hJ95 (fun u118 hJ118  => ?_)
                have i4_118 := is4 hJ118.c125
                have n_118 := hJ118.n9
                have d0_118 := hJ118.r4 hJ118.c125
                have d2_118 := hJ118.g4 hJ118.c125
                unfold wpX5_readOperand_b121
                exact hK _ _ hJ118 (by first | exact Or.inl rfl | exact Or.inr rfl | assumption)
          · refine s_X9_refuse hJ (fun u88 hJ88  hr88 hf88 => ?_)
            have i4_88 := is4 hJ88.c125
            have n_88 := hJ88.n9
            have d0_88 := hJ88.r4 hJ88.c125
            have d2_88 := hJ88.g4 hJ88.c125
            have f4_88 := congrFun (hf88 _ (ne4 (hJ).c125)) 0
            have g4_88 := congrFun (congrFun hr88 12) 5
            unfold wpX5_readOperand_b121
            exact hK _ _ hJ88 (by first | exact Or.inl rfl | exact Or.inr rfl | assumption)
      · refine ⟨fun c3 => ?_, fun c3 => ?_⟩
        · unfold wpX5_readOperand_b63
          unfold wpX5_readOperand_b64
          refine ⟨fun c4 => ?_, fun c4 => ?_⟩
          · unfold wpX5_readOperand_b94
            refine s_X5_countKnot hJ (fun r95 u95 hJ95 hb95  => ?_)
            have i4_95 := is4 hJ95.c125
            have n_95 := hJ95.n9
            have d0_95 := hJ95.r4 hJ95.c125
            have d2_95 := hJ95.g4 hJ95.c125
            refine ⟨fun c5 => ?_, fun c5 => ?_⟩
            · unfold wpX5_readOperand_b121
              exact hK _ _ hJ95 (by first | exact Or.inl rfl | exact Or.inr rfl | assumption)
            · refine ⟨fun c6 => ?_, fun c6 => ?_⟩
              · unfold wpX5_readOperand_b118
                refine s_X5_takeOperand hJ95 (fun u118 hJ118  => ?_)
                have i4_118 := is4 hJ118.c125
                have n_118 := hJ118.n9
                have d0_118 := hJ118.r4 hJ118.c125
                have d2_118 := hJ118.g4 hJ118.c125
                unfold wpX5_readOperand_b121
                exact hK _ _ hJ118 (by first | exact Or.inl rfl | exact Or.inr rfl | assumption)
              · unfold wpX5_readOperand_b118
                refine s_X5_takeOperand hJ95 (fun u118 hJ118  => ?_)
                have i4_118 := is4 hJ118.c125
                have n_118 := hJ118.n9
                have d0_118 := hJ118.r4 hJ118.c125
                have d2_118 := hJ118.g4 hJ118.c125
                unfold wpX5_readOperand_b121
                exact hK _ _ hJ118 (by first | exact Or.inl rfl | exact Or.inr rfl | assumption)
          · refine s_X5_isName hJ (fun r70 hb70 => ?_)
            try dsimp only
            refine ⟨fun c5 => ?_, fun c5 => ?_⟩
            · unfold wpX5_readOperand_b94
              refine s_X5_countKnot hJ (fun r95 u95 hJ95 hb95  => ?_)
              have i4_95 := is4 hJ95.c125
              have n_95 := hJ95.n9
              have d0_95 := hJ95.r4 hJ95.c125
              have d2_95 := hJ95.g4 hJ95.c125
              refine ⟨fun c6 => ?_, fun c6 => ?_⟩
              · unfold wpX5_readOperand_b121
                exact hK _ _ hJ95 (by first | exact Or.inl rfl | exact Or.inr rfl | assumption)
              · refine ⟨fun c7 => ?_, fun c7 => ?_⟩
                · unfold wpX5_readOperand_b118
                  refine s_X5_takeOperand hJ95 (fun u118 hJ118  => ?_)
                  have i4_118 := is4 hJ118.c125
                  have n_118 := hJ118.n9
                  have d0_118 := hJ118.r4 hJ118.c125
                  have d2_118 := hJ118.g4 hJ118.c125
                  unfold wpX5_readOperand_b121
                  exact hK _ _ hJ118 (by first | exact Or.inl rfl | exact Or.inr rfl | assumption)
                · unfold wpX5_readOperand_b118
                  refine s_X5_takeOperand hJ95 (fun u118 hJ118  => ?_)
                  have i4_118 := is4 hJ118.c125
                  have n_118 := hJ118.n9
                  have d0_118 := hJ118.r4 hJ118.c125
                  have d2_118 := hJ118.g4 hJ118.c125
                  unfold wpX5_readOperand_b121
                  exact hK _ _ hJ118 (by first | exact Or.inl rfl | exact Or.inr rfl | assumption)
            · refine s_X9_refuse hJ (fun u88 hJ88  hr88 hf88 => ?_)
              have i4_88 := is4 hJ88.c125
              have n_88 := hJ88.n9
              have d0_88 := hJ88.r4 hJ88.c125
              have d2_88 := hJ88.g4 hJ88.c125
              have f4_88 := congrFun (hf88 _ (ne4 (hJ).c125)) 0
              have g4_88 := congrFun (congrFun hr88 12) 5
              unfold wpX5_readOperand_b121
              exact hK _ _ hJ88 (by first | exact Or.inl rfl | exact Or.inr rfl | assumption)
        · unfold wpX5_readOperand_b64
          refine ⟨fun c4 => ?_, fun c4 => ?_⟩
          · unfold wpX5_readOperand_b94
            refine s_X5_countKnot hJ (fun r95 u95 hJ95 hb95  => ?_)
            have i4_95 := is4 hJ95.c125
            have n_95 := hJ95.n9
            have d0_95 := hJ95.r4 hJ95.c125
            have d2_95 := hJ95.g4 hJ95.c125
            refine ⟨fun c5 => ?_, fun c5 => ?_⟩
            · unfold wpX5_readOperand_b121
              exact hK _ _ hJ95 (by first | exact Or.inl rfl | exact Or.inr rfl | assumption)
            · refine ⟨fun c6 => ?_, fun c6 => ?_⟩
              · unfold wpX5_readOperand_b118
                refine s_X5_takeOperand hJ95 (fun u118 hJ118  => ?_)
                have i4_118 := is4 hJ118.c125
                have n_118 := hJ118.n9
                have d0_118 := hJ118.r4 hJ118.c125
                have d2_118 := hJ118.g4 hJ118.c125
                unfold wpX5_readOperand_b121
                exact hK _ _ hJ118 (by first | exact Or.inl rfl | exact Or.inr rfl | assumption)
              · unfold wpX5_readOperand_b118
                refine s_X5_takeOperand hJ95 (fun u118 hJ118  => ?_)
                have i4_118 := is4 hJ118.c125
                have n_118 := hJ118.n9
                have d0_118 := hJ118.r4 hJ118.c125
                have d2_118 := hJ118.g4 hJ118.c125
                unfold wpX5_readOperand_b121
                exact hK _ _ hJ118 (by first | exact Or.inl rfl | exact Or.inr rfl | assumption)
          · refine s_X5_isName hJ (fun r70 hb70 => ?_)
            try dsimp only
            refine ⟨fun c5 => ?_, fun c5 => ?_⟩
            · unfold wpX5_readOperand_b94
              refine s_X5_countKnot hJ (fun r95 u95 hJ95 hb95  => ?_)
              have i4_95 := is4 hJ95.c125
              have n_95 := hJ95.n9
              have d0_95 := hJ95.r4 hJ95.c125
              have d2_95 := hJ95.g4 hJ95.c125
              refine ⟨fun c6 => ?_, fun c6 => ?_⟩
              · unfold wpX5_readOperand_b121
                exact hK _ _ hJ95 (by first | exact Or.inl rfl | exact Or.inr rfl | assumption)
              · refine ⟨fun c7 => ?_, fun c7 => ?_⟩
                · unfold wpX5_readOperand_b118
                  refine s_X5_takeOperand hJ95 (fun u118 hJ118  => ?_)
                  have i4_118 := is4 hJ118.c125
                  have n_118 := hJ118.n9
                  have d0_118 := hJ118.r4 hJ118.c125
                  have d2_118 := hJ118.g4 hJ118.c125
                  unfold wpX5_readOperand_b121
                  exact hK _ _ hJ118 (by first | exact Or.inl rfl | exact Or.inr rfl | assumption)
                · unfold wpX5_readOperand_b118
                  refine s_X5_takeOperand hJ95 (fun u118 hJ118  => ?_)
                  have i4_118 := is4 hJ118.c125
                  have n_118 := hJ118.n9
                  have d0_118 := hJ118.r4 hJ118.c125
                  have d2_118 := hJ118.g4 hJ118.c125
                  unfold wpX5_readOperand_b121
                  exact hK _ _ hJ118 (by first | exact Or.inl rfl | exact Or.inr rfl | assumption)
            · refine s_X9_refuse hJ (fun u88 hJ88  hr88 hf88 => ?_)
              have i4_88 := is4 hJ88.c125
              have n_88 := hJ88.n9
              have d0_88 := hJ88.r4 hJ88.c125
              have d2_88 := hJ88.g4 hJ88.c125
              have f4_88 := congrFun (hf88 _ (ne4 (hJ).c125)) 0
              have g4_88 := congrFun (congrFun hr88 12) 5
              unfold wpX5_readOperand_b121
              exact hK _ _ hJ88 (by first | exact Or.inl rfl | exact Or.inr rfl | assumption)
    · refine s_X5_countKnot hJ (fun r33 u33 hJ33 hb33  => ?_)
      have i4_33 := is4 hJ33.c125
      have n_33 := hJ33.n9
      have d0_33 := hJ33.r4 hJ33.c125
      have d2_33 := hJ33.g4 hJ33.c125
      refine ⟨fun c2 => ?_, fun c2 => ?_⟩
      · unfold wpX5_readOperand_b45
        exact hK _ _ hJ33 (by first | exact Or.inl rfl | exact Or.inr rfl | assumption)
      · refine s_X5_await hJ33 (fun u42 hJ42  => ?_)
        have i4_42 := is4 hJ42.c125
        have n_42 := hJ42.n9
        have d0_42 := hJ42.r4 hJ42.c125
        have d2_42 := hJ42.g4 hJ42.c125
        unfold wpX5_readOperand_b45
        exact hK _ _ hJ42 (by first | exact Or.inl rfl | exact Or.inr rfl | assumption)
  · refine s_X5_openBracket hJ (fun u21 hJ21  => ?_)
    have i4_21 := is4 hJ21.c125
    have n_21 := hJ21.n9
    have d0_21 := hJ21.r4 hJ21.c125
    have d2_21 := hJ21.g4 hJ21.c125
    exact hK _ _ hJ21 (by first | exact Or.inl rfl | exact Or.inr rfl | assumption)
