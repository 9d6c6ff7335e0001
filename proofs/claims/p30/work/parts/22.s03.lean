theorem l_X5_joinDownTo_b0 {F0 : Nat → Nat → Int32} {K : cS → Prop} (hK : ∀ u : cS, J F0 u.1 u.2.2 → K u) (n : Nat) : ∀ (F : Nat → Nat → Int32) (L : Nat → Nat → Int64) (r : Nat → Nat → Nat) (x1 : Int32), J F0 F r → md (F 12 9) < n → wpX5_joinDownTo_b0 n F L r x1 K := by
  induction n with
  | zero => intro F L r x1 hJ hm; exact absurd hm (Nat.not_lt_zero _)
  | succ n ih =>
    intro F L r x1 hJ hm
    have n0 := hJ.n9
    unfold wpX5_joinDownTo_b0 wpX5_joinDownTo_b0_body wpX5_joinDownTo_b67
    refine ⟨fun _ => hK _ hJ, fun c => ?_⟩
    have v1 : vp_in (F 12 9 - 1) 72 := vI (c := 72) rfl (by grind) (by grind)
    refine ⟨v1, fun _ => hK _ hJ, fun _ => ⟨v1, fun _ => hK _ hJ, fun _ => ⟨?_, hJ.c125, ?_⟩⟩⟩
    · rw [pt_at, upd_r, if_pos rfl]
      exact v1
    · refine s_X4_addCode (J5_9 (by grind) hJ) hJ.c125 (fun u61 hJ61 hu => ?_)
      refine ih _ _ _ _ hJ61 (lt1 ?_ hm)
      rw [hu.1, pt_at, upd_r, if_pos rfl]
      exact md_1 c
set_option maxHeartbeats 1000000 in
theorem s_X5_joinDownTo {F0 : Nat → Nat → Int32} {F : Nat → Nat → Int32} {L : Nat → Nat → Int64} {r : Nat → Nat → Nat} {x1 : Int32} {K : cS → Prop} (hJ : J F0 F r) (hK : ∀ u : cS, J F0 u.1 u.2.2 → K u) : wpX5_joinDownTo F L r x1 K := by
  have i4_i := is4 hJ.c125
  have n_i := hJ.n9
  have d0_i := hJ.r4 hJ.c125
  have d2_i := hJ.g4 hJ.c125
  unfold wpX5_joinDownTo
  exact ⟨_, l_X5_joinDownTo_b0 hK _ _ _ _ _ hJ (Nat.lt_succ_self _)⟩
set_option maxHeartbeats 1000000 in
theorem s_X5_closeBracket {F0 : Nat → Nat → Int32} {F : Nat → Nat → Int32} {L : Nat → Nat → Int64} {r : Nat → Nat → Nat} {K : cS → Prop} (hJ : J F0 F r) (hK : ∀ u : cS, J F0 u.1 u.2.2 → K u) : wpX5_closeBracket F L r K := by
  have i4_i := is4 hJ.c125
  have n_i := hJ.n9
  have d0_i := hJ.r4 hJ.c125
  have d2_i := hJ.g4 hJ.c125
  unfold wpX5_closeBracket
  unfold wpX5_closeBracket_b0
  refine s_X5_joinDownTo hJ (fun u3 hJ3  => ?_)
  have i4_3 := is4 hJ3.c125
  have n_3 := hJ3.n9
  have d0_3 := hJ3.r4 hJ3.c125
  have d2_3 := hJ3.g4 hJ3.c125
  refine ⟨fun c0 => ?_, fun c0 => ?_⟩
  · unfold wpX5_closeBracket_b33
    exact hK _ (J5 (by decide) hJ3)
  · unfold wpX5_closeBracket_b33
    exact hK _ (J5_9 (by first | assumption | omega | grind | (simp only [pt_r] at *; grind) | (simp [pt_r]; grind)) (J5 (by decide) hJ3))
set_option maxHeartbeats 1000000 in
theorem s_X5_readJoint {F0 : Nat → Nat → Int32} {F : Nat → Nat → Int32} {L : Nat → Nat → Int64} {r : Nat → Nat → Nat} {K : cS → Prop} (hJ : J F0 F r) (hK : ∀ u : cS, J F0 u.1 u.2.2 → K u) : wpX5_readJoint F L r K := by
  have i4_i := is4 hJ.c125
  have n_i := hJ.n9
  have d0_i := hJ.r4 hJ.c125
  have d2_i := hJ.g4 hJ.c125
  unfold wpX5_readJoint
  unfold wpX5_readJoint_b0
  refine ⟨fun c0 => ?_, fun c0 => ?_⟩
  · unfold wpX5_readJoint_b37
    refine s_X5_countKnot hJ (fun r38 u38 hJ38 hb38  => ?_)
    have i4_38 := is4 hJ38.c125
    have n_38 := hJ38.n9
    have d0_38 := hJ38.r4 hJ38.c125
    have d2_38 := hJ38.g4 hJ38.c125
    refine ⟨fun c1 => ?_, fun c1 => ?_⟩
    · unfold wpX5_readJoint_b67
      exact hK _ hJ38
    · refine ⟨fun c2 => ?_, fun c2 => ?_⟩
      · unfold wpX5_readJoint_b56
        refine s_X5_joinDownTo hJ38 (fun u59 hJ59  => ?_)
        have i4_59 := is4 hJ59.c125
        have n_59 := hJ59.n9
        have d0_59 := hJ59.r4 hJ59.c125
        have d2_59 := hJ59.g4 hJ59.c125
        refine s_X5_await hJ59 (fun u64 hJ64  => ?_)
        have i4_64 := is4 hJ64.c125
        have n_64 := hJ64.n9
        have d0_64 := hJ64.r4 hJ64.c125
        have d2_64 := hJ64.g4 hJ64.c125
        unfold wpX5_readJoint_b67
        exact hK _ hJ64
      · unfold wpX5_readJoint_b56
        refine s_X5_joinDownTo hJ38 (fun u59 hJ59  => ?_)
        have i4_59 := is4 hJ59.c125
        have n_59 := hJ59.n9
        have d0_59 := hJ59.r4 hJ59.c125
        have d2_59 := hJ59.g4 hJ59.c125
        refine s_X5_await hJ59 (fun u64 hJ64  => ?_)
        have i4_64 := is4 hJ64.c125
        have n_64 := hJ64.n9
        have d0_64 := hJ64.r4 hJ64.c125
        have d2_64 := hJ64.g4 hJ64.c125
        unfold wpX5_readJoint_b67
        exact hK _ hJ64
  · refine ⟨fun c1 => ?_, fun c1 => ?_⟩
    · unfold wpX5_readJoint_b37
      refine s_X5_countKnot hJ (fun r38 u38 hJ38 hb38  => ?_)
      have i4_38 := is4 hJ38.c125
      have n_38 := hJ38.n9
      have d0_38 := hJ38.r4 hJ38.c125
      have d2_38 := hJ38.g4 hJ38.c125
      refine ⟨fun c2 => ?_, fun c2 => ?_⟩
      · unfold wpX5_readJoint_b67
        exact hK _ hJ38
      · refine ⟨fun c3 => ?_, fun c3 => ?_⟩
        · unfold wpX5_readJoint_b56
          refine s_X5_joinDownTo hJ38 (fun u59 hJ59  => ?_)
          have i4_59 := is4 hJ59.c125
          have n_59 := hJ59.n9
          have d0_59 := hJ59.r4 hJ59.c125
          have d2_59 := hJ59.g4 hJ59.c125
          refine s_X5_await hJ59 (fun u64 hJ64  => ?_)
          have i4_64 := is4 hJ64.c125
          have n_64 := hJ64.n9
          have d0_64 := hJ64.r4 hJ64.c125
          have d2_64 := hJ64.g4 hJ64.c125
          unfold wpX5_readJoint_b67
          exact hK _ hJ64
        · unfold wpX5_readJoint_b56
          refine s_X5_joinDownTo hJ38 (fun u59 hJ59  => ?_)
          have i4_59 := is4 hJ59.c125
          have n_59 := hJ59.n9
          have d0_59 := hJ59.r4 hJ59.c125
          have d2_59 := hJ59.g4 hJ59.c125
          refine s_X5_await hJ59 (fun u64 hJ64  => ?_)
          have i4_64 := is4 hJ64.c125
          have n_64 := hJ64.n9
          have d0_64 := hJ64.r4 hJ64.c125
          have d2_64 := hJ64.g4 hJ64.c125
          unfold wpX5_readJoint_b67
          exact hK _ hJ64
    · refine s_X9_refuse hJ (fun u31 hJ31  hr31 hf31 => ?_)
      have i4_31 := is4 hJ31.c125
      have n_31 := hJ31.n9
      have d0_31 := hJ31.r4 hJ31.c125
      have d2_31 := hJ31.g4 hJ31.c125
      have f4_31 := congrFun (hf31 _ (ne4 (hJ).c125)) 0
      have g4_31 := congrFun (congrFun hr31 12) 5
      unfold wpX5_readJoint_b67
      exact hK _ hJ31
set_option maxHeartbeats 1000000 in
theorem l_X5_readExpression_b14 {F0 : Nat → Nat → Int32} {K : cS → Prop} (hK : ∀ u : cS, J F0 u.1 u.2.2 → K u) (n : Nat) : ∀ (F : Nat → Nat → Int32) (L : Nat → Nat → Int64) (r : Nat → Nat → Nat) (x1 : Int32) (x2 : Int32), J F0 F r → 0 ≤ x2 → mu (x2) < n → wpX5_readExpression_b14 n F L r x1 x2 K := by
  induction n with
  | zero => intro F L r x1 x2 hJ hi0 hm; exact absurd hm (Nat.not_lt_zero _)
  | succ n ih =>
    intro F L r x1 x2 hJ hi0 hm
    have i4_i := is4 hJ.c125
    have n_i := hJ.n9
    have d0_i := hJ.r4 hJ.c125
    have d2_i := hJ.g4 hJ.c125
    unfold wpX5_readExpression_b14 wpX5_readExpression_b14_body
    refine ⟨fun c0 => ?_, fun c0 => ?_⟩
    · unfold wpX5_readExpression_b124
      exact hK _ hJ
    · refine ⟨fun c1 => ?_, fun c1 => ?_⟩
      · unfold wpX5_readExpression_b124
        exact hK _ hJ
      · refine ⟨fun c2 => ?_, fun c2 => ?_⟩
        · refine ⟨fun c3 => ?_, fun c3 => ?_⟩
          · unfold wpX5_readExpression_b69
            refine ⟨fun c4 => ?_, fun c4 => ?_⟩
            · unfold wpX5_readExpression_b95
              refine s_X5_readJoint hJ (fun u96 hJ96  => ?_)
              have i4_96 := is4 hJ96.c125
              have n_96 := hJ96.n9
              have d0_96 := hJ96.r4 hJ96.c125
              have d2_96 := hJ96.g4 hJ96.c125
              unfold wpX5_readExpression_b101
              refine ⟨fun c5 => ?_, fun c5 => ?_⟩
              · unfold wpX5_readExpression_b118
                exact ih _ _ _ _ _ hJ96 (by first | assumption | omega | grind | (simp only [pt_r] at *; grind) | (simp [pt_r]; grind)) (lt1 (mu_le c0 (by first | decide | grind)) hm)
              · refine s_X9_advance hJ96 (fun u115 hJ115  hr115 hf115 => ?_)
                have i4_115 := is4 hJ115.c125
                have n_115 := hJ115.n9
                have d0_115 := hJ115.r4 hJ115.c125
                have d2_115 := hJ115.g4 hJ115.c125
                have f4_115 := congrFun (hf115 _ (ne4 (hJ96).c125)) 0
                have g4_115 := congrFun (congrFun hr115 12) 5
                unfold wpX5_readExpression_b118
                exact ih _ _ _ _ _ hJ115 (by first | assumption | omega | grind | (simp only [pt_r] at *; grind) | (simp [pt_r]; grind)) (lt1 (mu_le c0 (by first | decide | grind)) hm)
            · refine s_X9_isSign hJ (fun r82 hb82 => ?_)
              try dsimp only
              refine ⟨fun c5 => ?_, fun c5 => ?_⟩
              · unfold wpX5_readExpression_b95
                refine s_X5_readJoint hJ (fun u96 hJ96  => ?_)
                have i4_96 := is4 hJ96.c125
                have n_96 := hJ96.n9
                have d0_96 := hJ96.r4 hJ96.c125
                have d2_96 := hJ96.g4 hJ96.c125
                unfold wpX5_readExpression_b101
                refine ⟨fun c6 => ?_, fun c6 => ?_⟩
                · unfold wpX5_readExpression_b118
                  exact ih _ _ _ _ _ hJ96 (by first | assumption | omega | grind | (simp only [pt_r] at *; grind) | (simp [pt_r]; grind)) (lt1 (mu_le c0 (by first | decide | grind)) hm)
                · refine s_X9_advance hJ96 (fun u115 hJ115  hr115 hf115 => ?_)
                  have i4_115 := is4 hJ115.c125
                  have n_115 := hJ115.n9
                  have d0_115 := hJ115.r4 hJ115.c125
                  have d2_115 := hJ115.g4 hJ115.c125
                  have f4_115 := congrFun (hf115 _ (ne4 (hJ96).c125)) 0
                  have g4_115 := congrFun (congrFun hr115 12) 5
                  unfold wpX5_readExpression_b118
                  exact ih _ _ _ _ _ hJ115 (by first | assumption | omega | grind | (simp only [pt_r] at *; grind) | (simp [pt_r]; grind)) (lt1 (mu_le c0 (by first | decide | grind)) hm)
              · refine s_X5_closeBracket hJ (fun u89 hJ89  => ?_)
                have i4_89 := is4 hJ89.c125
                have n_89 := hJ89.n9
                have d0_89 := hJ89.r4 hJ89.c125
                have d2_89 := hJ89.g4 hJ89.c125
                unfold wpX5_readExpression_b101
                refine ⟨fun c6 => ?_, fun c6 => ?_⟩
                · unfold wpX5_readExpression_b118
                  exact ih _ _ _ _ _ hJ89 (by first | assumption | omega | grind | (simp only [pt_r] at *; grind) | (simp [pt_r]; grind)) (lt1 (mu_le c0 (by first | decide | grind)) hm)
                · refine s_X9_advance hJ89 (fun u115 hJ115  hr115 hf115 => ?_)
                  have i4_115 := is4 hJ115.c125
                  have n_115 := hJ115.n9
                  have d0_115 := hJ115.r4 hJ115.c125
                  have d2_115 := hJ115.g4 hJ115.c125
                  have f4_115 := congrFun (hf115 _ (ne4 (hJ89).c125)) 0
                  have g4_115 := congrFun (congrFun hr115 12) 5
                  unfold wpX5_readExpression_b118
                  exact ih _ _ _ _ _ hJ115 (by first | assumption | omega | grind | (simp only [pt_r] at *; grind) | (simp [pt_r]; grind)) (lt1 (mu_le c0 (by first | decide | grind)) hm)
          · refine s_X9_isSign hJ (fun r56 hb56 => ?_)
            try dsimp only
            refine ⟨fun c4 => ?_, fun c4 => ?_⟩
            · unfold wpX5_readExpression_b69
              refine ⟨fun c5 => ?_, fun c5 => ?_⟩
              · unfold wpX5_readExpression_b95
                refine s_X5_readJoint hJ (fun u96 hJ96  => ?_)
                have i4_96 := is4 hJ96.c125
                have n_96 := hJ96.n9
                have d0_96 := hJ96.r4 hJ96.c125
                have d2_96 := hJ96.g4 hJ96.c125
                unfold wpX5_readExpression_b101
                refine ⟨fun c6 => ?_, fun c6 => ?_⟩
                · unfold wpX5_readExpression_b118
                  exact ih _ _ _ _ _ hJ96 (by first | assumption | omega | grind | (simp only [pt_r] at *; grind) | (simp [pt_r]; grind)) (lt1 (mu_le c0 (by first | decide | grind)) hm)
                · refine s_X9_advance hJ96 (fun u115 hJ115  hr115 hf115 => ?_)
                  have i4_115 := is4 hJ115.c125
                  have n_115 := hJ115.n9
                  have d0_115 := hJ115.r4 hJ115.c125
                  have d2_115 := hJ115.g4 hJ115.c125
                  have f4_115 := congrFun (hf115 _ (ne4 (hJ96).c125)) 0
                  have g4_115 := congrFun (congrFun hr115 12) 5
                  unfold wpX5_readExpression_b118
                  exact ih _ _ _ _ _ hJ115 (by first | assumption | omega | grind | (simp only [pt_r] at *; grind) | (simp [pt_r]; grind)) (lt1 (mu_le c0 (by first | decide | grind)) hm)
              · refine s_X9_isSign hJ (fun r82 hb82 => ?_)
                try dsimp only
                refine ⟨fun c6 => ?_, fun c6 => ?_⟩
                · unfold wpX5_readExpression_b95
                  refine s_X5_readJoint hJ (fun u96 hJ96  => ?_)
                  have i4_96 := is4 hJ96.c125
                  have n_96 := hJ96.n9
                  have d0_96 := hJ96.r4 hJ96.c125
                  have d2_96 := hJ96.g4 hJ96.c125
                  unfold wpX5_readExpression_b101
                  refine ⟨fun c7 => ?_, fun c7 => ?_⟩
                  · unfold wpX5_readExpression_b118
                    exact ih _ _ _ _ _ hJ96 (by first | assumption | omega | grind | (simp only [pt_r] at *; grind) | (simp [pt_r]; grind)) (lt1 (mu_le c0 (by first | decide | grind)) hm)
                  · refine s_X9_advance hJ96 (fun u115 hJ115  hr115 hf115 => ?_)
                    have i4_115 := is4 hJ115.c125
                    have n_115 := hJ115.n9
                    have d0_115 := hJ115.r4 hJ115.c125
                    have d2_115 := hJ115.g4 hJ115.c125
                    have f4_115 := congrFun (hf115 _ (ne4 (hJ96).c125)) 0
                    have g4_115 := congrFun (congrFun hr115 12) 5
                    unfold wpX5_readExpression_b118
                    exact ih _ _ _ _ _ hJ115 (by first | assumption | omega | grind | (simp only [pt_r] at *; grind) | (simp [pt_r]; grind)) (lt1 (mu_le c0 (by first | decide | grind)) hm)
                · refine s_X5_closeBracket hJ (fun u89 hJ89  => ?_)
                  have i4_89 := is4 hJ89.c125
                  have n_89 := hJ89.n9
                  have d0_89 := hJ89.r4 hJ89.c125
                  have d2_89 := hJ89.g4 hJ89.c125
                  unfold wpX5_readExpression_b101
                  refine ⟨fun c7 => ?_, fun c7 => ?_⟩
                  · unfold wpX5_readExpression_b118
                    exact ih _ _ _ _ _ hJ89 (by first | assumption | omega | grind | (simp only [pt_r] at *; grind) | (simp [pt_r]; grind)) (lt1 (mu_le c0 (by first | decide | grind)) hm)
                  · refine s_X9_advance hJ89 (fun u115 hJ115  hr115 hf115 => ?_)
                    have i4_115 := is4 hJ115.c125
                    have n_115 := hJ115.n9
                    have d0_115 := hJ115.r4 hJ115.c125
                    have d2_115 := hJ115.g4 hJ115.c125
                    have f4_115 := congrFun (hf115 _ (ne4 (hJ89).c125)) 0
                    have g4_115 := congrFun (congrFun hr115 12) 5
                    unfold wpX5_readExpression_b118
                    exact ih _ _ _ _ _ hJ115 (by first | assumption | omega | grind | (simp only [pt_r] at *; grind) | (simp [pt_r]; grind)) (lt1 (mu_le c0 (by first | decide | grind)) hm)
            · refine s_X5_joinDownTo hJ (fun u65 hJ65  => ?_)
              have i4_65 := is4 hJ65.c125
              have n_65 := hJ65.n9
              have d0_65 := hJ65.r4 hJ65.c125
              have d2_65 := hJ65.g4 hJ65.c125
              exact hK _ hJ65
        · refine s_X5_readOperand hJ (fun r36 u36 hJ36 hb36  => ?_)
          have i4_36 := is4 hJ36.c125
          have n_36 := hJ36.n9
          have d0_36 := hJ36.r4 hJ36.c125
          have d2_36 := hJ36.g4 hJ36.c125
          unfold wpX5_readExpression_b101
          refine ⟨fun c3 => ?_, fun c3 => ?_⟩
          · unfold wpX5_readExpression_b118
            exact ih _ _ _ _ _ hJ36 (by first | assumption | omega | grind | (simp only [pt_r] at *; grind) | (simp [pt_r]; grind)) (lt1 (mu_le c0 (by first | decide | grind)) hm)
          · refine s_X9_advance hJ36 (fun u115 hJ115  hr115 hf115 => ?_)
            have i4_115 := is4 hJ115.c125
            have n_115 := hJ115.n9
            have d0_115 := hJ115.r4 hJ115.c125
            have d2_115 := hJ115.g4 hJ115.c125
            have f4_115 := congrFun (hf115 _ (ne4 (hJ36).c125)) 0
            have g4_115 := congrFun (congrFun hr115 12) 5
            unfold wpX5_readExpression_b118
            exact ih _ _ _ _ _ hJ115 (by first | assumption | omega | grind | (simp only [pt_r] at *; grind) | (simp [pt_r]; grind)) (lt1 (mu_le c0 (by first | decide | grind)) hm)
set_option maxHeartbeats 1000000 in
theorem s_X5_readExpression {F0 : Nat → Nat → Int32} {F : Nat → Nat → Int32} {L : Nat → Nat → Int64} {r : Nat → Nat → Nat} {K : cS → Prop} (hJ : J F0 F r) (hK : ∀ u : cS, J F0 u.1 u.2.2 → K u) : wpX5_readExpression F L r K := by
  have i4_i := is4 hJ.c125
  have n_i := hJ.n9
  have d0_i := hJ.r4 hJ.c125
  have d2_i := hJ.g4 hJ.c125
  unfold wpX5_readExpression
  unfold wpX5_readExpression_b0
  exact ⟨_, l_X5_readExpression_b14 hK _ _ _ _ _ _ (J5_9 (by first | assumption | omega | grind | (simp only [pt_r] at *; grind) | (simp [pt_r]; grind)) (J5 (by decide) hJ)) (by first | assumption | omega | grind | (simp only [pt_r] at *; grind) | (simp [pt_r]; grind)) (Nat.lt_succ_self _)⟩
set_option maxHeartbeats 1000000 in
theorem s_X5_readLine {F0 : Nat → Nat → Int32} {F : Nat → Nat → Int32} {L : Nat → Nat → Int64} {r : Nat → Nat → Nat} {K : cS → Prop} (hJ : J F0 F r) (hK : ∀ u : cS, J F0 u.1 u.2.2 → K u) : wpX5_readLine F L r K := by
  have i4_i := is4 hJ.c125
  have n_i := hJ.n9
  have d0_i := hJ.r4 hJ.c125
  have d2_i := hJ.g4 hJ.c125
  unfold wpX5_readLine
  unfold wpX5_readLine_b0
  refine s_X5_readTarget hJ (fun r1 u1 hJ1  => ?_)
  have i4_1 := is4 hJ1.c125
  have n_1 := hJ1.n9
  have d0_1 := hJ1.r4 hJ1.c125
  have d2_1 := hJ1.g4 hJ1.c125
  refine ⟨fun c0 => ?_, fun c0 => ?_⟩
  · unfold wpX5_readLine_b31
    exact hK _ hJ1
  · refine ⟨fun c1 => ?_, fun c1 => ?_⟩
    · unfold wpX5_readLine_b31
      exact hK _ hJ1
    · refine ⟨(hJ1).c125, ?_⟩
      refine ⟨fun c2 => ?_, fun c2 => ?_⟩
      · refine s_X9_advance hJ1 (fun u36 hJ36  hr36 hf36 => ?_)
        have i4_36 := is4 hJ36.c125
        have n_36 := hJ36.n9
        have d0_36 := hJ36.r4 hJ36.c125
        have d2_36 := hJ36.g4 hJ36.c125
        have f4_36 := congrFun (hf36 _ (ne4 (hJ1).c125)) 0
        have g4_36 := congrFun (congrFun hr36 12) 5
        refine s_X9_isSign hJ36 (fun r45 hb45 => ?_)
        try dsimp only
        refine ⟨fun c3 => ?_, fun c3 => ?_⟩
        · refine s_X9_advance hJ36 (fun u71 hJ71  hr71 hf71 => ?_)
          have i4_71 := is4 hJ71.c125
          have n_71 := hJ71.n9
          have d0_71 := hJ71.r4 hJ71.c125
          have d2_71 := hJ71.g4 hJ71.c125
          have f4_71 := congrFun (hf71 _ (ne4 (hJ36).c125)) 0
          have g4_71 := congrFun (congrFun hr71 12) 5
          refine ⟨(hJ71).c125, ?_⟩
          refine ⟨(hJ71).c125, ?_⟩
          refine ⟨vI (c := 24) rfl (by first | assumption | omega | grind | (simp only [pt_r] at *; grind) | (simp [pt_r]; grind)) (by first | assumption | omega | grind | (simp only [pt_r] at *; grind) | (simp [pt_r]; grind)), ?_⟩
          refine s_X5_readExpression (J21 (hJ71).c125 (k := 2) (by decide) (by first | assumption | omega | grind | (simp only [pt_r] at *; grind) | (simp [pt_r]; grind)) hJ71) (fun u91 hJ91  => ?_)
          have i4_91 := is4 hJ91.c125
          have n_91 := hJ91.n9
          have d0_91 := hJ91.r4 hJ91.c125
          have d2_91 := hJ91.g4 hJ91.c125
          refine ⟨(hJ91).c125, ?_⟩
          refine ⟨(hJ91).c125, ?_⟩
          refine ⟨vI (c := 24) rfl (by first | assumption | omega | grind | (simp only [pt_r] at *; grind) | (simp [pt_r]; grind)) (by first | assumption | omega | grind | (simp only [pt_r] at *; grind) | (simp [pt_r]; grind)), ?_⟩
          refine ⟨fun c4 => ?_, fun c4 => ?_⟩
          · unfold wpX5_readLine_b127
            exact hK _ (J21 (hJ91).c125 (k := 3) (by decide) (by first | assumption | omega | grind | (simp only [pt_r] at *; grind) | (simp [pt_r]; grind)) hJ91)
          · refine s_X9_advance (J21 (hJ91).c125 (k := 3) (by decide) (by first | assumption | omega | grind | (simp only [pt_r] at *; grind) | (simp [pt_r]; grind)) hJ91) (fun u124 hJ124  hr124 hf124 => ?_)
            have i4_124 := is4 hJ124.c125
            have n_124 := hJ124.n9
            have d0_124 := hJ124.r4 hJ124.c125
            have d2_124 := hJ124.g4 hJ124.c125
            have f4_124 := congrFun (hf124 _ (ne4 (hJ91).c125)) 0
            have g4_124 := congrFun (congrFun hr124 12) 5
            unfold wpX5_readLine_b127
            exact hK _ hJ124
        · refine s_X9_refuse hJ36 (fun u63 hJ63  hr63 hf63 => ?_)
          have i4_63 := is4 hJ63.c125
          have n_63 := hJ63.n9
          have d0_63 := hJ63.r4 hJ63.c125
          have d2_63 := hJ63.g4 hJ63.c125
          have f4_63 := congrFun (hf63 _ (ne4 (hJ36).c125)) 0
          have g4_63 := congrFun (congrFun hr63 12) 5
          exact hK _ hJ63
      · unfold wpX5_readLine_b31
        exact hK _ hJ1
set_option maxHeartbeats 1000000 in
theorem l_X5_findNames_b2 {F0 : Nat → Nat → Int32} {K : cS → Prop} (hK : ∀ u : cS, J F0 u.1 u.2.2 → K u) (n : Nat) : ∀ (F : Nat → Nat → Int32) (L : Nat → Nat → Int64) (r : Nat → Nat → Nat) (x1 : Int32), J F0 F r → 0 ≤ x1 → mu (x1) < n → wpX5_findNames_b2 n F L r x1 K := by
  induction n with
  | zero => intro F L r x1 hJ hi0 hm; exact absurd hm (Nat.not_lt_zero _)
  | succ n ih =>
    intro F L r x1 hJ hi0 hm
    have i4_i := is4 hJ.c125
    have n_i := hJ.n9
    have d0_i := hJ.r4 hJ.c125
    have d2_i := hJ.g4 hJ.c125
    unfold wpX5_findNames_b2 wpX5_findNames_b2_body
    refine ⟨(hJ).c125, ?_⟩
    refine ⟨fun c0 => ?_, fun c0 => ?_⟩
    · unfold wpX5_findNames_b86
      exact hK _ hJ
    · refine ⟨fun c1 => ?_, fun c1 => ?_⟩
      · unfold wpX5_findNames_b86
        exact hK _ hJ
      · refine ⟨(hJ).c125, ?_⟩
        refine ⟨vI (c := 64) rfl (by first | assumption | omega | grind | (simp only [pt_r] at *; grind) | (simp [pt_r]; grind)) (by first | assumption | omega | grind | (simp only [pt_r] at *; grind) | (simp [pt_r]; grind)), ?_⟩
        refine ⟨fun c2 => ?_, fun c2 => ?_⟩
        · unfold wpX5_findNames_b80
          exact ih _ _ _ _ hJ (by first | assumption | omega | grind | (simp only [pt_r] at *; grind) | (simp [pt_r]; grind)) (lt1 (mu_lt c0) hm)
        · refine ⟨vI (c := 64) rfl (by first | assumption | omega | grind | (simp only [pt_r] at *; grind) | (simp [pt_r]; grind)) (by first | assumption | omega | grind | (simp only [pt_r] at *; grind) | (simp [pt_r]; grind)), ?_⟩
          refine s_X5_relayOf hJ (fun r44 => ?_)
          try dsimp only
          refine ⟨fun c3 => ?_, fun c3 => ?_⟩
          · refine ⟨(hJ).c125, ?_⟩
            refine ⟨vI (c := 64) rfl (by first | assumption | omega | grind | (simp only [pt_r] at *; grind) | (simp [pt_r]; grind)) (by first | assumption | omega | grind | (simp only [pt_r] at *; grind) | (simp [pt_r]; grind)), ?_⟩
            unfold wpX5_findNames_b80
            exact ih _ _ _ _ (Jf (kd4_1 (hJ).c125) rfl hJ) (by first | assumption | omega | grind | (simp only [pt_r] at *; grind) | (simp [pt_r]; grind)) (lt1 (mu_lt c0) hm)
          · refine ⟨vI (c := 64) rfl (by first | assumption | omega | grind | (simp only [pt_r] at *; grind) | (simp [pt_r]; grind)) (by first | assumption | omega | grind | (simp only [pt_r] at *; grind) | (simp [pt_r]; grind)), ?_⟩
            refine s_X9_refuse hJ (fun u64 hJ64  hr64 hf64 => ?_)
            have i4_64 := is4 hJ64.c125
            have n_64 := hJ64.n9
            have d0_64 := hJ64.r4 hJ64.c125
            have d2_64 := hJ64.g4 hJ64.c125
            have f4_64 := congrFun (hf64 _ (ne4 (hJ).c125)) 0
            have g4_64 := congrFun (congrFun hr64 12) 5
            unfold wpX5_findNames_b80
            exact ih _ _ _ _ hJ64 (by first | assumption | omega | grind | (simp only [pt_r] at *; grind) | (simp [pt_r]; grind)) (lt1 (mu_lt c0) hm)
set_option maxHeartbeats 1000000 in
theorem s_X5_findNames {F0 : Nat → Nat → Int32} {F : Nat → Nat → Int32} {L : Nat → Nat → Int64} {r : Nat → Nat → Nat} {K : cS → Prop} (hJ : J F0 F r) (hK : ∀ u : cS, J F0 u.1 u.2.2 → K u) : wpX5_findNames F L r K := by
  have i4_i := is4 hJ.c125
  have n_i := hJ.n9
  have d0_i := hJ.r4 hJ.c125
  have d2_i := hJ.g4 hJ.c125
  unfold wpX5_findNames
  unfold wpX5_findNames_b0
  exact ⟨_, l_X5_findNames_b2 hK _ _ _ _ _ hJ (by first | assumption | omega | grind | (simp only [pt_r] at *; grind) | (simp [pt_r]; grind)) (Nat.lt_succ_self _)⟩
set_option maxHeartbeats 1000000 in
theorem l_X5_read_b29 {F0 : Nat → Nat → Int32} {K : Int32 → cS → Prop} (hK : ∀ v : Int32, ∀ u : cS, J F0 u.1 u.2.2 → isB v → K v u) (n : Nat) : ∀ (F : Nat → Nat → Int32) (L : Nat → Nat → Int64) (r : Nat → Nat → Nat) (x2 : Int32), J F0 F r → 0 ≤ x2 → mu (x2) < n → wpX5_read_b29 n F L r x2 K := by
  induction n with
  | zero => intro F L r x2 hJ hi0 hm; exact absurd hm (Nat.not_lt_zero _)
  | succ n ih =>
    intro F L r x2 hJ hi0 hm
    have i4_i := is4 hJ.c125
    have n_i := hJ.n9
    have d0_i := hJ.r4 hJ.c125
    have d2_i := hJ.g4 hJ.c125
    unfold wpX5_read_b29 wpX5_read_b29_body
    refine ⟨fun c0 => ?_, fun c0 => ?_⟩
    · unfold wpX5_read_b66
      refine ⟨fun c1 => ?_, fun c1 => ?_⟩
      · unfold wpX5_read_b80
        refine ⟨fun c2 => ?_, fun c2 => ?_⟩
        · unfold wpX5_read_b95
          refine ⟨(by first | exact Or.inl rfl | exact Or.inr rfl | assumption), ?_⟩
          exact hK _ _ hJ (by first | exact Or.inl rfl | exact Or.inr rfl | assumption)
        · unfold wpX5_read_b95
          refine ⟨(by first | exact Or.inl rfl | exact Or.inr rfl | assumption), ?_⟩
          exact hK _ _ hJ (by first | exact Or.inl rfl | exact Or.inr rfl | assumption)
      · refine s_X5_findNames hJ (fun u77 hJ77  => ?_)
        have i4_77 := is4 hJ77.c125
        have n_77 := hJ77.n9
        have d0_77 := hJ77.r4 hJ77.c125
        have d2_77 := hJ77.g4 hJ77.c125
        unfold wpX5_read_b80
        refine ⟨fun c2 => ?_, fun c2 => ?_⟩
        · unfold wpX5_read_b95
          refine ⟨(by first | exact Or.inl rfl | exact Or.inr rfl | assumption), ?_⟩
          exact hK _ _ hJ77 (by first | exact Or.inl rfl | exact Or.inr rfl | assumption)
        · unfold wpX5_read_b95
          refine ⟨(by first | exact Or.inl rfl | exact Or.inr rfl | assumption), ?_⟩
          exact hK _ _ hJ77 (by first | exact Or.inl rfl | exact Or.inr rfl | assumption)
    · refine ⟨fun c1 => ?_, fun c1 => ?_⟩
      · unfold wpX5_read_b66
        refine ⟨fun c2 => ?_, fun c2 => ?_⟩
        · unfold wpX5_read_b80
          refine ⟨fun c3 => ?_, fun c3 => ?_⟩
          · unfold wpX5_read_b95
            refine ⟨(by first | exact Or.inl rfl | exact Or.inr rfl | assumption), ?_⟩
            exact hK _ _ hJ (by first | exact Or.inl rfl | exact Or.inr rfl | assumption)
          · unfold wpX5_read_b95
            refine ⟨(by first | exact Or.inl rfl | exact Or.inr rfl | assumption), ?_⟩
            exact hK _ _ hJ (by first | exact Or.inl rfl | exact Or.inr rfl | assumption)
        · refine s_X5_findNames hJ (fun u77 hJ77  => ?_)
          have i4_77 := is4 hJ77.c125
          have n_77 := hJ77.n9
          have d0_77 := hJ77.r4 hJ77.c125
          have d2_77 := hJ77.g4 hJ77.c125
          unfold wpX5_read_b80
          refine ⟨fun c3 => ?_, fun c3 => ?_⟩
          · unfold wpX5_read_b95
            refine ⟨(by first | exact Or.inl rfl | exact Or.inr rfl | assumption), ?_⟩
            exact hK _ _ hJ77 (by first | exact Or.inl rfl | exact Or.inr rfl | assumption)
          · unfold wpX5_read_b95
            refine ⟨(by first | exact Or.inl rfl | exact Or.inr rfl | assumption), ?_⟩
            exact hK _ _ hJ77 (by first | exact Or.inl rfl | exact Or.inr rfl | assumption)
      · refine ⟨fun c2 => ?_, fun c2 => ?_⟩
        · unfold wpX5_read_b66
          refine ⟨fun c3 => ?_, fun c3 => ?_⟩
          · unfold wpX5_read_b80
            refine ⟨fun c4 => ?_, fun c4 => ?_⟩
            · unfold wpX5_read_b95
              refine ⟨(by first | exact Or.inl rfl | exact Or.inr rfl | assumption), ?_⟩
              exact hK _ _ hJ (by first | exact Or.inl rfl | exact Or.inr rfl | assumption)
            · unfold wpX5_read_b95
              refine ⟨(by first | exact Or.inl rfl | exact Or.inr rfl | assumption), ?_⟩
              exact hK _ _ hJ (by first | exact Or.inl rfl | exact Or.inr rfl | assumption)
          · refine s_X5_findNames hJ (fun u77 hJ77  => ?_)
            have i4_77 := is4 hJ77.c125
            have n_77 := hJ77.n9
            have d0_77 := hJ77.r4 hJ77.c125
            have d2_77 := hJ77.g4 hJ77.c125
            unfold wpX5_read_b80
            refine ⟨fun c4 => ?_, fun c4 => ?_⟩
            · unfold wpX5_read_b95
              refine ⟨(by first | exact Or.inl rfl | exact Or.inr rfl | assumption), ?_⟩
              exact hK _ _ hJ77 (by first | exact Or.inl rfl | exact Or.inr rfl | assumption)
            · unfold wpX5_read_b95
              refine ⟨(by first | exact Or.inl rfl | exact Or.inr rfl | assumption), ?_⟩
              exact hK _ _ hJ77 (by first | exact Or.inl rfl | exact Or.inr rfl | assumption)
        · refine s_X5_readLine hJ (fun u57 hJ57  => ?_)
          have i4_57 := is4 hJ57.c125
          have n_57 := hJ57.n9
          have d0_57 := hJ57.r4 hJ57.c125
          have d2_57 := hJ57.g4 hJ57.c125
          exact ih _ _ _ _ hJ57 (by first | assumption | omega | grind | (simp only [pt_r] at *; grind) | (simp [pt_r]; grind)) (lt1 (mu_le c0 (by first | decide | grind)) hm)
