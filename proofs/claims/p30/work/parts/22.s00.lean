set_option maxHeartbeats 1000000 in
theorem l_X1_clearWalls_b2 {F0 : Nat → Nat → Int32} {a0 : Nat} {F : Nat → Nat → Int32} {r : Nat → Nat → Nat} {K : cS → Prop} (hJ : J F0 F r) (ha0 : kd a0 = 1) (hK : ∀ L' : Nat → Nat → Int64, K (F, L', r)) (n : Nat) : ∀ (L : Nat → Nat → Int64) (x1 : Int32), 0 ≤ x1 → mu (x1) < n → wpX1_clearWalls_b2 a0 n F L r x1 K := by
  induction n with
  | zero => intro L x1 hi0 hm; exact absurd hm (Nat.not_lt_zero _)
  | succ n ih =>
    intro L x1 hi0 hm
    unfold wpX1_clearWalls_b2 wpX1_clearWalls_b2_body
    refine ⟨fun c0 => ?_, fun c0 => ?_⟩
    · exact hK _
    · refine ⟨vI (c := 4) rfl (by first | assumption | omega | grind | (simp only [pt_r] at *; grind) | (simp [pt_r]; grind)) (by first | assumption | omega | grind | (simp only [pt_r] at *; grind) | (simp [pt_r]; grind)), ?_⟩
      refine ⟨vI (c := 4) rfl (by first | assumption | omega | grind | (simp only [pt_r] at *; grind) | (simp [pt_r]; grind)) (by first | assumption | omega | grind | (simp only [pt_r] at *; grind) | (simp [pt_r]; grind)), ?_⟩
      exact ih _ _ (by first | assumption | omega | grind | (simp only [pt_r] at *; grind) | (simp [pt_r]; grind)) (lt1 (mu_lt c0) hm)
set_option maxHeartbeats 1000000 in
theorem s_X1_clearWalls {F0 : Nat → Nat → Int32} {a0 : Nat} {F : Nat → Nat → Int32} {L : Nat → Nat → Int64} {r : Nat → Nat → Nat} {K : cS → Prop} (hJ : J F0 F r) (ha0 : kd a0 = 1) (hK : ∀ L' : Nat → Nat → Int64, K (F, L', r)) : wpX1_clearWalls a0 F L r K := by
  unfold wpX1_clearWalls
  unfold wpX1_clearWalls_b0
  exact ⟨_, l_X1_clearWalls_b2 hJ ha0 hK _ _ _ (by first | assumption | omega | grind | (simp only [pt_r] at *; grind) | (simp [pt_r]; grind)) (Nat.lt_succ_self _)⟩
set_option maxHeartbeats 1000000 in
theorem s_X9_hasRoomFor {F0 : Nat → Nat → Int32} {F : Nat → Nat → Int32} {L : Nat → Nat → Int64} {r : Nat → Nat → Nat} {x1 : Int32} {K : Int32 → cS → Prop} (hJ : J F0 F r) (hK : ∀ v : Int32, isB v → K v (F, L, r)) : wpX9_hasRoomFor F L r x1 K := by
  have t0_i := hJ.t0
  have t1_i := hJ.t12
  unfold wpX9_hasRoomFor
  unfold wpX9_hasRoomFor_b0
  refine ⟨fun c0 => ?_, fun c0 => ?_⟩
  · unfold wpX9_hasRoomFor_b17
    refine ⟨(by first | exact Or.inl rfl | exact Or.inr rfl | assumption), ?_⟩
    exact hK _ (by first | exact Or.inl rfl | exact Or.inr rfl | assumption)
  · unfold wpX9_hasRoomFor_b17
    refine ⟨(by first | exact Or.inl rfl | exact Or.inr rfl | assumption), ?_⟩
    exact hK _ (by first | exact Or.inl rfl | exact Or.inr rfl | assumption)
set_option maxHeartbeats 1000000 in
theorem s_X9_append {F0 : Nat → Nat → Int32} {F : Nat → Nat → Int32} {L : Nat → Nat → Int64} {r : Nat → Nat → Nat} {x1 : Int32} {K : cS → Prop} (hJ : J F0 F r) (hK : ∀ u : cS, J F0 u.1 u.2.2 → K u) : wpX9_append F L r x1 K := by
  have t0_i := hJ.t0
  have t1_i := hJ.t12
  unfold wpX9_append
  unfold wpX9_append_b0
  exact ⟨_, l_X9_append_b3 hK _ _ _ _ _ _ hJ (Nat.lt_succ_self _)⟩
set_option maxHeartbeats 1000000 in
theorem s_X10_feed {F0 : Nat → Nat → Int32} {F : Nat → Nat → Int32} {L : Nat → Nat → Int64} {r : Nat → Nat → Nat} {x1 : Int32} {x2 : Int32} {x3 : Int32} {x4 : Int32} {x5 : Int32} {K : Int32 → cS → Prop} (hJ : J F0 F r) (hK : ∀ v : Int32, ∀ u : cS, J F0 u.1 u.2.2 → K v u) : wpX10_feed F L r x1 x2 x3 x4 x5 K := by
  have t0_i := hJ.t0
  unfold wpX10_feed
  unfold wpX10_feed_b0
  refine s_X9_hasRoomFor hJ (fun r6 hb6 => ?_)
  try dsimp only
  refine ⟨fun c0 => ?_, fun c0 => ?_⟩
  · refine s_X9_append hJ (fun u19 hJ19  => ?_)
    have t0_19 := hJ19.t0
    refine s_X9_append hJ19 (fun u27 hJ27  => ?_)
    have t0_27 := hJ27.t0
    refine s_X9_append hJ27 (fun u35 hJ35  => ?_)
    have t0_35 := hJ35.t0
    refine s_X9_append hJ35 (fun u44 hJ44  => ?_)
    have t0_44 := hJ44.t0
    refine s_X9_append hJ44 (fun u53 hJ53  => ?_)
    have t0_53 := hJ53.t0
    exact hK _ _ hJ53
  · exact hK _ _ hJ
set_option maxHeartbeats 1000000 in
theorem s_X9_byteAt {F0 : Nat → Nat → Int32} {F : Nat → Nat → Int32} {L : Nat → Nat → Int64} {r : Nat → Nat → Nat} {x1 : Int32} {K : Int32 → cS → Prop} (hJ : J F0 F r) (hK : ∀ v : Int32, K v (F, L, r)) : wpX9_byteAt F L r x1 K := by
  have t0_i := hJ.t0
  have t1_i := hJ.t12
  unfold wpX9_byteAt
  unfold wpX9_byteAt_b0
  refine ⟨fun c0 => ?_, fun c0 => ?_⟩
  · unfold wpX9_byteAt_b28
    unfold wpX9_byteAt_b29
    exact hK _
  · refine ⟨fun c1 => ?_, fun c1 => ?_⟩
    · unfold wpX9_byteAt_b28
      unfold wpX9_byteAt_b29
      exact hK _
    · refine ⟨fun c2 => ?_, fun c2 => ?_⟩
      · unfold wpX9_byteAt_b28
        unfold wpX9_byteAt_b29
        exact hK _
      · refine ⟨vI (c := 500) rfl (by first | assumption | omega | grind | (simp only [pt_r] at *; grind) | (simp [pt_r]; grind)) (by first | assumption | omega | grind | (simp only [pt_r] at *; grind) | (simp [pt_r]; grind)), ?_⟩
        unfold wpX9_byteAt_b29
        exact hK _
set_option maxHeartbeats 1000000 in
theorem s_X9_isLetter {x0 : Int32} {K : Int32 → Unit → Prop} (hK : ∀ v : Int32, isB v → K v ()) : wpX9_isLetter x0 K := by
  unfold wpX9_isLetter
  unfold wpX9_isLetter_b0
  refine ⟨fun c0 => ?_, fun c0 => ?_⟩
  · unfold wpX9_isLetter_b16
    unfold wpX9_isLetter_b17
    refine ⟨(by first | exact Or.inl rfl | exact Or.inr rfl | assumption), ?_⟩
    exact hK _ (by first | exact Or.inl rfl | exact Or.inr rfl | assumption)
  · refine ⟨fun c1 => ?_, fun c1 => ?_⟩
    · unfold wpX9_isLetter_b16
      unfold wpX9_isLetter_b17
      refine ⟨(by first | exact Or.inl rfl | exact Or.inr rfl | assumption), ?_⟩
      exact hK _ (by first | exact Or.inl rfl | exact Or.inr rfl | assumption)
    · unfold wpX9_isLetter_b17
      refine ⟨(by first | exact Or.inl rfl | exact Or.inr rfl | assumption), ?_⟩
      exact hK _ (by first | exact Or.inl rfl | exact Or.inr rfl | assumption)
set_option maxHeartbeats 1000000 in
theorem s_X9_letterCode {x0 : Int32} {K : Int32 → Unit → Prop} (hK : ∀ v : Int32, K v ()) : wpX9_letterCode x0 K := by
  unfold wpX9_letterCode
  unfold wpX9_letterCode_b0
  exact hK _
set_option maxHeartbeats 1000000 in
theorem l_X9_packWord_b7 {F0 : Nat → Nat → Int32} {K : Int32 → cS → Prop} (hK : ∀ v : Int32, ∀ u : cS, J F0 u.1 u.2.2 → K v u) (n : Nat) : ∀ (F : Nat → Nat → Int32) (L : Nat → Nat → Int64) (r : Nat → Nat → Nat) (x1 : Int32) (x2 : Int32), J F0 F r → mu (F 4 15) < n → wpX9_packWord_b7 n F L r x1 x2 K := by
  induction n with
  | zero => intro F L r x1 x2 hJ  hm; exact absurd hm (Nat.not_lt_zero _)
  | succ n ih =>
    intro F L r x1 x2 hJ  hm
    have t0_i := hJ.t0
    have t1_i := hJ.t12
    unfold wpX9_packWord_b7 wpX9_packWord_b7_body
    refine ⟨fun c0 => ?_, fun c0 => ?_⟩
    · unfold wpX9_packWord_b76
      exact hK _ _ hJ
    · refine s_X9_byteAt hJ (fun r23 => ?_)
      try dsimp only
      refine s_X9_isLetter (fun r26 hb26 => ?_)
      refine ⟨fun c1 => ?_, fun c1 => ?_⟩
      · unfold wpX9_packWord_b76
        exact hK _ _ hJ
      · refine ⟨fun c2 => ?_, fun c2 => ?_⟩
        · unfold wpX9_packWord_b62
          exact ih _ _ _ _ _ (J9 (by decide) hJ) (by have hq := lt1 (mu_lt c0) hm; simpa [pt_r] using hq)
        · refine s_X9_byteAt hJ (fun r51 => ?_)
          try dsimp only
          refine s_X9_letterCode (fun r54 => ?_)
          unfold wpX9_packWord_b62
          exact ih _ _ _ _ _ (J9 (by decide) hJ) (by have hq := lt1 (mu_lt c0) hm; simpa [pt_r] using hq)
set_option maxHeartbeats 1000000 in
theorem s_X9_packWord {F0 : Nat → Nat → Int32} {F : Nat → Nat → Int32} {L : Nat → Nat → Int64} {r : Nat → Nat → Nat} {K : Int32 → cS → Prop} (hJ : J F0 F r) (hK : ∀ v : Int32, ∀ u : cS, J F0 u.1 u.2.2 → K v u) : wpX9_packWord F L r K := by
  have t0_i := hJ.t0
  have t1_i := hJ.t12
  unfold wpX9_packWord
  unfold wpX9_packWord_b0
  exact ⟨_, l_X9_packWord_b7 hK _ _ _ _ _ _ hJ (Nat.lt_succ_self _)⟩
set_option maxHeartbeats 1000000 in
theorem s_X9_addToken {F0 : Nat → Nat → Int32} {F : Nat → Nat → Int32} {L : Nat → Nat → Int64} {r : Nat → Nat → Nat} {x1 : Int32} {x2 : Int32} {x3 : Int32} {x4 : Int32} {K : cS → Prop} (hJ : J F0 F r) (hK : ∀ u : cS, J F0 u.1 u.2.2 → K u) : wpX9_addToken F L r x1 x2 x3 x4 K := by
  have t0_i := hJ.t0
  have t1_i := hJ.t12
  unfold wpX9_addToken
  unfold wpX9_addToken_b0
  refine ⟨fun c0 => ?_, fun c0 => ?_⟩
  · unfold wpX9_addToken_b63
    exact hK _ hJ
  · refine ⟨vI (c := 501) rfl (by first | assumption | omega | grind | (simp only [pt_r] at *; grind) | (simp [pt_r]; grind)) (by first | assumption | omega | grind | (simp only [pt_r] at *; grind) | (simp [pt_r]; grind)), ?_⟩
    refine ⟨vI (c := 501) rfl (by first | assumption | omega | grind | (simp only [pt_r] at *; grind) | (simp [pt_r]; grind)) (by first | assumption | omega | grind | (simp only [pt_r] at *; grind) | (simp [pt_r]; grind)), ?_⟩
    refine ⟨vI (c := 501) rfl (by first | assumption | omega | grind | (simp only [pt_r] at *; grind) | (simp [pt_r]; grind)) (by first | assumption | omega | grind | (simp only [pt_r] at *; grind) | (simp [pt_r]; grind)), ?_⟩
    refine ⟨vI (c := 501) rfl (by first | assumption | omega | grind | (simp only [pt_r] at *; grind) | (simp [pt_r]; grind)) (by first | assumption | omega | grind | (simp only [pt_r] at *; grind) | (simp [pt_r]; grind)), ?_⟩
    unfold wpX9_addToken_b63
    exact hK _ (J9_12 (by first | assumption | omega | grind | (simp only [pt_r] at *; grind) | (simp [pt_r]; grind)) (Jf kp9 rfl (Jf kp8 rfl (Jf kp7 rfl (Jf kp6 rfl hJ)))))
set_option maxHeartbeats 1000000 in
theorem s_X9_isDigit {x0 : Int32} {K : Int32 → Unit → Prop} (hK : ∀ v : Int32, isB v → K v ()) : wpX9_isDigit x0 K := by
  unfold wpX9_isDigit
  unfold wpX9_isDigit_b0
  refine ⟨fun c0 => ?_, fun c0 => ?_⟩
  · unfold wpX9_isDigit_b16
    unfold wpX9_isDigit_b17
    refine ⟨(by first | exact Or.inl rfl | exact Or.inr rfl | assumption), ?_⟩
    exact hK _ (by first | exact Or.inl rfl | exact Or.inr rfl | assumption)
  · refine ⟨fun c1 => ?_, fun c1 => ?_⟩
    · unfold wpX9_isDigit_b16
      unfold wpX9_isDigit_b17
      refine ⟨(by first | exact Or.inl rfl | exact Or.inr rfl | assumption), ?_⟩
      exact hK _ (by first | exact Or.inl rfl | exact Or.inr rfl | assumption)
    · unfold wpX9_isDigit_b17
      refine ⟨(by first | exact Or.inl rfl | exact Or.inr rfl | assumption), ?_⟩
      exact hK _ (by first | exact Or.inl rfl | exact Or.inr rfl | assumption)
set_option maxHeartbeats 1000000 in
theorem l_X9_packNumber_b2 {F0 : Nat → Nat → Int32} {K : Int32 → cS → Prop} (hK : ∀ v : Int32, ∀ u : cS, J F0 u.1 u.2.2 → K v u) (n : Nat) : ∀ (F : Nat → Nat → Int32) (L : Nat → Nat → Int64) (r : Nat → Nat → Nat) (x1 : Int32), J F0 F r → mu (F 4 15) < n → wpX9_packNumber_b2 n F L r x1 K := by
  induction n with
  | zero => intro F L r x1 hJ  hm; exact absurd hm (Nat.not_lt_zero _)
  | succ n ih =>
    intro F L r x1 hJ  hm
    have t0_i := hJ.t0
    have t1_i := hJ.t12
    unfold wpX9_packNumber_b2 wpX9_packNumber_b2_body
    refine ⟨fun c0 => ?_, fun c0 => ?_⟩
    · unfold wpX9_packNumber_b63
      exact hK _ _ hJ
    · refine s_X9_byteAt hJ (fun r18 => ?_)
      try dsimp only
      refine s_X9_isDigit (fun r21 hb21 => ?_)
      refine ⟨fun c1 => ?_, fun c1 => ?_⟩
      · unfold wpX9_packNumber_b63
        exact hK _ _ hJ
      · refine s_X9_byteAt hJ (fun r39 => ?_)
        try dsimp only
        intro y49 hy49
        exact ih _ _ _ _ (J9 (by decide) hJ) (by have hq := lt1 (mu_lt c0) hm; simpa [pt_r] using hq)
set_option maxHeartbeats 1000000 in
theorem s_X9_packNumber {F0 : Nat → Nat → Int32} {F : Nat → Nat → Int32} {L : Nat → Nat → Int64} {r : Nat → Nat → Nat} {K : Int32 → cS → Prop} (hJ : J F0 F r) (hK : ∀ v : Int32, ∀ u : cS, J F0 u.1 u.2.2 → K v u) : wpX9_packNumber F L r K := by
  have t0_i := hJ.t0
  have t1_i := hJ.t12
  unfold wpX9_packNumber
  unfold wpX9_packNumber_b0
  exact ⟨_, l_X9_packNumber_b2 hK _ _ _ _ _ hJ (Nat.lt_succ_self _)⟩
set_option maxHeartbeats 1000000 in
theorem s_X9_isBlank {x0 : Int32} {K : Int32 → Unit → Prop} (hK : ∀ v : Int32, isB v → K v ()) : wpX9_isBlank x0 K := by
  unfold wpX9_isBlank
  unfold wpX9_isBlank_b0
  refine ⟨fun c0 => ?_, fun c0 => ?_⟩
  · unfold wpX9_isBlank_b12
    unfold wpX9_isBlank_b17
    refine ⟨(by first | exact Or.inl rfl | exact Or.inr rfl | assumption), ?_⟩
    exact hK _ (by first | exact Or.inl rfl | exact Or.inr rfl | assumption)
  · refine ⟨fun c1 => ?_, fun c1 => ?_⟩
    · unfold wpX9_isBlank_b17
      refine ⟨(by first | exact Or.inl rfl | exact Or.inr rfl | assumption), ?_⟩
      exact hK _ (by first | exact Or.inl rfl | exact Or.inr rfl | assumption)
    · unfold wpX9_isBlank_b12
      unfold wpX9_isBlank_b17
      refine ⟨(by first | exact Or.inl rfl | exact Or.inr rfl | assumption), ?_⟩
      exact hK _ (by first | exact Or.inl rfl | exact Or.inr rfl | assumption)
set_option maxHeartbeats 1000000 in
theorem s_X9_findToken {F0 : Nat → Nat → Int32} {z1 : Nat} {F : Nat → Nat → Int32} {L : Nat → Nat → Int64} {r : Nat → Nat → Nat} {K : cS → Prop} (hJ : J F0 F r) (hz1 : z1 < 2) (hK : ∀ u : cS, J F0 u.1 u.2.2 → K u) : wpX9_findToken z1 F L r K := by
  have t0_i := hJ.t0
  have t1_i := hJ.t12
  unfold wpX9_findToken
  unfold wpX9_findToken_b0
  refine s_X9_byteAt hJ (fun r5 => ?_)
  try dsimp only
  refine s_X9_isLetter (fun r15 hb15 => ?_)
  refine ⟨fun c0 => ?_, fun c0 => ?_⟩
  · refine s_X9_isDigit (fun r45 hb45 => ?_)
    refine ⟨fun c1 => ?_, fun c1 => ?_⟩
    · refine s_X9_isBlank (fun r76 hb76 => ?_)
      refine ⟨fun c2 => ?_, fun c2 => ?_⟩
      · unfold wpX9_findToken_b90
        exact hK _ (J9 (by decide) hJ)
      · refine s_X9_addToken (J9 (by decide) hJ) (fun u87 hJ87  => ?_)
        have t0_87 := hJ87.t0
        have t1_87 := hJ87.t12
        unfold wpX9_findToken_b90
        exact hK _ hJ87
    · refine s_X9_packNumber hJ (fun r55 u55 hJ55  => ?_)
      have t0_55 := hJ55.t0
      have t1_55 := hJ55.t12
      refine s_X9_addToken hJ55 (fun u59 hJ59  => ?_)
      have t0_59 := hJ59.t0
      have t1_59 := hJ59.t12
      unfold wpX9_findToken_b90
      exact hK _ hJ59
  · refine s_X9_packWord hJ (fun r22 u22 hJ22  => ?_)
    have t0_22 := hJ22.t0
    have t1_22 := hJ22.t12
    refine s_X9_indexOfWord hz1 (fun r35 => ?_)
    refine s_X9_addToken hJ22 (fun u38 hJ38  => ?_)
    have t0_38 := hJ38.t0
    have t1_38 := hJ38.t12
    unfold wpX9_findToken_b90
    exact hK _ hJ38
set_option maxHeartbeats 1000000 in
theorem s_X9_advance {F0 : Nat → Nat → Int32} {F : Nat → Nat → Int32} {L : Nat → Nat → Int64} {r : Nat → Nat → Nat} {K : cS → Prop} (hJ : J F0 F r) (hK : ∀ u : cS, J F0 u.1 u.2.2 → u.2.2 = r → (∀ p, p ≠ 4 → u.1 p = F p) → K u) : wpX9_advance F L r K := by
  have t0_i := hJ.t0
  have t1_i := hJ.t12
  unfold wpX9_advance
  unfold wpX9_advance_b0
  refine ⟨fun c0 => ?_, fun c0 => ?_⟩
  · unfold wpX9_advance_b83
    unfold wpX9_advance_b106
    exact hK _ (J9 (by decide) (J9 (by decide) (J9 (by decide) (J9 (by decide) hJ)))) (by first | rfl | assumption | simp_all) (by intro p hp; first | rfl | (simp only [pt_ne hp]; done) | (simp [*]; done) | grind)
  · refine ⟨fun c1 => ?_, fun c1 => ?_⟩
    · unfold wpX9_advance_b83
      unfold wpX9_advance_b106
      exact hK _ (J9 (by decide) (J9 (by decide) (J9 (by decide) (J9 (by decide) hJ)))) (by first | rfl | assumption | simp_all) (by intro p hp; first | rfl | (simp only [pt_ne hp]; done) | (simp [*]; done) | grind)
    · refine ⟨vI (c := 501) rfl (by first | assumption | omega | grind | (simp only [pt_r] at *; grind) | (simp [pt_r]; grind)) (by first | assumption | omega | grind | (simp only [pt_r] at *; grind) | (simp [pt_r]; grind)), ?_⟩
      refine ⟨vI (c := 501) rfl (by first | assumption | omega | grind | (simp only [pt_r] at *; grind) | (simp [pt_r]; grind)) (by first | assumption | omega | grind | (simp only [pt_r] at *; grind) | (simp [pt_r]; grind)), ?_⟩
      refine ⟨vI (c := 501) rfl (by first | assumption | omega | grind | (simp only [pt_r] at *; grind) | (simp [pt_r]; grind)) (by first | assumption | omega | grind | (simp only [pt_r] at *; grind) | (simp [pt_r]; grind)), ?_⟩
      refine ⟨vI (c := 501) rfl (by first | assumption | omega | grind | (simp only [pt_r] at *; grind) | (simp [pt_r]; grind)) (by first | assumption | omega | grind | (simp only [pt_r] at *; grind) | (simp [pt_r]; grind)), ?_⟩
      unfold wpX9_advance_b106
      exact hK _ (J9 (by decide) (J9 (by decide) (J9 (by decide) (J9 (by decide) (J9 (by decide) hJ))))) (by first | rfl | assumption | simp_all) (by intro p hp; first | rfl | (simp only [pt_ne hp]; done) | (simp [*]; done) | grind)
set_option maxHeartbeats 1000000 in
theorem l_X9_open_b37 {F0 : Nat → Nat → Int32} {z2 : Nat} {K : cS → Prop} (hz2 : z2 < 2) (hK : ∀ u : cS, J F0 u.1 u.2.2 → K u) (n : Nat) : ∀ (F : Nat → Nat → Int32) (L : Nat → Nat → Int64) (r : Nat → Nat → Nat) (x3 : Int32), J F0 F r → 0 ≤ x3 → mu (x3) < n → wpX9_open_b37 z2 n F L r x3 K := by
  induction n with
  | zero => intro F L r x3 hJ hi0 hm; exact absurd hm (Nat.not_lt_zero _)
  | succ n ih =>
    intro F L r x3 hJ hi0 hm
    have t0_i := hJ.t0
    have t1_i := hJ.t12
    unfold wpX9_open_b37 wpX9_open_b37_body
    refine ⟨fun c0 => ?_, fun c0 => ?_⟩
    · unfold wpX9_open_b66
      refine s_X9_advance hJ (fun u67 hJ67  hr67 hf67 => ?_)
      have t0_67 := hJ67.t0
      have t1_67 := hJ67.t12
      exact hK _ hJ67
    · refine ⟨fun c1 => ?_, fun c1 => ?_⟩
      · unfold wpX9_open_b66
        refine s_X9_advance hJ (fun u67 hJ67  hr67 hf67 => ?_)
        have t0_67 := hJ67.t0
        have t1_67 := hJ67.t12
        exact hK _ hJ67
      · refine s_X9_findToken hJ hz2 (fun u57 hJ57  => ?_)
        have t0_57 := hJ57.t0
        have t1_57 := hJ57.t12
        exact ih _ _ _ _ hJ57 (by first | assumption | omega | grind | (simp only [pt_r] at *; grind) | (simp [pt_r]; grind)) (lt1 (mu_lt c0) hm)
set_option maxHeartbeats 1000000 in
theorem s_X9_open {F0 : Nat → Nat → Int32} {z2 : Nat} {F : Nat → Nat → Int32} {L : Nat → Nat → Int64} {r : Nat → Nat → Nat} {x1 : Int32} {K : cS → Prop} (hJ : J F0 F r) (hz2 : z2 < 2) (hK : ∀ u : cS, J F0 u.1 u.2.2 → K u) : wpX9_open z2 F L r x1 K := by
  have t0_i := hJ.t0
  have t1_i := hJ.t12
  unfold wpX9_open
  unfold wpX9_open_b0
  exact ⟨_, l_X9_open_b37 hz2 hK _ _ _ _ _ (J9 (by decide) (J9 (by decide) (J9_0 (by first | assumption | omega | grind | (simp only [pt_r] at *; grind) | (simp [pt_r]; grind)) (J9 (by decide) (J9_12 (by first | assumption | omega | grind | (simp only [pt_r] at *; grind) | (simp [pt_r]; grind)) (J9 (by decide) (J9 (by decide) hJ))))))) (by first | assumption | omega | grind | (simp only [pt_r] at *; grind) | (simp [pt_r]; grind)) (Nat.lt_succ_self _)⟩
set_option maxHeartbeats 1000000 in
theorem s_X9_refuse {F0 : Nat → Nat → Int32} {F : Nat → Nat → Int32} {L : Nat → Nat → Int64} {r : Nat → Nat → Nat} {x1 : Int32} {x2 : Int32} {K : cS → Prop} (hJ : J F0 F r) (hK : ∀ u : cS, J F0 u.1 u.2.2 → u.2.2 = r → (∀ p, p ≠ 4 → u.1 p = F p) → K u) : wpX9_refuse F L r x1 x2 K := by
  have t0_i := hJ.t0
  have t1_i := hJ.t12
  unfold wpX9_refuse
  unfold wpX9_refuse_b0
  refine ⟨fun c0 => ?_, fun c0 => ?_⟩
  · unfold wpX9_refuse_b17
    exact hK _ hJ (by first | rfl | assumption | simp_all) (by intro p hp; first | rfl | (simp only [pt_ne hp]; done) | (simp [*]; done) | grind)
  · unfold wpX9_refuse_b17
    exact hK _ (J9 (by decide) (J9 (by decide) hJ)) (by first | rfl | assumption | simp_all) (by intro p hp; first | rfl | (simp only [pt_ne hp]; done) | (simp [*]; done) | grind)
set_option maxHeartbeats 1000000 in
theorem s_X6_openLine {F0 : Nat → Nat → Int32} {a0 : Nat} {F : Nat → Nat → Int32} {L : Nat → Nat → Int64} {r : Nat → Nat → Nat} {K : cS → Prop} (hJ : J F0 F r) (ha0 : kd a0 = 6) (hK : ∀ u : cS, J F0 u.1 u.2.2 → K u) : wpX6_openLine a0 F L r K := by
  have l_i := hJ.li ha0
  unfold wpX6_openLine
  unfold wpX6_openLine_b0
  refine ⟨fun c0 => ?_, fun c0 => ?_⟩
  · refine ⟨vI (c := 30) rfl (by first | assumption | omega | grind | (simp only [pt_r] at *; grind) | (simp [pt_r]; grind)) (by first | assumption | omega | grind | (simp only [pt_r] at *; grind) | (simp [pt_r]; grind)), ?_⟩
    refine ⟨vI (c := 30) rfl (by first | assumption | omega | grind | (simp only [pt_r] at *; grind) | (simp [pt_r]; grind)) (by first | assumption | omega | grind | (simp only [pt_r] at *; grind) | (simp [pt_r]; grind)), ?_⟩
    refine ⟨vI (c := 30) rfl (by first | assumption | omega | grind | (simp only [pt_r] at *; grind) | (simp [pt_r]; grind)) (by first | assumption | omega | grind | (simp only [pt_r] at *; grind) | (simp [pt_r]; grind)), ?_⟩
    refine ⟨vI (c := 30) rfl (by first | assumption | omega | grind | (simp only [pt_r] at *; grind) | (simp [pt_r]; grind)) (by first | assumption | omega | grind | (simp only [pt_r] at *; grind) | (simp [pt_r]; grind)), ?_⟩
    refine ⟨vI (c := 30) rfl (by first | assumption | omega | grind | (simp only [pt_r] at *; grind) | (simp [pt_r]; grind)) (by first | assumption | omega | grind | (simp only [pt_r] at *; grind) | (simp [pt_r]; grind)), ?_⟩
    exact hK _ (J6_0 ha0 (by first | assumption | omega | grind | (simp only [pt_r] at *; grind) | (simp [pt_r]; grind)) (J20e ha0 (by first | assumption | omega | grind | (simp only [pt_r] at *; grind) | (simp [pt_r]; grind)) (J20 ha0 (k := 6) (by decide) (by decide) (J20 ha0 (k := 5) (by decide) (by decide) (J20 ha0 (k := 4) (by decide) (by decide) (J20 ha0 (k := 3) (by decide) (by decide) hJ))))))
  · exact hK _ hJ
set_option maxHeartbeats 1000000 in
theorem s_X7_isTest {x0 : Int32} {K : Int32 → Unit → Prop} (hK : ∀ v : Int32, isB v → K v ()) : wpX7_isTest x0 K := by
  unfold wpX7_isTest
  unfold wpX7_isTest_b0
  refine ⟨fun c0 => ?_, fun c0 => ?_⟩
  · unfold wpX7_isTest_b15
    unfold wpX7_isTest_b16
    refine ⟨(by first | exact Or.inl rfl | exact Or.inr rfl | assumption), ?_⟩
    exact hK _ (by first | exact Or.inl rfl | exact Or.inr rfl | assumption)
  · refine ⟨fun c1 => ?_, fun c1 => ?_⟩
    · unfold wpX7_isTest_b15
      unfold wpX7_isTest_b16
      refine ⟨(by first | exact Or.inl rfl | exact Or.inr rfl | assumption), ?_⟩
      exact hK _ (by first | exact Or.inl rfl | exact Or.inr rfl | assumption)
    · unfold wpX7_isTest_b16
      refine ⟨(by first | exact Or.inl rfl | exact Or.inr rfl | assumption), ?_⟩
      exact hK _ (by first | exact Or.inl rfl | exact Or.inr rfl | assumption)
set_option maxHeartbeats 1000000 in
theorem s_X7_mostOf {x0 : Int32} {K : Int32 → Unit → Prop} (hK : ∀ v : Int32, K v ()) : wpX7_mostOf x0 K := by
  unfold wpX7_mostOf
  unfold wpX7_mostOf_b0
  refine ⟨fun c0 => ?_, fun c0 => ?_, fun c0 => ?_, fun c0 => ?_, fun c0 => ?_, fun c0 => ?_⟩
  · exact hK _
  · exact hK _
  · exact hK _
  · exact hK _
  · exact hK _
  · exact hK _
set_option maxHeartbeats 1000000 in
theorem s_X7_readNumberOf {F0 : Nat → Nat → Int32} {F : Nat → Nat → Int32} {L : Nat → Nat → Int64} {r : Nat → Nat → Nat} {x1 : Int32} {K : Int32 → cS → Prop} (hJ : J F0 F r) (hK : ∀ v : Int32, ∀ u : cS, J F0 u.1 u.2.2 → u.2.2 = r → (∀ p, p ≠ 4 → u.1 p = F p) → K v u) : wpX7_readNumberOf F L r x1 K := by
  have q_i := hJ.q2
  unfold wpX7_readNumberOf
  unfold wpX7_readNumberOf_b0
  refine s_X9_advance hJ (fun u4 hJ4  hr4 hf4 => ?_)
  have q_4 := hJ4.q2
  have f10_4 := congrFun (hf4 10 (by decide)) 2
  refine s_X7_mostOf (fun r8 => ?_)
  refine ⟨fun c0 => ?_, fun c0 => ?_⟩
  · refine ⟨fun c1 => ?_, fun c1 => ?_⟩
    · refine ⟨fun c2 => ?_, fun c2 => ?_⟩
      · refine s_X9_advance hJ4 (fun u83 hJ83  hr83 hf83 => ?_)
        have q_83 := hJ83.q2
        have f10_83 := congrFun (hf83 10 (by decide)) 2
        unfold wpX7_readNumberOf_b86
        exact hK _ _ hJ83 (by first | rfl | assumption | simp_all) (by intro p hp; first | rfl | (simp only [pt_ne hp]; done) | (simp [*]; done) | grind)
      · refine s_X9_refuse hJ4 (fun u73 hJ73  hr73 hf73 => ?_)
        have q_73 := hJ73.q2
        have f10_73 := congrFun (hf73 10 (by decide)) 2
        unfold wpX7_readNumberOf_b86
        exact hK _ _ hJ73 (by first | rfl | assumption | simp_all) (by intro p hp; first | rfl | (simp only [pt_ne hp]; done) | (simp [*]; done) | grind)
    · refine s_X9_refuse hJ4 (fun u50 hJ50  hr50 hf50 => ?_)
      have q_50 := hJ50.q2
      have f10_50 := congrFun (hf50 10 (by decide)) 2
      unfold wpX7_readNumberOf_b86
      exact hK _ _ hJ50 (by first | rfl | assumption | simp_all) (by intro p hp; first | rfl | (simp only [pt_ne hp]; done) | (simp [*]; done) | grind)
  · exact hK _ _ hJ4 (by first | rfl | assumption | simp_all) (by intro p hp; first | rfl | (simp only [pt_ne hp]; done) | (simp [*]; done) | grind)
set_option maxHeartbeats 1000000 in
theorem l_X7_isTold_b2 {F0 : Nat → Nat → Int32} {F : Nat → Nat → Int32} {L : Nat → Nat → Int64} {r : Nat → Nat → Nat} {K : Int32 → cS → Prop} (hJ : J F0 F r) (hK : ∀ v : Int32, isB v → K v (F, L, r)) (n : Nat) : ∀ (x1 : Int32) (x2 : Int32), 0 ≤ x2 → mu (x2) < n → wpX7_isTold_b2 n F L r x1 x2 K := by
  induction n with
  | zero => intro x1 x2 hi0 hm; exact absurd hm (Nat.not_lt_zero _)
  | succ n ih =>
    intro x1 x2 hi0 hm
    have q_i := hJ.q2
    unfold wpX7_isTold_b2 wpX7_isTold_b2_body
    refine ⟨fun c0 => ?_, fun c0 => ?_⟩
    · exact hK _ (by first | exact Or.inl rfl | exact Or.inr rfl | assumption)
    · refine ⟨vI (c := 12) rfl (by first | assumption | omega | grind | (simp only [pt_r] at *; grind) | (simp [pt_r]; grind)) (by first | assumption | omega | grind | (simp only [pt_r] at *; grind) | (simp [pt_r]; grind)), ?_⟩
      refine ⟨fun c1 => ?_, fun c1 => ?_⟩
      · exact ih _ _ (by first | assumption | omega | grind | (simp only [pt_r] at *; grind) | (simp [pt_r]; grind)) (lt1 (mu_lt c0) hm)
      · exact hK _ (by first | exact Or.inl rfl | exact Or.inr rfl | assumption)
set_option maxHeartbeats 1000000 in
theorem s_X7_isTold {F0 : Nat → Nat → Int32} {F : Nat → Nat → Int32} {L : Nat → Nat → Int64} {r : Nat → Nat → Nat} {x1 : Int32} {K : Int32 → cS → Prop} (hJ : J F0 F r) (hK : ∀ v : Int32, isB v → K v (F, L, r)) : wpX7_isTold F L r x1 K := by
  have q_i := hJ.q2
  unfold wpX7_isTold
  unfold wpX7_isTold_b0
  exact ⟨_, l_X7_isTold_b2 hJ hK _ _ _ (by first | assumption | omega | grind | (simp only [pt_r] at *; grind) | (simp [pt_r]; grind)) (Nat.lt_succ_self _)⟩
