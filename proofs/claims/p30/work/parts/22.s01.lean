set_option maxHeartbeats 1000000 in
theorem s_X6_addCount {F0 : Nat → Nat → Int32} {a0 : Nat} {F : Nat → Nat → Int32} {L : Nat → Nat → Int64} {r : Nat → Nat → Nat} {x1 : Int32} {x2 : Int32} {K : cS → Prop} (hJ : J F0 F r) (ha0 : kd a0 = 6) (hK : ∀ u : cS, J F0 u.1 u.2.2 → K u) : wpX6_addCount a0 F L r x1 x2 K := by
  have l_i := hJ.li ha0
  unfold wpX6_addCount
  unfold wpX6_addCount_b0
  refine ⟨fun c0 => ?_, fun c0 => ?_⟩
  · refine ⟨fun c1 => ?_, fun c1 => ?_⟩
    · unfold wpX6_addCount_b33
      refine ⟨fun c2 => ?_, fun c2 => ?_⟩
      · unfold wpX6_addCount_b54
        exact hK _ hJ
      · refine ⟨vI (c := 30) rfl (by first | assumption | omega | grind | (simp only [pt_r] at *; grind) | (simp [pt_r]; grind)) (by first | assumption | omega | grind | (simp only [pt_r] at *; grind) | (simp [pt_r]; grind)), ?_⟩
        refine ⟨fun c3 => ?_, fun c3 => ?_⟩
        · unfold wpX6_addCount_b54
          exact hK _ hJ
        · refine ⟨vI (c := 30) rfl (by first | assumption | omega | grind | (simp only [pt_r] at *; grind) | (simp [pt_r]; grind)) (by first | assumption | omega | grind | (simp only [pt_r] at *; grind) | (simp [pt_r]; grind)), ?_⟩
          unfold wpX6_addCount_b54
          exact hK _ (J20 ha0 (k := 5) (by decide) (by decide) hJ)
    · refine ⟨vI (c := 30) rfl (by first | assumption | omega | grind | (simp only [pt_r] at *; grind) | (simp [pt_r]; grind)) (by first | assumption | omega | grind | (simp only [pt_r] at *; grind) | (simp [pt_r]; grind)), ?_⟩
      refine ⟨fun c2 => ?_, fun c2 => ?_⟩
      · unfold wpX6_addCount_b33
        refine ⟨fun c3 => ?_, fun c3 => ?_⟩
        · unfold wpX6_addCount_b54
          exact hK _ hJ
        · refine ⟨vI (c := 30) rfl (by first | assumption | omega | grind | (simp only [pt_r] at *; grind) | (simp [pt_r]; grind)) (by first | assumption | omega | grind | (simp only [pt_r] at *; grind) | (simp [pt_r]; grind)), ?_⟩
          refine ⟨fun c4 => ?_, fun c4 => ?_⟩
          · unfold wpX6_addCount_b54
            exact hK _ hJ
          · refine ⟨vI (c := 30) rfl (by first | assumption | omega | grind | (simp only [pt_r] at *; grind) | (simp [pt_r]; grind)) (by first | assumption | omega | grind | (simp only [pt_r] at *; grind) | (simp [pt_r]; grind)), ?_⟩
            unfold wpX6_addCount_b54
            exact hK _ (J20 ha0 (k := 5) (by decide) (by decide) hJ)
      · refine ⟨vI (c := 30) rfl (by first | assumption | omega | grind | (simp only [pt_r] at *; grind) | (simp [pt_r]; grind)) (by first | assumption | omega | grind | (simp only [pt_r] at *; grind) | (simp [pt_r]; grind)), ?_⟩
        unfold wpX6_addCount_b33
        refine ⟨fun c3 => ?_, fun c3 => ?_⟩
        · unfold wpX6_addCount_b54
          exact hK _ (J20 ha0 (k := 6) (by decide) (by decide) hJ)
        · refine ⟨vI (c := 30) rfl (by first | assumption | omega | grind | (simp only [pt_r] at *; grind) | (simp [pt_r]; grind)) (by first | assumption | omega | grind | (simp only [pt_r] at *; grind) | (simp [pt_r]; grind)), ?_⟩
          refine ⟨fun c4 => ?_, fun c4 => ?_⟩
          · unfold wpX6_addCount_b54
            exact hK _ (J20 ha0 (k := 6) (by decide) (by decide) hJ)
          · refine ⟨vI (c := 30) rfl (by first | assumption | omega | grind | (simp only [pt_r] at *; grind) | (simp [pt_r]; grind)) (by first | assumption | omega | grind | (simp only [pt_r] at *; grind) | (simp [pt_r]; grind)), ?_⟩
            unfold wpX6_addCount_b54
            exact hK _ (J20 ha0 (k := 5) (by decide) (by decide) (J20 ha0 (k := 6) (by decide) (by decide) hJ))
  · exact hK _ hJ
set_option maxHeartbeats 1000000 in
theorem s_X7_signOf {x0 : Int32} {x1 : Int32} {K : Int32 → Unit → Prop} (hK : ∀ v : Int32, K v ()) : wpX7_signOf x0 x1 K := by
  unfold wpX7_signOf
  unfold wpX7_signOf_b0
  refine ⟨fun c0 => ?_, fun c0 => ?_, fun c0 => ?_, fun c0 => ?_, fun c0 => ?_⟩
  · exact hK _
  · exact hK _
  · exact hK _
  · exact hK _
  · exact hK _
set_option maxHeartbeats 1000000 in
theorem s_X6_addSign {F0 : Nat → Nat → Int32} {a0 : Nat} {F : Nat → Nat → Int32} {L : Nat → Nat → Int64} {r : Nat → Nat → Nat} {x1 : Int32} {x2 : Int32} {K : cS → Prop} (hJ : J F0 F r) (ha0 : kd a0 = 6) (hK : ∀ u : cS, J F0 u.1 u.2.2 → K u) : wpX6_addSign a0 F L r x1 x2 K := by
  have l_i := hJ.li ha0
  unfold wpX6_addSign
  unfold wpX6_addSign_b0
  refine ⟨fun c0 => ?_, fun c0 => ?_⟩
  · refine ⟨vI (c := 30) rfl (by first | assumption | omega | grind | (simp only [pt_r] at *; grind) | (simp [pt_r]; grind)) (by first | assumption | omega | grind | (simp only [pt_r] at *; grind) | (simp [pt_r]; grind)), ?_⟩
    refine ⟨vI (c := 30) rfl (by first | assumption | omega | grind | (simp only [pt_r] at *; grind) | (simp [pt_r]; grind)) (by first | assumption | omega | grind | (simp only [pt_r] at *; grind) | (simp [pt_r]; grind)), ?_⟩
    refine ⟨fun c1 => ?_, fun c1 => ?_⟩
    · unfold wpX6_addSign_b40
      exact hK _ (J20 ha0 (k := 3) (by decide) (by decide) hJ)
    · refine ⟨vI (c := 30) rfl (by first | assumption | omega | grind | (simp only [pt_r] at *; grind) | (simp [pt_r]; grind)) (by first | assumption | omega | grind | (simp only [pt_r] at *; grind) | (simp [pt_r]; grind)), ?_⟩
      refine ⟨vI (c := 30) rfl (by first | assumption | omega | grind | (simp only [pt_r] at *; grind) | (simp [pt_r]; grind)) (by first | assumption | omega | grind | (simp only [pt_r] at *; grind) | (simp [pt_r]; grind)), ?_⟩
      unfold wpX6_addSign_b40
      exact hK _ (J20 ha0 (k := 4) (by decide) (by decide) (J20 ha0 (k := 3) (by decide) (by decide) hJ))
  · exact hK _ hJ
set_option maxHeartbeats 1000000 in
theorem s_X7_takeTest {F0 : Nat → Nat → Int32} {F : Nat → Nat → Int32} {L : Nat → Nat → Int64} {r : Nat → Nat → Nat} {x1 : Int32} {x2 : Int32} {x3 : Int32} {x4 : Int32} {K : cS → Prop} (hJ : J F0 F r) (hp : F 10 2 < 12) (hK : ∀ u : cS, J F0 u.1 u.2.2 → K u) : wpX7_takeTest F L r x1 x2 x3 x4 K := by
  have q_i := hJ.q2
  unfold wpX7_takeTest
  unfold wpX7_takeTest_b0
  refine s_X7_isTold hJ (fun r12 hb12 => ?_)
  try dsimp only
  refine ⟨fun c0 => ?_, fun c0 => ?_⟩
  · refine ⟨vI (c := 12) rfl (by first | assumption | omega | grind | (simp only [pt_r] at *; grind) | (simp [pt_r]; grind)) (by first | assumption | omega | grind | (simp only [pt_r] at *; grind) | (simp [pt_r]; grind)), ?_⟩
    refine ⟨fun c1 => ?_, fun c1 => ?_⟩
    · refine s_X7_signOf (fun r74 => ?_)
      refine ⟨(hJ).c103, ?_⟩
      refine s_X6_addSign (J7_2 (by first | assumption | omega | grind | (simp only [pt_r] at *; grind) | (simp [pt_r]; grind)) (Jf kp11 rfl hJ)) (hJ).c103 (fun u78 hJ78  => ?_)
      have q_78 := hJ78.q2
      unfold wpX7_takeTest_b81
      exact hK _ hJ78
    · refine ⟨(hJ).c103, ?_⟩
      refine s_X6_addCount (J7_2 (by first | assumption | omega | grind | (simp only [pt_r] at *; grind) | (simp [pt_r]; grind)) (Jf kp11 rfl hJ)) (hJ).c103 (fun u62 hJ62  => ?_)
      have q_62 := hJ62.q2
      unfold wpX7_takeTest_b81
      exact hK _ hJ62
  · refine s_X9_refuse hJ (fun u25 hJ25  hr25 hf25 => ?_)
    have q_25 := hJ25.q2
    have f10_25 := congrFun (hf25 10 (by decide)) 2
    exact hK _ hJ25
set_option maxHeartbeats 1000000 in
theorem s_X7_readTest {F0 : Nat → Nat → Int32} {F : Nat → Nat → Int32} {L : Nat → Nat → Int64} {r : Nat → Nat → Nat} {K : cS → Prop} (hJ : J F0 F r) (hK : ∀ u : cS, J F0 u.1 u.2.2 → K u) : wpX7_readTest F L r K := by
  have q_i := hJ.q2
  unfold wpX7_readTest
  unfold wpX7_readTest_b0
  refine ⟨fun c0 => ?_, fun c0 => ?_⟩
  · unfold wpX7_readTest_b16
    refine ⟨fun c1 => ?_, fun c1 => ?_⟩
    · unfold wpX7_readTest_b50
      refine ⟨fun c2 => ?_, fun c2 => ?_⟩
      · refine ⟨fun c3 => ?_, fun c3 => ?_⟩
        · unfold wpX7_readTest_b86
          refine s_X7_isTest (fun r103 hb103 => ?_)
          refine ⟨fun c4 => ?_, fun c4 => ?_⟩
          · refine s_X7_readNumberOf hJ (fun r127 u127 hJ127  hr127 hf127 => ?_)
            have q_127 := hJ127.q2
            have f10_127 := congrFun (hf127 10 (by decide)) 2
            refine ⟨fun c5 => ?_, fun c5 => ?_⟩
            · unfold wpX7_readTest_b151
              exact hK _ hJ127
            · refine s_X7_takeTest hJ127 (by first | assumption | omega | grind | (simp only [pt_r] at *; grind) | (simp [pt_r]; grind)) (fun u148 hJ148  => ?_)
              have q_148 := hJ148.q2
              unfold wpX7_readTest_b151
              exact hK _ hJ148
          · refine s_X9_refuse hJ (fun u121 hJ121  hr121 hf121 => ?_)
            have q_121 := hJ121.q2
            have f10_121 := congrFun (hf121 10 (by decide)) 2
            exact hK _ hJ121
        · refine s_X9_advance hJ (fun u83 hJ83  hr83 hf83 => ?_)
          have q_83 := hJ83.q2
          have f10_83 := congrFun (hf83 10 (by decide)) 2
          unfold wpX7_readTest_b86
          refine s_X7_isTest (fun r103 hb103 => ?_)
          refine ⟨fun c4 => ?_, fun c4 => ?_⟩
          · refine s_X7_readNumberOf hJ83 (fun r127 u127 hJ127  hr127 hf127 => ?_)
            have q_127 := hJ127.q2
            have f10_127 := congrFun (hf127 10 (by decide)) 2
            refine ⟨fun c5 => ?_, fun c5 => ?_⟩
            · unfold wpX7_readTest_b151
              exact hK _ hJ127
            · refine s_X7_takeTest hJ127 (by first | assumption | omega | grind | (simp only [pt_r] at *; grind) | (simp [pt_r]; grind)) (fun u148 hJ148  => ?_)
              have q_148 := hJ148.q2
              unfold wpX7_readTest_b151
              exact hK _ hJ148
          · refine s_X9_refuse hJ83 (fun u121 hJ121  hr121 hf121 => ?_)
            have q_121 := hJ121.q2
            have f10_121 := congrFun (hf121 10 (by decide)) 2
            exact hK _ hJ121
      · refine s_X9_refuse hJ (fun u71 hJ71  hr71 hf71 => ?_)
        have q_71 := hJ71.q2
        have f10_71 := congrFun (hf71 10 (by decide)) 2
        exact hK _ hJ71
    · refine s_X7_isTest (fun r28 hb28 => ?_)
      refine ⟨fun c2 => ?_, fun c2 => ?_⟩
      · unfold wpX7_readTest_b50
        refine ⟨fun c3 => ?_, fun c3 => ?_⟩
        · refine ⟨fun c4 => ?_, fun c4 => ?_⟩
          · unfold wpX7_readTest_b86
            refine s_X7_isTest (fun r103 hb103 => ?_)
            refine ⟨fun c5 => ?_, fun c5 => ?_⟩
            · refine s_X7_readNumberOf hJ (fun r127 u127 hJ127  hr127 hf127 => ?_)
              have q_127 := hJ127.q2
              have f10_127 := congrFun (hf127 10 (by decide)) 2
              refine ⟨fun c6 => ?_, fun c6 => ?_⟩
              · unfold wpX7_readTest_b151
                exact hK _ hJ127
              · refine s_X7_takeTest hJ127 (by first | assumption | omega | grind | (simp only [pt_r] at *; grind) | (simp [pt_r]; grind)) (fun u148 hJ148  => ?_)
                have q_148 := hJ148.q2
                unfold wpX7_readTest_b151
                exact hK _ hJ148
            · refine s_X9_refuse hJ (fun u121 hJ121  hr121 hf121 => ?_)
              have q_121 := hJ121.q2
              have f10_121 := congrFun (hf121 10 (by decide)) 2
              exact hK _ hJ121
          · refine s_X9_advance hJ (fun u83 hJ83  hr83 hf83 => ?_)
            have q_83 := hJ83.q2
            have f10_83 := congrFun (hf83 10 (by decide)) 2
            unfold wpX7_readTest_b86
            refine s_X7_isTest (fun r103 hb103 => ?_)
            refine ⟨fun c5 => ?_, fun c5 => ?_⟩
            · refine s_X7_readNumberOf hJ83 (fun r127 u127 hJ127  hr127 hf127 => ?_)
              have q_127 := hJ127.q2
              have f10_127 := congrFun (hf127 10 (by decide)) 2
              refine ⟨fun c6 => ?_, fun c6 => ?_⟩
              · unfold wpX7_readTest_b151
                exact hK _ hJ127
              · refine s_X7_takeTest hJ127 (by first | assumption | omega | grind | (simp only [pt_r] at *; grind) | (simp [pt_r]; grind)) (fun u148 hJ148  => ?_)
                have q_148 := hJ148.q2
                unfold wpX7_readTest_b151
                exact hK _ hJ148
            · refine s_X9_refuse hJ83 (fun u121 hJ121  hr121 hf121 => ?_)
              have q_121 := hJ121.q2
              have f10_121 := congrFun (hf121 10 (by decide)) 2
              exact hK _ hJ121
        · refine s_X9_refuse hJ (fun u71 hJ71  hr71 hf71 => ?_)
          have q_71 := hJ71.q2
          have f10_71 := congrFun (hf71 10 (by decide)) 2
          exact hK _ hJ71
      · refine s_X9_refuse hJ (fun u46 hJ46  hr46 hf46 => ?_)
        have q_46 := hJ46.q2
        have f10_46 := congrFun (hf46 10 (by decide)) 2
        exact hK _ hJ46
  · unfold wpX7_readTest_b16
    refine ⟨fun c1 => ?_, fun c1 => ?_⟩
    · unfold wpX7_readTest_b50
      refine ⟨fun c2 => ?_, fun c2 => ?_⟩
      · refine ⟨fun c3 => ?_, fun c3 => ?_⟩
        · unfold wpX7_readTest_b86
          refine s_X7_isTest (fun r103 hb103 => ?_)
          refine ⟨fun c4 => ?_, fun c4 => ?_⟩
          · refine s_X7_readNumberOf hJ (fun r127 u127 hJ127  hr127 hf127 => ?_)
            have q_127 := hJ127.q2
            have f10_127 := congrFun (hf127 10 (by decide)) 2
            refine ⟨fun c5 => ?_, fun c5 => ?_⟩
            · unfold wpX7_readTest_b151
              exact hK _ hJ127
            · refine s_X7_takeTest hJ127 (by first | assumption | omega | grind | (simp only [pt_r] at *; grind) | (simp [pt_r]; grind)) (fun u148 hJ148  => ?_)
              have q_148 := hJ148.q2
              unfold wpX7_readTest_b151
              exact hK _ hJ148
          · refine s_X9_refuse hJ (fun u121 hJ121  hr121 hf121 => ?_)
            have q_121 := hJ121.q2
            have f10_121 := congrFun (hf121 10 (by decide)) 2
            exact hK _ hJ121
        · refine s_X9_advance hJ (fun u83 hJ83  hr83 hf83 => ?_)
          have q_83 := hJ83.q2
          have f10_83 := congrFun (hf83 10 (by decide)) 2
          unfold wpX7_readTest_b86
          refine s_X7_isTest (fun r103 hb103 => ?_)
          refine ⟨fun c4 => ?_, fun c4 => ?_⟩
          · refine s_X7_readNumberOf hJ83 (fun r127 u127 hJ127  hr127 hf127 => ?_)
            have q_127 := hJ127.q2
            have f10_127 := congrFun (hf127 10 (by decide)) 2
            refine ⟨fun c5 => ?_, fun c5 => ?_⟩
            · unfold wpX7_readTest_b151
              exact hK _ hJ127
            · refine s_X7_takeTest hJ127 (by first | assumption | omega | grind | (simp only [pt_r] at *; grind) | (simp [pt_r]; grind)) (fun u148 hJ148  => ?_)
              have q_148 := hJ148.q2
              unfold wpX7_readTest_b151
              exact hK _ hJ148
          · refine s_X9_refuse hJ83 (fun u121 hJ121  hr121 hf121 => ?_)
            have q_121 := hJ121.q2
            have f10_121 := congrFun (hf121 10 (by decide)) 2
            exact hK _ hJ121
      · refine s_X9_refuse hJ (fun u71 hJ71  hr71 hf71 => ?_)
        have q_71 := hJ71.q2
        have f10_71 := congrFun (hf71 10 (by decide)) 2
        exact hK _ hJ71
    · refine s_X7_isTest (fun r28 hb28 => ?_)
      refine ⟨fun c2 => ?_, fun c2 => ?_⟩
      · unfold wpX7_readTest_b50
        refine ⟨fun c3 => ?_, fun c3 => ?_⟩
        · refine ⟨fun c4 => ?_, fun c4 => ?_⟩
          · unfold wpX7_readTest_b86
            refine s_X7_isTest (fun r103 hb103 => ?_)
            refine ⟨fun c5 => ?_, fun c5 => ?_⟩
            · refine s_X7_readNumberOf hJ (fun r127 u127 hJ127  hr127 hf127 => ?_)
              have q_127 := hJ127.q2
              have f10_127 := congrFun (hf127 10 (by decide)) 2
              refine ⟨fun c6 => ?_, fun c6 => ?_⟩
              · unfold wpX7_readTest_b151
                exact hK _ hJ127
              · refine s_X7_takeTest hJ127 (by first | assumption | omega | grind | (simp only [pt_r] at *; grind) | (simp [pt_r]; grind)) (fun u148 hJ148  => ?_)
                have q_148 := hJ148.q2
                unfold wpX7_readTest_b151
                exact hK _ hJ148
            · refine s_X9_refuse hJ (fun u121 hJ121  hr121 hf121 => ?_)
              have q_121 := hJ121.q2
              have f10_121 := congrFun (hf121 10 (by decide)) 2
              exact hK _ hJ121
          · refine s_X9_advance hJ (fun u83 hJ83  hr83 hf83 => ?_)
            have q_83 := hJ83.q2
            have f10_83 := congrFun (hf83 10 (by decide)) 2
            unfold wpX7_readTest_b86
            refine s_X7_isTest (fun r103 hb103 => ?_)
            refine ⟨fun c5 => ?_, fun c5 => ?_⟩
            · refine s_X7_readNumberOf hJ83 (fun r127 u127 hJ127  hr127 hf127 => ?_)
              have q_127 := hJ127.q2
              have f10_127 := congrFun (hf127 10 (by decide)) 2
              refine ⟨fun c6 => ?_, fun c6 => ?_⟩
              · unfold wpX7_readTest_b151
                exact hK _ hJ127
              · refine s_X7_takeTest hJ127 (by first | assumption | omega | grind | (simp only [pt_r] at *; grind) | (simp [pt_r]; grind)) (fun u148 hJ148  => ?_)
                have q_148 := hJ148.q2
                unfold wpX7_readTest_b151
                exact hK _ hJ148
            · refine s_X9_refuse hJ83 (fun u121 hJ121  hr121 hf121 => ?_)
              have q_121 := hJ121.q2
              have f10_121 := congrFun (hf121 10 (by decide)) 2
              exact hK _ hJ121
        · refine s_X9_refuse hJ (fun u71 hJ71  hr71 hf71 => ?_)
          have q_71 := hJ71.q2
          have f10_71 := congrFun (hf71 10 (by decide)) 2
          exact hK _ hJ71
      · refine s_X9_refuse hJ (fun u46 hJ46  hr46 hf46 => ?_)
        have q_46 := hJ46.q2
        have f10_46 := congrFun (hf46 10 (by decide)) 2
        exact hK _ hJ46
set_option maxHeartbeats 1000000 in
theorem l_X7_readTests_b2 {F0 : Nat → Nat → Int32} {K : cS → Prop} (hK : ∀ u : cS, J F0 u.1 u.2.2 → K u) (n : Nat) : ∀ (F : Nat → Nat → Int32) (L : Nat → Nat → Int64) (r : Nat → Nat → Nat) (x1 : Int32), J F0 F r → 0 ≤ x1 → mu (x1) < n → wpX7_readTests_b2 n F L r x1 K := by
  induction n with
  | zero => intro F L r x1 hJ hi0 hm; exact absurd hm (Nat.not_lt_zero _)
  | succ n ih =>
    intro F L r x1 hJ hi0 hm
    have q_i := hJ.q2
    unfold wpX7_readTests_b2 wpX7_readTests_b2_body
    refine ⟨fun c0 => ?_, fun c0 => ?_⟩
    · unfold wpX7_readTests_b44
      exact hK _ hJ
    · refine ⟨fun c1 => ?_, fun c1 => ?_⟩
      · unfold wpX7_readTests_b44
        exact hK _ hJ
      · refine ⟨fun c2 => ?_, fun c2 => ?_⟩
        · unfold wpX7_readTests_b34
          refine s_X7_readTest hJ (fun u35 hJ35  => ?_)
          have q_35 := hJ35.q2
          exact ih _ _ _ _ hJ35 (by first | assumption | omega | grind | (simp only [pt_r] at *; grind) | (simp [pt_r]; grind)) (lt1 (mu_le c0 (by first | decide | grind)) hm)
        · refine ⟨fun c3 => ?_, fun c3 => ?_⟩
          · unfold wpX7_readTests_b34
            refine s_X7_readTest hJ (fun u35 hJ35  => ?_)
            have q_35 := hJ35.q2
            exact ih _ _ _ _ hJ35 (by first | assumption | omega | grind | (simp only [pt_r] at *; grind) | (simp [pt_r]; grind)) (lt1 (mu_le c0 (by first | decide | grind)) hm)
          · exact hK _ hJ
set_option maxHeartbeats 1000000 in
theorem s_X7_readTests {F0 : Nat → Nat → Int32} {F : Nat → Nat → Int32} {L : Nat → Nat → Int64} {r : Nat → Nat → Nat} {K : cS → Prop} (hJ : J F0 F r) (hK : ∀ u : cS, J F0 u.1 u.2.2 → K u) : wpX7_readTests F L r K := by
  have q_i := hJ.q2
  unfold wpX7_readTests
  unfold wpX7_readTests_b0
  exact ⟨_, l_X7_readTests_b2 hK _ _ _ _ _ hJ (by first | assumption | omega | grind | (simp only [pt_r] at *; grind) | (simp [pt_r]; grind)) (Nat.lt_succ_self _)⟩
set_option maxHeartbeats 1000000 in
theorem s_X9_isSign {F0 : Nat → Nat → Int32} {F : Nat → Nat → Int32} {L : Nat → Nat → Int64} {r : Nat → Nat → Nat} {x1 : Int32} {K : Int32 → cS → Prop} (hJ : J F0 F r) (hK : ∀ v : Int32, isB v → K v (F, L, r)) : wpX9_isSign F L r x1 K := by
  have t0_i := hJ.t0
  have t1_i := hJ.t12
  unfold wpX9_isSign
  unfold wpX9_isSign_b0
  refine ⟨fun c0 => ?_, fun c0 => ?_⟩
  · unfold wpX9_isSign_b20
    unfold wpX9_isSign_b21
    refine ⟨(by first | exact Or.inl rfl | exact Or.inr rfl | assumption), ?_⟩
    exact hK _ (by first | exact Or.inl rfl | exact Or.inr rfl | assumption)
  · refine ⟨fun c1 => ?_, fun c1 => ?_⟩
    · unfold wpX9_isSign_b20
      unfold wpX9_isSign_b21
      refine ⟨(by first | exact Or.inl rfl | exact Or.inr rfl | assumption), ?_⟩
      exact hK _ (by first | exact Or.inl rfl | exact Or.inr rfl | assumption)
    · unfold wpX9_isSign_b21
      refine ⟨(by first | exact Or.inl rfl | exact Or.inr rfl | assumption), ?_⟩
      exact hK _ (by first | exact Or.inl rfl | exact Or.inr rfl | assumption)
set_option maxHeartbeats 1000000 in
theorem s_X7_isAct {x0 : Int32} {K : Int32 → Unit → Prop} (hK : ∀ v : Int32, isB v → K v ()) : wpX7_isAct x0 K := by
  unfold wpX7_isAct
  unfold wpX7_isAct_b0
  refine ⟨fun c0 => ?_, fun c0 => ?_⟩
  · unfold wpX7_isAct_b16
    unfold wpX7_isAct_b17
    refine ⟨(by first | exact Or.inl rfl | exact Or.inr rfl | assumption), ?_⟩
    exact hK _ (by first | exact Or.inl rfl | exact Or.inr rfl | assumption)
  · refine ⟨fun c1 => ?_, fun c1 => ?_⟩
    · unfold wpX7_isAct_b16
      unfold wpX7_isAct_b17
      refine ⟨(by first | exact Or.inl rfl | exact Or.inr rfl | assumption), ?_⟩
      exact hK _ (by first | exact Or.inl rfl | exact Or.inr rfl | assumption)
    · unfold wpX7_isAct_b17
      refine ⟨(by first | exact Or.inl rfl | exact Or.inr rfl | assumption), ?_⟩
      exact hK _ (by first | exact Or.inl rfl | exact Or.inr rfl | assumption)
set_option maxHeartbeats 1000000 in
theorem s_X6_actOf {x0 : Int32} {x1 : Int32} {K : Int32 → Unit → Prop} (hK : ∀ v : Int32, K v ()) : wpX6_actOf x0 x1 K := by
  unfold wpX6_actOf
  unfold wpX6_actOf_b0
  exact hK _
set_option maxHeartbeats 1000000 in
theorem s_X7_readAct {F0 : Nat → Nat → Int32} {F : Nat → Nat → Int32} {L : Nat → Nat → Int64} {r : Nat → Nat → Nat} {x1 : Int32} {K : cS → Prop} (hJ : J F0 F r) (hK : ∀ u : cS, J F0 u.1 u.2.2 → K u) : wpX7_readAct F L r x1 K := by
  have q_i := hJ.q2
  unfold wpX7_readAct
  unfold wpX7_readAct_b0
  refine s_X7_isAct (fun r9 hb9 => ?_)
  refine ⟨fun c0 => ?_, fun c0 => ?_⟩
  · refine ⟨fun c1 => ?_, fun c1 => ?_⟩
    · refine s_X7_readNumberOf hJ (fun r55 u55 hJ55  hr55 hf55 => ?_)
      have q_55 := hJ55.q2
      have f10_55 := congrFun (hf55 10 (by decide)) 2
      refine ⟨fun c2 => ?_, fun c2 => ?_⟩
      · unfold wpX7_readAct_b81
        exact hK _ hJ55
      · refine s_X6_actOf (fun r75 => ?_)
        refine ⟨(hJ55).c103, ?_⟩
        refine s_X6_addAct hJ55 (hJ55).c103 (fun u78 hJ78  => ?_)
        have q_78 := hJ78.q2
        unfold wpX7_readAct_b81
        exact hK _ hJ78
    · refine s_X9_refuse hJ (fun u49 hJ49  hr49 hf49 => ?_)
      have q_49 := hJ49.q2
      have f10_49 := congrFun (hf49 10 (by decide)) 2
      exact hK _ hJ49
  · refine s_X9_refuse hJ (fun u27 hJ27  hr27 hf27 => ?_)
    have q_27 := hJ27.q2
    have f10_27 := congrFun (hf27 10 (by decide)) 2
    exact hK _ hJ27
set_option maxHeartbeats 1000000 in
theorem l_X7_readActs_b2 {F0 : Nat → Nat → Int32} {K : cS → Prop} (hK : ∀ u : cS, J F0 u.1 u.2.2 → K u) (n : Nat) : ∀ (F : Nat → Nat → Int32) (L : Nat → Nat → Int64) (r : Nat → Nat → Nat) (x1 : Int32), J F0 F r → 0 ≤ x1 → mu (x1) < n → wpX7_readActs_b2 n F L r x1 K := by
  induction n with
  | zero => intro F L r x1 hJ hi0 hm; exact absurd hm (Nat.not_lt_zero _)
  | succ n ih =>
    intro F L r x1 hJ hi0 hm
    have q_i := hJ.q2
    unfold wpX7_readActs_b2 wpX7_readActs_b2_body
    refine ⟨fun c0 => ?_, fun c0 => ?_⟩
    · unfold wpX7_readActs_b46
      exact hK _ hJ
    · refine ⟨fun c1 => ?_, fun c1 => ?_⟩
      · unfold wpX7_readActs_b46
        exact hK _ hJ
      · refine ⟨fun c2 => ?_, fun c2 => ?_⟩
        · unfold wpX7_readActs_b35
          refine s_X7_readAct hJ (fun u37 hJ37  => ?_)
          have q_37 := hJ37.q2
          exact ih _ _ _ _ hJ37 (by first | assumption | omega | grind | (simp only [pt_r] at *; grind) | (simp [pt_r]; grind)) (lt1 (mu_le c0 (by first | decide | grind)) hm)
        · refine s_X9_isSign hJ (fun r28 hb28 => ?_)
          try dsimp only
          refine ⟨fun c3 => ?_, fun c3 => ?_⟩
          · unfold wpX7_readActs_b35
            refine s_X7_readAct hJ (fun u37 hJ37  => ?_)
            have q_37 := hJ37.q2
            exact ih _ _ _ _ hJ37 (by first | assumption | omega | grind | (simp only [pt_r] at *; grind) | (simp [pt_r]; grind)) (lt1 (mu_le c0 (by first | decide | grind)) hm)
          · exact hK _ hJ
set_option maxHeartbeats 1000000 in
theorem s_X7_readActs {F0 : Nat → Nat → Int32} {F : Nat → Nat → Int32} {L : Nat → Nat → Int64} {r : Nat → Nat → Nat} {K : cS → Prop} (hJ : J F0 F r) (hK : ∀ u : cS, J F0 u.1 u.2.2 → K u) : wpX7_readActs F L r K := by
  have q_i := hJ.q2
  unfold wpX7_readActs
  unfold wpX7_readActs_b0
  exact ⟨_, l_X7_readActs_b2 hK _ _ _ _ _ hJ (by first | assumption | omega | grind | (simp only [pt_r] at *; grind) | (simp [pt_r]; grind)) (Nat.lt_succ_self _)⟩
set_option maxHeartbeats 1000000 in
theorem s_X7_readLine {F0 : Nat → Nat → Int32} {F : Nat → Nat → Int32} {L : Nat → Nat → Int64} {r : Nat → Nat → Nat} {K : cS → Prop} (hJ : J F0 F r) (hK : ∀ u : cS, J F0 u.1 u.2.2 → K u) : wpX7_readLine F L r K := by
  have q_i := hJ.q2
  unfold wpX7_readLine
  unfold wpX7_readLine_b0
  refine ⟨fun c0 => ?_, fun c0 => ?_⟩
  · unfold wpX7_readLine_b15
    refine ⟨fun c1 => ?_, fun c1 => ?_⟩
    · unfold wpX7_readLine_b47
      refine ⟨(hJ).c103, ?_⟩
      refine ⟨fun c2 => ?_, fun c2 => ?_⟩
      · refine ⟨(hJ).c103, ?_⟩
        refine s_X6_openLine hJ (hJ).c103 (fun u79 hJ79  => ?_)
        have q_79 := hJ79.q2
        refine ⟨fun c3 => ?_, fun c3 => ?_⟩
        · unfold wpX7_readLine_b102
          refine ⟨fun c4 => ?_, fun c4 => ?_⟩
          · unfold wpX7_readLine_b123
            refine ⟨fun c5 => ?_, fun c5 => ?_⟩
            · unfold wpX7_readLine_b140
              exact hK _ (J7_2 (by first | assumption | omega | grind | (simp only [pt_r] at *; grind) | (simp [pt_r]; grind)) hJ79)
            · refine s_X9_advance (J7_2 (by first | assumption | omega | grind | (simp only [pt_r] at *; grind) | (simp [pt_r]; grind)) hJ79) (fun u137 hJ137  hr137 hf137 => ?_)
              have q_137 := hJ137.q2
              have f10_137 := congrFun (hf137 10 (by decide)) 2
              unfold wpX7_readLine_b140
              exact hK _ hJ137
          · refine s_X9_advance (J7_2 (by first | assumption | omega | grind | (simp only [pt_r] at *; grind) | (simp [pt_r]; grind)) hJ79) (fun u116 hJ116  hr116 hf116 => ?_)
            have q_116 := hJ116.q2
            have f10_116 := congrFun (hf116 10 (by decide)) 2
            refine s_X7_readActs hJ116 (fun u120 hJ120  => ?_)
            have q_120 := hJ120.q2
            unfold wpX7_readLine_b123
            refine ⟨fun c5 => ?_, fun c5 => ?_⟩
            · unfold wpX7_readLine_b140
              exact hK _ hJ120
            · refine s_X9_advance hJ120 (fun u137 hJ137  hr137 hf137 => ?_)
              have q_137 := hJ137.q2
              have f10_137 := congrFun (hf137 10 (by decide)) 2
              unfold wpX7_readLine_b140
              exact hK _ hJ137
        · refine s_X9_advance (J7_2 (by first | assumption | omega | grind | (simp only [pt_r] at *; grind) | (simp [pt_r]; grind)) hJ79) (fun u95 hJ95  hr95 hf95 => ?_)
          have q_95 := hJ95.q2
          have f10_95 := congrFun (hf95 10 (by decide)) 2
          refine s_X7_readTests hJ95 (fun u99 hJ99  => ?_)
          have q_99 := hJ99.q2
          unfold wpX7_readLine_b102
          refine ⟨fun c4 => ?_, fun c4 => ?_⟩
          · unfold wpX7_readLine_b123
            refine ⟨fun c5 => ?_, fun c5 => ?_⟩
            · unfold wpX7_readLine_b140
              exact hK _ hJ99
            · refine s_X9_advance hJ99 (fun u137 hJ137  hr137 hf137 => ?_)
              have q_137 := hJ137.q2
              have f10_137 := congrFun (hf137 10 (by decide)) 2
              unfold wpX7_readLine_b140
              exact hK _ hJ137
          · refine s_X9_advance hJ99 (fun u116 hJ116  hr116 hf116 => ?_)
            have q_116 := hJ116.q2
            have f10_116 := congrFun (hf116 10 (by decide)) 2
            refine s_X7_readActs hJ116 (fun u120 hJ120  => ?_)
            have q_120 := hJ120.q2
            unfold wpX7_readLine_b123
            refine ⟨fun c5 => ?_, fun c5 => ?_⟩
            · unfold wpX7_readLine_b140
              exact hK _ hJ120
            · refine s_X9_advance hJ120 (fun u137 hJ137  hr137 hf137 => ?_)
              have q_137 := hJ137.q2
              have f10_137 := congrFun (hf137 10 (by decide)) 2
              unfold wpX7_readLine_b140
              exact hK _ hJ137
      · refine s_X9_refuse hJ (fun u71 hJ71  hr71 hf71 => ?_)
        have q_71 := hJ71.q2
        have f10_71 := congrFun (hf71 10 (by decide)) 2
        exact hK _ hJ71
    · refine ⟨fun c2 => ?_, fun c2 => ?_⟩
      · unfold wpX7_readLine_b47
        refine ⟨(hJ).c103, ?_⟩
        refine ⟨fun c3 => ?_, fun c3 => ?_⟩
        · refine ⟨(hJ).c103, ?_⟩
          refine s_X6_openLine hJ (hJ).c103 (fun u79 hJ79  => ?_)
          have q_79 := hJ79.q2
          refine ⟨fun c4 => ?_, fun c4 => ?_⟩
          · unfold wpX7_readLine_b102
            refine ⟨fun c5 => ?_, fun c5 => ?_⟩
            · unfold wpX7_readLine_b123
              refine ⟨fun c6 => ?_, fun c6 => ?_⟩
              · unfold wpX7_readLine_b140
                exact hK _ (J7_2 (by first | assumption | omega | grind | (simp only [pt_r] at *; grind) | (simp [pt_r]; grind)) hJ79)
              · refine s_X9_advance (J7_2 (by first | assumption | omega | grind | (simp only [pt_r] at *; grind) | (simp [pt_r]; grind)) hJ79) (fun u137 hJ137  hr137 hf137 => ?_)
                have q_137 := hJ137.q2
                have f10_137 := congrFun (hf137 10 (by decide)) 2
                unfold wpX7_readLine_b140
                exact hK _ hJ137
            · refine s_X9_advance (J7_2 (by first | assumption | omega | grind | (simp only [pt_r] at *; grind) | (simp [pt_r]; grind)) hJ79) (fun u116 hJ116  hr116 hf116 => ?_)
              have q_116 := hJ116.q2
              have f10_116 := congrFun (hf116 10 (by decide)) 2
              refine s_X7_readActs hJ116 (fun u120 hJ120  => ?_)
              have q_120 := hJ120.q2
              unfold wpX7_readLine_b123
              refine ⟨fun c6 => ?_, fun c6 => ?_⟩
              · unfold wpX7_readLine_b140
                exact hK _ hJ120
              · refine s_X9_advance hJ120 (fun u137 hJ137  hr137 hf137 => ?_)
                have q_137 := hJ137.q2
                have f10_137 := congrFun (hf137 10 (by decide)) 2
                unfold wpX7_readLine_b140
                exact hK _ hJ137
          · refine s_X9_advance (J7_2 (by first | assumption | omega | grind | (simp only [pt_r] at *; grind) | (simp [pt_r]; grind)) hJ79) (fun u95 hJ95  hr95 hf95 => ?_)
            have q_95 := hJ95.q2
            have f10_95 := congrFun (hf95 10 (by decide)) 2
            refine s_X7_readTests hJ95 (fun u99 hJ99  => ?_)
            have q_99 := hJ99.q2
            unfold wpX7_readLine_b102
            refine ⟨fun c5 => ?_, fun c5 => ?_⟩
            · unfold wpX7_readLine_b123
              refine ⟨fun c6 => ?_, fun c6 => ?_⟩
              · unfold wpX7_readLine_b140
                exact hK _ hJ99
              · refine s_X9_advance hJ99 (fun u137 hJ137  hr137 hf137 => ?_)
                have q_137 := hJ137.q2
                have f10_137 := congrFun (hf137 10 (by decide)) 2
                unfold wpX7_readLine_b140
                exact hK _ hJ137
            · refine s_X9_advance hJ99 (fun u116 hJ116  hr116 hf116 => ?_)
              have q_116 := hJ116.q2
              have f10_116 := congrFun (hf116 10 (by decide)) 2
              refine s_X7_readActs hJ116 (fun u120 hJ120  => ?_)
              have q_120 := hJ120.q2
              unfold wpX7_readLine_b123
              refine ⟨fun c6 => ?_, fun c6 => ?_⟩
              · unfold wpX7_readLine_b140
                exact hK _ hJ120
              · refine s_X9_advance hJ120 (fun u137 hJ137  hr137 hf137 => ?_)
                have q_137 := hJ137.q2
                have f10_137 := congrFun (hf137 10 (by decide)) 2
                unfold wpX7_readLine_b140
                exact hK _ hJ137
        · refine s_X9_refuse hJ (fun u71 hJ71  hr71 hf71 => ?_)
          have q_71 := hJ71.q2
          have f10_71 := congrFun (hf71 10 (by decide)) 2
          exact hK _ hJ71
      · refine s_X9_refuse hJ (fun u43 hJ43  hr43 hf43 => ?_)
        have q_43 := hJ43.q2
        have f10_43 := congrFun (hf43 10 (by decide)) 2
        exact hK _ hJ43
  · unfold wpX7_readLine_b15
    refine ⟨fun c1 => ?_, fun c1 => ?_⟩
    · unfold wpX7_readLine_b47
      refine ⟨(hJ).c103, ?_⟩
      refine ⟨fun c2 => ?_, fun c2 => ?_⟩
      · refine ⟨(hJ).c103, ?_⟩
        refine s_X6_openLine hJ (hJ).c103 (fun u79 hJ79  => ?_)
        have q_79 := hJ79.q2
        refine ⟨fun c3 => ?_, fun c3 => ?_⟩
        · unfold wpX7_readLine_b102
          refine ⟨fun c4 => ?_, fun c4 => ?_⟩
          · unfold wpX7_readLine_b123
            refine ⟨fun c5 => ?_, fun c5 => ?_⟩
            · unfold wpX7_readLine_b140
              exact hK _ (J7_2 (by first | assumption | omega | grind | (simp only [pt_r] at *; grind) | (simp [pt_r]; grind)) hJ79)
            · refine s_X9_advance (J7_2 (by first | assumption | omega | grind | (simp only [pt_r] at *; grind) | (simp [pt_r]; grind)) hJ79) (fun u137 hJ137  hr137 hf137 => ?_)
              have q_137 := hJ137.q2
              have f10_137 := congrFun (hf137 10 (by decide)) 2
              unfold wpX7_readLine_b140
              exact hK _ hJ137
          · refine s_X9_advance (J7_2 (by first | assumption | omega | grind | (simp only [pt_r] at *; grind) | (simp [pt_r]; grind)) hJ79) (fun u116 hJ116  hr116 hf116 => ?_)
            have q_116 := hJ116.q2
            have f10_116 := congrFun (hf116 10 (by decide)) 2
            refine s_X7_readActs hJ116 (fun u120 hJ120  => ?_)
            have q_120 := hJ120.q2
            unfold wpX7_readLine_b123
            refine ⟨fun c5 => ?_, fun c5 => ?_⟩
            · unfold wpX7_readLine_b140
              exact hK _ hJ120
            · refine s_X9_advance hJ120 (fun u137 hJ137  hr137 hf137 => ?_)
              have q_137 := hJ137.q2
              have f10_137 := congrFun (hf137 10 (by decide)) 2
              unfold wpX7_readLine_b140
              exact hK _ hJ137
        · refine s_X9_advance (J7_2 (by first | assumption | omega | grind | (simp only [pt_r] at *; grind) | (simp [pt_r]; grind)) hJ79) (fun u95 hJ95  hr95 hf95 => ?_)
          have q_95 := hJ95.q2
          have f10_95 := congrFun (hf95 10 (by decide)) 2
          refine s_X7_readTests hJ95 (fun u99 hJ99  => ?_)
          have q_99 := hJ99.q2
          unfold wpX7_readLine_b102
          refine ⟨fun c4 => ?_, fun c4 => ?_⟩
          · unfold wpX7_readLine_b123
            refine ⟨fun c5 => ?_, fun c5 => ?_⟩
            · unfold wpX7_readLine_b140
              exact hK _ hJ99
            · refine s_X9_advance hJ99 (fun u137 hJ137  hr137 hf137 => ?_)
              have q_137 := hJ137.q2
              have f10_137 := congrFun (hf137 10 (by decide)) 2
              unfold wpX7_readLine_b140
              exact hK _ hJ137
          · refine s_X9_advance hJ99 (fun u116 hJ116  hr116 hf116 => ?_)
            have q_116 := hJ116.q2
            have f10_116 := congrFun (hf116 10 (by decide)) 2
            refine s_X7_readActs hJ116 (fun u120 hJ120  => ?_)
            have q_120 := hJ120.q2
            unfold wpX7_readLine_b123
            refine ⟨fun c5 => ?_, fun c5 => ?_⟩
            · unfold wpX7_readLine_b140
              exact hK _ hJ120
            · refine s_X9_advance hJ120 (fun u137 hJ137  hr137 hf137 => ?_)
              have q_137 := hJ137.q2
              have f10_137 := congrFun (hf137 10 (by decide)) 2
              unfold wpX7_readLine_b140
              exact hK _ hJ137
      · refine s_X9_refuse hJ (fun u71 hJ71  hr71 hf71 => ?_)
        have q_71 := hJ71.q2
        have f10_71 := congrFun (hf71 10 (by decide)) 2
        exact hK _ hJ71
    · refine ⟨fun c2 => ?_, fun c2 => ?_⟩
      · unfold wpX7_readLine_b47
        refine ⟨(hJ).c103, ?_⟩
        refine ⟨fun c3 => ?_, fun c3 => ?_⟩
        · refine ⟨(hJ).c103, ?_⟩
          refine s_X6_openLine hJ (hJ).c103 (fun u79 hJ79  => ?_)
          have q_79 := hJ79.q2
          refine ⟨fun c4 => ?_, fun c4 => ?_⟩
          · unfold wpX7_readLine_b102
            refine ⟨fun c5 => ?_, fun c5 => ?_⟩
            · unfold wpX7_readLine_b123
              refine ⟨fun c6 => ?_, fun c6 => ?_⟩
              · unfold wpX7_readLine_b140
                exact hK _ (J7_2 (by first | assumption | omega | grind | (simp only [pt_r] at *; grind) | (simp [pt_r]; grind)) hJ79)
              · refine s_X9_advance (J7_2 (by first | assumption | omega | grind | (simp only [pt_r] at *; grind) | (simp [pt_r]; grind)) hJ79) (fun u137 hJ137  hr137 hf137 => ?_)
                have q_137 := hJ137.q2
                have f10_137 := congrFun (hf137 10 (by decide)) 2
                unfold wpX7_readLine_b140
                exact hK _ hJ137
            · refine s_X9_advance (J7_2 (by first | assumption | omega | grind | (simp only [pt_r] at *; grind) | (simp [pt_r]; grind)) hJ79) (fun u116 hJ116  hr116 hf116 => ?_)
              have q_116 := hJ116.q2
              have f10_116 := congrFun (hf116 10 (by decide)) 2
              refine s_X7_readActs hJ116 (fun u120 hJ120  => ?_)
              have q_120 := hJ120.q2
              unfold wpX7_readLine_b123
              refine ⟨fun c6 => ?_, fun c6 => ?_⟩
              · unfold wpX7_readLine_b140
                exact hK _ hJ120
              · refine s_X9_advance hJ120 (fun u137 hJ137  hr137 hf137 => ?_)
                have q_137 := hJ137.q2
                have f10_137 := congrFun (hf137 10 (by decide)) 2
                unfold wpX7_readLine_b140
                exact hK _ hJ137
          · refine s_X9_advance (J7_2 (by first | assumption | omega | grind | (simp only [pt_r] at *; grind) | (simp [pt_r]; grind)) hJ79) (fun u95 hJ95  hr95 hf95 => ?_)
            have q_95 := hJ95.q2
            have f10_95 := congrFun (hf95 10 (by decide)) 2
            refine s_X7_readTests hJ95 (fun u99 hJ99  => ?_)
            have q_99 := hJ99.q2
            unfold wpX7_readLine_b102
            refine ⟨fun c5 => ?_, fun c5 => ?_⟩
            · unfold wpX7_readLine_b123
              refine ⟨fun c6 => ?_, fun c6 => ?_⟩
              · unfold wpX7_readLine_b140
                exact hK _ hJ99
              · refine s_X9_advance hJ99 (fun u137 hJ137  hr137 hf137 => ?_)
                have q_137 := hJ137.q2
                have f10_137 := congrFun (hf137 10 (by decide)) 2
                unfold wpX7_readLine_b140
                exact hK _ hJ137
            · refine s_X9_advance hJ99 (fun u116 hJ116  hr116 hf116 => ?_)
              have q_116 := hJ116.q2
              have f10_116 := congrFun (hf116 10 (by decide)) 2
              refine s_X7_readActs hJ116 (fun u120 hJ120  => ?_)
              have q_120 := hJ120.q2
              unfold wpX7_readLine_b123
              refine ⟨fun c6 => ?_, fun c6 => ?_⟩
              · unfold wpX7_readLine_b140
                exact hK _ hJ120
              · refine s_X9_advance hJ120 (fun u137 hJ137  hr137 hf137 => ?_)
                have q_137 := hJ137.q2
                have f10_137 := congrFun (hf137 10 (by decide)) 2
                unfold wpX7_readLine_b140
                exact hK _ hJ137
        · refine s_X9_refuse hJ (fun u71 hJ71  hr71 hf71 => ?_)
          have q_71 := hJ71.q2
          have f10_71 := congrFun (hf71 10 (by decide)) 2
          exact hK _ hJ71
      · refine s_X9_refuse hJ (fun u43 hJ43  hr43 hf43 => ?_)
        have q_43 := hJ43.q2
        have f10_43 := congrFun (hf43 10 (by decide)) 2
        exact hK _ hJ43
