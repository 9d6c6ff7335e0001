set_option maxHeartbeats 1000000 in
theorem l_X11_race_b26 {w h : Nat} {f0 : Nat → Int32} {g0 : Nat → Nat → Int32} {K : Int32 → ((Nat → Int32) × (Nat → Nat → Int32)) → Prop} (hK : ∀ v : Int32, ∀ u : mS, V w h f0 g0 u.1 u.2 → K v u) (n : Nat) : ∀ (f : Nat → Int32) (g : Nat → Nat → Int32) (x1 : Int32) (x2 : Int32), V w h f0 g0 f g → 0 ≤ x2 → mu (x2) < n → wpX11_race_b26 n f g x1 x2 K := by
  induction n with
  | zero => intro f g x1 x2 hV hi0 hm; exact absurd hm (Nat.not_lt_zero _)
  | succ n ih =>
    intro f g x1 x2 hV hi0 hm
    have b20_i := hV.b20
    unfold wpX11_race_b26 wpX11_race_b26_body
    refine ⟨fun c0 => ?_, fun c0 => ?_⟩
    · exact hK _ _ hV
    · exact ⟨_, l_X11_race_b38 hK ih _ _ _ _ _ _ hV (by first | assumption | (exact lt1 (mu_lt (by assumption)) hm) | grind) (by first | assumption | (exact lt1 (mu_lt (by assumption)) hm) | grind) (by first | assumption | (exact lt1 (mu_lt (by assumption)) hm) | grind) (Nat.lt_succ_self _)⟩
set_option maxHeartbeats 1000000 in
theorem s_X11_race {w h : Nat} {f0 : Nat → Int32} {g0 : Nat → Nat → Int32} {f : Nat → Int32} {g : Nat → Nat → Int32} {K : Int32 → ((Nat → Int32) × (Nat → Nat → Int32)) → Prop} (hV : V w h f0 g0 f g) (hK : ∀ v : Int32, ∀ u : mS, V w h f0 g0 u.1 u.2 → K v u) : wpX11_race f g K := by
  have b20_i := hV.b20
  unfold wpX11_race
  unfold wpX11_race_b0
  refine ⟨fun c0 => ?_, fun c0 => ?_⟩
  · exact ⟨_, l_X11_race_b26 hK _ _ _ _ _ (Vf (k := 2) rfl hV) (by first | assumption | (exact lt1 (mu_lt (by assumption)) hm) | grind) (Nat.lt_succ_self _)⟩
  · exact hK _ _ (Vf (k := 2) rfl hV)
set_option maxHeartbeats 1000000 in
theorem s_X11_sticks {w h : Nat} {f0 : Nat → Int32} {g0 : Nat → Nat → Int32} {f : Nat → Int32} {g : Nat → Nat → Int32} {x1 : Int32} {x2 : Int32} {K : ((Nat → Int32) × (Nat → Nat → Int32)) → Prop} (hV : V w h f0 g0 f g) (hK : ∀ u : mS, V w h f0 g0 u.1 u.2 → K u) : wpX11_sticks f g x1 x2 K := by
  unfold wpX11_sticks
  unfold wpX11_sticks_b0
  refine ⟨fun c0 => ?_, fun c0 => ?_⟩
  · unfold wpX11_sticks_b27
    refine ⟨fun c1 => ?_, fun c1 => ?_⟩
    · unfold wpX11_sticks_b57
      refine ⟨fun c2 => ?_, fun c2 => ?_⟩
      · unfold wpX11_sticks_b95
        exact hK _ (Vf (k := 50) rfl (Vf (k := 49) rfl hV))
      · refine ⟨fun c3 => ?_, fun c3 => ?_⟩
        · unfold wpX11_sticks_b92
          unfold wpX11_sticks_b95
          exact hK _ (Vf (k := 45) rfl (Vf (k := 50) rfl (Vf (k := 49) rfl hV)))
        · unfold wpX11_sticks_b92
          unfold wpX11_sticks_b95
          exact hK _ (Vf (k := 45) rfl (Vf (k := 50) rfl (Vf (k := 49) rfl hV)))
    · unfold wpX11_sticks_b57
      refine ⟨fun c2 => ?_, fun c2 => ?_⟩
      · unfold wpX11_sticks_b95
        exact hK _ (Vf (k := 50) rfl (Vf (k := 49) rfl hV))
      · refine ⟨fun c3 => ?_, fun c3 => ?_⟩
        · unfold wpX11_sticks_b92
          unfold wpX11_sticks_b95
          exact hK _ (Vf (k := 45) rfl (Vf (k := 50) rfl (Vf (k := 49) rfl hV)))
        · unfold wpX11_sticks_b92
          unfold wpX11_sticks_b95
          exact hK _ (Vf (k := 45) rfl (Vf (k := 50) rfl (Vf (k := 49) rfl hV)))
  · unfold wpX11_sticks_b27
    refine ⟨fun c1 => ?_, fun c1 => ?_⟩
    · unfold wpX11_sticks_b57
      refine ⟨fun c2 => ?_, fun c2 => ?_⟩
      · unfold wpX11_sticks_b95
        exact hK _ (Vf (k := 50) rfl (Vf (k := 49) rfl hV))
      · refine ⟨fun c3 => ?_, fun c3 => ?_⟩
        · unfold wpX11_sticks_b92
          unfold wpX11_sticks_b95
          exact hK _ (Vf (k := 45) rfl (Vf (k := 50) rfl (Vf (k := 49) rfl hV)))
        · unfold wpX11_sticks_b92
          unfold wpX11_sticks_b95
          exact hK _ (Vf (k := 45) rfl (Vf (k := 50) rfl (Vf (k := 49) rfl hV)))
    · unfold wpX11_sticks_b57
      refine ⟨fun c2 => ?_, fun c2 => ?_⟩
      · unfold wpX11_sticks_b95
        exact hK _ (Vf (k := 50) rfl (Vf (k := 49) rfl hV))
      · refine ⟨fun c3 => ?_, fun c3 => ?_⟩
        · unfold wpX11_sticks_b92
          unfold wpX11_sticks_b95
          exact hK _ (Vf (k := 45) rfl (Vf (k := 50) rfl (Vf (k := 49) rfl hV)))
        · unfold wpX11_sticks_b92
          unfold wpX11_sticks_b95
          exact hK _ (Vf (k := 45) rfl (Vf (k := 50) rfl (Vf (k := 49) rfl hV)))
set_option maxHeartbeats 1000000 in
theorem s_X11_stick {w h : Nat} {f0 : Nat → Int32} {g0 : Nat → Nat → Int32} {f : Nat → Int32} {g : Nat → Nat → Int32} {x1 : Int32} {x2 : Int32} {K : Int32 → ((Nat → Int32) × (Nat → Nat → Int32)) → Prop} (hV : V w h f0 g0 f g) (hK : ∀ v : Int32, ∀ u : mS, V w h f0 g0 u.1 u.2 → isB v → K v u) : wpX11_stick f g x1 x2 K := by
  have b20_i := hV.b20
  unfold wpX11_stick
  unfold wpX11_stick_b0
  refine ⟨fun c0 => ?_, fun c0 => ?_⟩
  · unfold wpX11_stick_b26
    exact hK _ _ (Vf (k := 2) rfl hV) (by first | exact Or.inl rfl | exact Or.inr rfl | assumption)
  · refine ⟨fun c1 => ?_, fun c1 => ?_⟩
    · unfold wpX11_stick_b26
      exact hK _ _ (Vf (k := 2) rfl hV) (by first | exact Or.inl rfl | exact Or.inr rfl | assumption)
    · refine s_X11_isIn (fun r20 hb20 hp20 => ?_)
      refine ⟨fun c2 => ?_, fun c2 => ?_⟩
      · refine s_X11_sticks (Vf (k := 2) rfl hV) (fun u31 hV31 => ?_)
        have b20_31 := hV31.b20
        exact hK _ _ hV31 (by first | exact Or.inl rfl | exact Or.inr rfl | assumption)
      · unfold wpX11_stick_b26
        exact hK _ _ (Vf (k := 2) rfl hV) (by first | exact Or.inl rfl | exact Or.inr rfl | assumption)
set_option maxHeartbeats 1000000 in
theorem s_X11_stuck {w h : Nat} {f0 : Nat → Int32} {g0 : Nat → Nat → Int32} {f : Nat → Int32} {g : Nat → Nat → Int32} {K : Int32 → ((Nat → Int32) × (Nat → Nat → Int32)) → Prop} (hV : V w h f0 g0 f g) (hK : ∀ v : Int32, ∀ u : mS, V w h f0 g0 u.1 u.2 → K v u) : wpX11_stuck f g K := by
  unfold wpX11_stuck
  unfold wpX11_stuck_b0
  exact hK _ _ (Vf (k := 2) rfl hV)
set_option maxHeartbeats 1000000 in
theorem l_X11_manyOf_b4 {K : Int32 → Unit → Prop} (hK : ∀ v : Int32, K v ()) (n : Nat) : ∀ (x0 : Int32) (x1 : Int32) (x2 : Int32), 0 ≤ x2 → mu (x2) < n → wpX11_manyOf_b4 n x0 x1 x2 K := by
  induction n with
  | zero => intro x0 x1 x2 hi0 hm; exact absurd hm (Nat.not_lt_zero _)
  | succ n ih =>
    intro x0 x1 x2 hi0 hm
    unfold wpX11_manyOf_b4 wpX11_manyOf_b4_body
    refine ⟨fun c0 => ?_, fun c0 => ?_⟩
    · exact hK _
    · exact ih _ _ _ (by first | assumption | grind | (simp [pt_r, upd_r] <;> grind)) (lt1 (mu_lt c0) hm)
set_option maxHeartbeats 1000000 in
theorem s_X11_manyOf {x0 : Int32} {K : Int32 → Unit → Prop} (hK : ∀ v : Int32, K v ()) : wpX11_manyOf x0 K := by
  unfold wpX11_manyOf
  unfold wpX11_manyOf_b0
  exact ⟨_, l_X11_manyOf_b4 hK _ _ _ _ (by first | assumption | grind | (simp [pt_r, upd_r] <;> grind)) (Nat.lt_succ_self _)⟩
set_option maxHeartbeats 1000000 in
theorem l_X11_count_b74 {w h : Nat} {f0 : Nat → Int32} {g0 : Nat → Nat → Int32} {K : Int32 → ((Nat → Int32) × (Nat → Nat → Int32)) → Prop} (hK : ∀ v : Int32, ∀ u : mS, V w h f0 g0 u.1 u.2 → K v u) (n : Nat) : ∀ (f : Nat → Int32) (g : Nat → Nat → Int32) (x2 : Int32) (x3 : Int32), V w h f0 g0 f g → 0 ≤ x3 → mu (x3) < n → wpX11_count_b74 n f g x2 x3 K := by
  induction n with
  | zero => intro f g x2 x3 hV hi0 hm; exact absurd hm (Nat.not_lt_zero _)
  | succ n ih =>
    intro f g x2 x3 hV hi0 hm
    have n_i := hV.n
    unfold wpX11_count_b74 wpX11_count_b74_body
    refine s_X11_wallMany (hV).gx (fun r76 hp76 => ?_)
    try dsimp only
    refine ⟨fun c0 => ?_, fun c0 => ?_⟩
    · exact hK _ _ hV
    · refine s_X11_wallAt (hV).gx (by first | assumption | exact (na_in hV.ge.2 (wk_na hV.ge.2 (by assumption) (by assumption))).1 | exact (na_in hV.ge.2 (wk_na hV.ge.2 (by assumption) (by assumption))).2 | grind) (fun r86 hp86 => ?_)
      try dsimp only
      refine s_X11_wallAt (hV).gx (by first | assumption | exact (na_in hV.ge.2 (wk_na hV.ge.2 (by assumption) (by assumption))).1 | exact (na_in hV.ge.2 (wk_na hV.ge.2 (by assumption) (by assumption))).2 | grind) (fun r93 hp93 => ?_)
      try dsimp only
      refine s_X11_isWall (hV).gx (by first | assumption | exact (na_in hV.ge.2 (wk_na hV.ge.2 (by assumption) (by assumption))).1 | exact (na_in hV.ge.2 (wk_na hV.ge.2 (by assumption) (by assumption))).2 | grind) (by first | assumption | exact (na_in hV.ge.2 (wk_na hV.ge.2 (by assumption) (by assumption))).1 | exact (na_in hV.ge.2 (wk_na hV.ge.2 (by assumption) (by assumption))).2 | grind) (fun r98 hb98 hp98 => ?_)
      try dsimp only
      refine ⟨fun c1 => ?_, fun c1 => ?_⟩
      · unfold wpX11_count_b109
        exact ih _ _ _ _ hV (by first | assumption | grind | (simp [pt_r, upd_r] <;> grind)) (lt1 (mu_lt c0) hm)
      · unfold wpX11_count_b109
        exact ih _ _ _ _ hV (by first | assumption | grind | (simp [pt_r, upd_r] <;> grind)) (lt1 (mu_lt c0) hm)
set_option maxHeartbeats 1000000 in
theorem l_X11_count_b126 {w h : Nat} {f0 : Nat → Int32} {g0 : Nat → Nat → Int32} {K : Int32 → ((Nat → Int32) × (Nat → Nat → Int32)) → Prop} (hK : ∀ v : Int32, ∀ u : mS, V w h f0 g0 u.1 u.2 → K v u) (n : Nat) : ∀ (f : Nat → Int32) (g : Nat → Nat → Int32) (x2 : Int32) (x3 : Int32), V w h f0 g0 f g → 0 ≤ x3 → mu (x3) < n → wpX11_count_b126 n f g x2 x3 K := by
  induction n with
  | zero => intro f g x2 x3 hV hi0 hm; exact absurd hm (Nat.not_lt_zero _)
  | succ n ih =>
    intro f g x2 x3 hV hi0 hm
    have n_i := hV.n
    unfold wpX11_count_b126 wpX11_count_b126_body
    refine ⟨fun c0 => ?_, fun c0 => ?_⟩
    · exact hK _ _ hV
    · refine ⟨vI (c := 4) rfl (by first | assumption | grind | (simp [pt_r, upd_r] <;> grind)) (by first | assumption | grind | (simp [pt_r, upd_r] <;> grind)), ?_⟩
      refine ⟨fun c1 => ?_, fun c1 => ?_⟩
      · unfold wpX11_count_b146
        exact ih _ _ _ _ hV (by first | assumption | grind | (simp [pt_r, upd_r] <;> grind)) (lt1 (mu_lt c0) hm)
      · unfold wpX11_count_b146
        exact ih _ _ _ _ hV (by first | assumption | grind | (simp [pt_r, upd_r] <;> grind)) (lt1 (mu_lt c0) hm)
set_option maxHeartbeats 1000000 in
theorem s_X11_count {w h : Nat} {f0 : Nat → Int32} {g0 : Nat → Nat → Int32} {f : Nat → Int32} {g : Nat → Nat → Int32} {x1 : Int32} {K : Int32 → ((Nat → Int32) × (Nat → Nat → Int32)) → Prop} (hV : V w h f0 g0 f g) (hK : ∀ v : Int32, ∀ u : mS, V w h f0 g0 u.1 u.2 → K v u) : wpX11_count f g x1 K := by
  have n_i := hV.n
  unfold wpX11_count
  unfold wpX11_count_b0
  refine ⟨fun c0 => ?_, fun c0 => ?_, fun c0 => ?_, fun c0 => ?_, fun c0 => ?_, fun c0 => ?_, fun c0 => ?_, fun c0 => ?_⟩
  · refine s_X11_squares ((Vf (k := 2) rfl hV)).gx (fun r53 hp53 => ?_)
    try dsimp only
    exact hK _ _ (Vf (k := 2) rfl hV)
  · exact hK _ _ (Vf (k := 2) rfl hV)
  · exact hK _ _ (Vf (k := 2) rfl hV)
  · exact hK _ _ (Vf (k := 2) rfl hV)
  · exact ⟨_, l_X11_count_b74 hK _ _ _ _ _ (Vf (k := 2) rfl hV) (by first | assumption | grind | (simp [pt_r, upd_r] <;> grind)) (Nat.lt_succ_self _)⟩
  · exact hK _ _ (Vf (k := 2) rfl hV)
  · exact ⟨_, l_X11_count_b126 hK _ _ _ _ _ (Vf (k := 2) rfl hV) (by first | assumption | grind | (simp [pt_r, upd_r] <;> grind)) (Nat.lt_succ_self _)⟩
  · exact hK _ _ (Vf (k := 2) rfl hV)

