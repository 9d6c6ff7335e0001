set_option maxHeartbeats 1000000 in
theorem s_X11_comesIn {w h : Nat} {f0 : Nat → Int32} {g0 : Nat → Nat → Int32} {f : Nat → Int32} {g : Nat → Nat → Int32} {x1 : Int32} {K : Int32 → ((Nat → Int32) × (Nat → Nat → Int32)) → Prop} (hV : V w h f0 g0 f g) (hp : 0 ≤ x1) (hK : ∀ v : Int32, ∀ u : mS, V w h f0 g0 u.1 u.2 → K v u) : wpX11_comesIn f g x1 K := by
  unfold wpX11_comesIn
  unfold wpX11_comesIn_b0
  exact ⟨_, l_X11_comesIn_b2 hK _ _ _ _ _ hV (by first | assumption | grind | (simp [pt_r, upd_r] <;> grind)) (Nat.lt_succ_self _)⟩
set_option maxHeartbeats 1000000 in
theorem s_X11_mouse {w h : Nat} {f0 : Nat → Int32} {g0 : Nat → Nat → Int32} {f : Nat → Int32} {g : Nat → Nat → Int32} {x1 : Int32} {K : Int32 → ((Nat → Int32) × (Nat → Nat → Int32)) → Prop} (hV : V w h f0 g0 f g) (hK : ∀ v : Int32, ∀ u : mS, V w h f0 g0 u.1 u.2 → K v u) : wpX11_mouse f g x1 K := by
  unfold wpX11_mouse
  unfold wpX11_mouse_b0
  refine ⟨fun c0 => ?_, fun c0 => ?_, fun c0 => ?_, fun c0 => ?_, fun c0 => ?_, fun c0 => ?_⟩
  · exact hK _ _ (Vf (k := 2) rfl hV)
  · exact hK _ _ (Vf (k := 2) rfl hV)
  · exact hK _ _ (Vf (k := 2) rfl hV)
  · exact hK _ _ (Vf (k := 2) rfl hV)
  · exact hK _ _ (Vf (k := 2) rfl hV)
  · exact hK _ _ (Vf (k := 2) rfl hV)
set_option maxHeartbeats 1000000 in
theorem s_X11_fails {w h : Nat} {f0 : Nat → Int32} {g0 : Nat → Nat → Int32} {f : Nat → Int32} {g : Nat → Nat → Int32} {x1 : Int32} {K : Int32 → ((Nat → Int32) × (Nat → Nat → Int32)) → Prop} (hV : V w h f0 g0 f g) (hK : ∀ v : Int32, ∀ u : mS, V w h f0 g0 u.1 u.2 → K v u) : wpX11_fails f g x1 K := by
  unfold wpX11_fails
  unfold wpX11_fails_b0
  exact hK _ _ (Vf (k := 2) rfl hV)
set_option maxHeartbeats 1000000 in
theorem s_X11_look {w h : Nat} {f0 : Nat → Int32} {g0 : Nat → Nat → Int32} {f : Nat → Int32} {g : Nat → Nat → Int32} {x1 : Int32} {x2 : Int32} {K : Int32 → ((Nat → Int32) × (Nat → Nat → Int32)) → Prop} (hV : V w h f0 g0 f g) (hK : ∀ v : Int32, ∀ u : mS, V w h f0 g0 u.1 u.2 → K v u) : wpX11_look f g x1 x2 K := by
  unfold wpX11_look
  unfold wpX11_look_b0
  refine s_X11_isSquare (Vf (k := 2) rfl hV) (fun r7 hb7 hp7 => ?_)
  try dsimp only
  refine ⟨fun c0 => ?_, fun c0 => ?_⟩
  · refine ⟨fun c1 => ?_, fun c1 => ?_, fun c1 => ?_, fun c1 => ?_, fun c1 => ?_⟩
    · refine ⟨vI (c := 36) rfl (by first | assumption | grind | (simp [pt_r, upd_r] <;> grind)) (by first | assumption | grind | (simp [pt_r, upd_r] <;> grind)), ?_⟩
      exact hK _ _ (Vf (k := 2) rfl hV)
    · refine ⟨vI (c := 36) rfl (by first | assumption | grind | (simp [pt_r, upd_r] <;> grind)) (by first | assumption | grind | (simp [pt_r, upd_r] <;> grind)), ?_⟩
      exact hK _ _ (Vf (k := 2) rfl hV)
    · refine ⟨vI (c := 36) rfl (by first | assumption | grind | (simp [pt_r, upd_r] <;> grind)) (by first | assumption | grind | (simp [pt_r, upd_r] <;> grind)), ?_⟩
      exact hK _ _ (Vf (k := 2) rfl hV)
    · refine s_X11_layFar (Vf (k := 2) rfl hV) (fun u74 hV74 => ?_)
      refine ⟨vI (c := 36) rfl (by first | assumption | grind | (simp [pt_r, upd_r] <;> grind)) (by first | assumption | grind | (simp [pt_r, upd_r] <;> grind)), ?_⟩
      exact hK _ _ hV74
    · refine s_X11_fails (Vf (k := 2) rfl hV) (fun r86 u86 hV86 => ?_)
      exact hK _ _ hV86
  · refine s_X11_fails (Vf (k := 2) rfl hV) (fun r15 u15 hV15 => ?_)
    exact hK _ _ hV15
set_option maxHeartbeats 1000000 in
theorem s_X11_setDown {w h : Nat} {f0 : Nat → Int32} {g0 : Nat → Nat → Int32} {f : Nat → Int32} {g : Nat → Nat → Int32} {x1 : Int32} {K : ((Nat → Int32) × (Nat → Nat → Int32)) → Prop} (hV : V w h f0 g0 f g) (hp : 0 ≤ x1 ∧ x1 < nI (w * h)) (hK : ∀ u : mS, V w h f0 g0 u.1 u.2 → K u) : wpX11_setDown f g x1 K := by
  have b41_i := hV.b41
  have b42_i := hV.b42
  have n_i := hV.n
  unfold wpX11_setDown
  unfold wpX11_setDown_b0
  refine s_X11_wipes hV (fun u1 hV1 => ?_)
  have b41_1 := hV1.b41
  have b42_1 := hV1.b42
  have n_1 := hV1.n
  exact hK _ (Vf (k := 44) rfl (Vf (k := 43) rfl (Vu42 (by first | assumption | grind | (simp [pt_r, upd_r] <;> grind)) (Vu41 (by first | assumption | grind | (simp [pt_r, upd_r] <;> grind)) hV1))))
set_option maxHeartbeats 1000000 in
theorem s_X11_isSmallFloor {x0 : Int32} {x1 : Int32} {K : Int32 → Unit → Prop} (hK : ∀ v : Int32, isB v → (v = 0 ∨ (2 ≤ x0 ∧ x0 ≤ 3 ∧ 2 ≤ x1 ∧ x1 ≤ 3)) → K v ()) : wpX11_isSmallFloor x0 x1 K := by
  unfold wpX11_isSmallFloor
  unfold wpX11_isSmallFloor_b0
  refine s_X11_isIn (fun r3 hb3 hp3 => ?_)
  refine ⟨fun c0 => ?_, fun c0 => ?_⟩
  · unfold wpX11_isSmallFloor_b22
    unfold wpX11_isSmallFloor_b23
    refine ⟨(by first | exact Or.inl rfl | exact Or.inr rfl | assumption), ?_⟩
    exact hK _ (by first | exact Or.inl rfl | exact Or.inr rfl | assumption) (by first | assumption | grind | (simp [pt_r, upd_r] <;> grind))
  · refine s_X11_isIn (fun r12 hb12 hp12 => ?_)
    refine ⟨fun c1 => ?_, fun c1 => ?_⟩
    · unfold wpX11_isSmallFloor_b22
      unfold wpX11_isSmallFloor_b23
      refine ⟨(by first | exact Or.inl rfl | exact Or.inr rfl | assumption), ?_⟩
      exact hK _ (by first | exact Or.inl rfl | exact Or.inr rfl | assumption) (by first | assumption | grind | (simp [pt_r, upd_r] <;> grind))
    · unfold wpX11_isSmallFloor_b23
      refine ⟨(by first | exact Or.inl rfl | exact Or.inr rfl | assumption), ?_⟩
      exact hK _ (by first | exact Or.inl rfl | exact Or.inr rfl | assumption) (by first | assumption | grind | (simp [pt_r, upd_r] <;> grind))
set_option maxHeartbeats 1000000 in
theorem l_X11_knows_b19 {w h : Nat} {f0 : Nat → Int32} {g0 : Nat → Nat → Int32} {K : Int32 → ((Nat → Int32) × (Nat → Nat → Int32)) → Prop} (hK : ∀ v : Int32, ∀ u : mS, V w h f0 g0 u.1 u.2 → K v u) (n : Nat) : ∀ (f : Nat → Int32) (g : Nat → Nat → Int32) (x2 : Int32) (x3 : Int32), V w h f0 g0 f g → 0 ≤ x3 → 0 ≤ x2 ∧ x2 < nI (w * h) → mu (x3) < n → wpX11_knows_b19 n f g x2 x3 K := by
  induction n with
  | zero => intro f g x2 x3 hV hi0 hi1 hm; exact absurd hm (Nat.not_lt_zero _)
  | succ n ih =>
    intro f g x2 x3 hV hi0 hi1 hm
    unfold wpX11_knows_b19 wpX11_knows_b19_body
    refine ⟨fun c0 => ?_, fun c0 => ?_⟩
    · exact hK _ _ hV
    · refine ⟨vI (c := 36) rfl (by first | assumption | grind | (simp [pt_r, upd_r] <;> grind)) (by first | assumption | grind | (simp [pt_r, upd_r] <;> grind)), ?_⟩
      refine s_X11_isWall (hV).gx (by first | assumption | grind | (simp [pt_r, upd_r] <;> grind)) (by first | assumption | grind | (simp [pt_r, upd_r] <;> grind)) (fun r35 hb35 hp35 => ?_)
      try dsimp only
      refine ⟨fun c1 => ?_, fun c1 => ?_⟩
      · unfold wpX11_knows_b47
        exact hK _ _ hV
      · refine ⟨fun c2 => ?_, fun c2 => ?_⟩
        · refine ⟨vI (c := 36) rfl (by first | assumption | grind | (simp [pt_r, upd_r] <;> grind)) (by first | assumption | grind | (simp [pt_r, upd_r] <;> grind)), ?_⟩
          refine s_X11_ahead (hV).gx (by first | assumption | grind | (simp [pt_r, upd_r] <;> grind)) (fun r57 hp57 => ?_)
          try dsimp only
          exact ih _ _ _ _ hV (by first | assumption | grind | (simp [pt_r, upd_r] <;> grind)) (by first | assumption | grind | (simp [pt_r, upd_r] <;> grind)) (by exact lt1 (mu_lt (N := 37) (by grind)) hm)
        · unfold wpX11_knows_b47
          exact hK _ _ hV
set_option maxHeartbeats 1000000 in
theorem s_X11_knows {w h : Nat} {f0 : Nat → Int32} {g0 : Nat → Nat → Int32} {f : Nat → Int32} {g : Nat → Nat → Int32} {x1 : Int32} {K : Int32 → ((Nat → Int32) × (Nat → Nat → Int32)) → Prop} (hV : V w h f0 g0 f g) (hK : ∀ v : Int32, ∀ u : mS, V w h f0 g0 u.1 u.2 → K v u) : wpX11_knows f g x1 K := by
  unfold wpX11_knows
  unfold wpX11_knows_b0
  refine s_X11_isSquare (Vf (k := 2) rfl hV) (fun r7 hb7 hp7 => ?_)
  try dsimp only
  refine ⟨fun c0 => ?_, fun c0 => ?_⟩
  · exact ⟨_, l_X11_knows_b19 hK _ _ _ _ _ (Vf (k := 2) rfl hV) (by first | assumption | grind | (simp [pt_r, upd_r] <;> grind)) (by first | assumption | grind | (simp [pt_r, upd_r] <;> grind)) (Nat.lt_succ_self _)⟩
  · exact hK _ _ (Vf (k := 2) rfl hV)
set_option maxHeartbeats 1000000 in
theorem s_X11_felt {w h : Nat} {f0 : Nat → Int32} {g0 : Nat → Nat → Int32} {f : Nat → Int32} {g : Nat → Nat → Int32} {K : Int32 → ((Nat → Int32) × (Nat → Nat → Int32)) → Prop} (hV : V w h f0 g0 f g) (hK : ∀ v : Int32, K v (f, g)) : wpX11_felt f g K := by
  have b41_i := hV.b41
  have b42_i := hV.b42
  have n_i := hV.n
  have w_i := fun i => hV.g47 (i := i)
  unfold wpX11_felt
  unfold wpX11_felt_b0
  refine s_X11_isWall (hV).gx (by first | assumption | grind | (simp [pt_r, upd_r] <;> grind)) (by first | assumption | grind | (simp [pt_r, upd_r] <;> grind)) (fun r9 hb9 hp9 => ?_)
  try dsimp only
  refine ⟨fun c0 => ?_, fun c0 => ?_⟩
  · unfold wpX11_felt_b20
    refine ⟨fun c1 => ?_, fun c1 => ?_⟩
    · unfold wpX11_felt_b36
      refine ⟨vI (c := 36) rfl (by first | assumption | grind | (simp [pt_r, upd_r] <;> grind)) (by first | assumption | grind | (simp [pt_r, upd_r] <;> grind)), ?_⟩
      refine ⟨fun c2 => ?_, fun c2 => ?_⟩
      · unfold wpX11_felt_b57
        refine ⟨vI (c := 36) rfl (by first | assumption | grind | (simp [pt_r, upd_r] <;> grind)) (by first | assumption | grind | (simp [pt_r, upd_r] <;> grind)), ?_⟩
        refine ⟨fun c3 => ?_, fun c3 => ?_⟩
        · unfold wpX11_felt_b77
          exact hK _
        · unfold wpX11_felt_b77
          exact hK _
      · unfold wpX11_felt_b57
        refine ⟨vI (c := 36) rfl (by first | assumption | grind | (simp [pt_r, upd_r] <;> grind)) (by first | assumption | grind | (simp [pt_r, upd_r] <;> grind)), ?_⟩
        refine ⟨fun c3 => ?_, fun c3 => ?_⟩
        · unfold wpX11_felt_b77
          exact hK _
        · unfold wpX11_felt_b77
          exact hK _
    · unfold wpX11_felt_b36
      refine ⟨vI (c := 36) rfl (by first | assumption | grind | (simp [pt_r, upd_r] <;> grind)) (by first | assumption | grind | (simp [pt_r, upd_r] <;> grind)), ?_⟩
      refine ⟨fun c2 => ?_, fun c2 => ?_⟩
      · unfold wpX11_felt_b57
        refine ⟨vI (c := 36) rfl (by first | assumption | grind | (simp [pt_r, upd_r] <;> grind)) (by first | assumption | grind | (simp [pt_r, upd_r] <;> grind)), ?_⟩
        refine ⟨fun c3 => ?_, fun c3 => ?_⟩
        · unfold wpX11_felt_b77
          exact hK _
        · unfold wpX11_felt_b77
          exact hK _
      · unfold wpX11_felt_b57
        refine ⟨vI (c := 36) rfl (by first | assumption | grind | (simp [pt_r, upd_r] <;> grind)) (by first | assumption | grind | (simp [pt_r, upd_r] <;> grind)), ?_⟩
        refine ⟨fun c3 => ?_, fun c3 => ?_⟩
        · unfold wpX11_felt_b77
          exact hK _
        · unfold wpX11_felt_b77
          exact hK _
  · unfold wpX11_felt_b20
    refine ⟨fun c1 => ?_, fun c1 => ?_⟩
    · unfold wpX11_felt_b36
      refine ⟨vI (c := 36) rfl (by first | assumption | grind | (simp [pt_r, upd_r] <;> grind)) (by first | assumption | grind | (simp [pt_r, upd_r] <;> grind)), ?_⟩
      refine ⟨fun c2 => ?_, fun c2 => ?_⟩
      · unfold wpX11_felt_b57
        refine ⟨vI (c := 36) rfl (by first | assumption | grind | (simp [pt_r, upd_r] <;> grind)) (by first | assumption | grind | (simp [pt_r, upd_r] <;> grind)), ?_⟩
        refine ⟨fun c3 => ?_, fun c3 => ?_⟩
        · unfold wpX11_felt_b77
          exact hK _
        · unfold wpX11_felt_b77
          exact hK _
      · unfold wpX11_felt_b57
        refine ⟨vI (c := 36) rfl (by first | assumption | grind | (simp [pt_r, upd_r] <;> grind)) (by first | assumption | grind | (simp [pt_r, upd_r] <;> grind)), ?_⟩
        refine ⟨fun c3 => ?_, fun c3 => ?_⟩
        · unfold wpX11_felt_b77
          exact hK _
        · unfold wpX11_felt_b77
          exact hK _
    · unfold wpX11_felt_b36
      refine ⟨vI (c := 36) rfl (by first | assumption | grind | (simp [pt_r, upd_r] <;> grind)) (by first | assumption | grind | (simp [pt_r, upd_r] <;> grind)), ?_⟩
      refine ⟨fun c2 => ?_, fun c2 => ?_⟩
      · unfold wpX11_felt_b57
        refine ⟨vI (c := 36) rfl (by first | assumption | grind | (simp [pt_r, upd_r] <;> grind)) (by first | assumption | grind | (simp [pt_r, upd_r] <;> grind)), ?_⟩
        refine ⟨fun c3 => ?_, fun c3 => ?_⟩
        · unfold wpX11_felt_b77
          exact hK _
        · unfold wpX11_felt_b77
          exact hK _
      · unfold wpX11_felt_b57
        refine ⟨vI (c := 36) rfl (by first | assumption | grind | (simp [pt_r, upd_r] <;> grind)) (by first | assumption | grind | (simp [pt_r, upd_r] <;> grind)), ?_⟩
        refine ⟨fun c3 => ?_, fun c3 => ?_⟩
        · unfold wpX11_felt_b77
          exact hK _
        · unfold wpX11_felt_b77
          exact hK _
set_option maxHeartbeats 1000000 in
theorem l_X11_works_b8 {w h : Nat} {f0 : Nat → Int32} {g0 : Nat → Nat → Int32} {K : Int32 → ((Nat → Int32) × (Nat → Nat → Int32)) → Prop} (hK : ∀ v : Int32, ∀ u : mS, V w h f0 g0 u.1 u.2 → isB v → K v u) (n : Nat) : ∀ (f : Nat → Int32) (g : Nat → Nat → Int32) (x1 : Int32) (x2 : Int32) (x3 : Int32) (x4 : Int32), V w h f0 g0 f g → 0 ≤ x4 → 0 ≤ x1 ∧ x1 < 24 → mu (x4) < n → wpX11_works_b8 n f g x1 x2 x3 x4 K := by
  induction n with
  | zero => intro f g x1 x2 x3 x4 hV hi0 hi1 hm; exact absurd hm (Nat.not_lt_zero _)
  | succ n ih =>
    intro f g x1 x2 x3 x4 hV hi0 hi1 hm
    unfold wpX11_works_b8 wpX11_works_b8_body
    refine ⟨vI (c := 48) rfl (by first | assumption | grind | (simp [pt_r, upd_r] <;> grind)) (by first | assumption | grind | (simp [pt_r, upd_r] <;> grind)), ?_⟩
    refine ⟨fun c0 => ?_, fun c0 => ?_⟩
    · refine ⟨vI (c := 48) rfl (by first | assumption | grind | (simp [pt_r, upd_r] <;> grind)) (by first | assumption | grind | (simp [pt_r, upd_r] <;> grind)), ?_⟩
      refine ⟨vI (c := 48) rfl (by first | assumption | grind | (simp [pt_r, upd_r] <;> grind)) (by first | assumption | grind | (simp [pt_r, upd_r] <;> grind)), ?_⟩
      refine ⟨fun c1 => ?_, fun c1 => ?_⟩
      · unfold wpX11_works_b256
        unfold wpX11_works_b257
        refine ⟨(by first | exact Or.inl rfl | exact Or.inr rfl | assumption), ?_⟩
        exact hK _ _ hV (by first | exact Or.inl rfl | exact Or.inr rfl | assumption)
      · refine ⟨vI (c := 48) rfl (by first | assumption | grind | (simp [pt_r, upd_r] <;> grind)) (by first | assumption | grind | (simp [pt_r, upd_r] <;> grind)), ?_⟩
        refine ⟨vI (c := 64) rfl (by first | assumption | grind | (simp [pt_r, upd_r] <;> grind)) (by first | assumption | grind | (simp [pt_r, upd_r] <;> grind)), ?_⟩
        refine ⟨fun c2 => ?_, fun c2 => ?_⟩
        · unfold wpX11_works_b256
          unfold wpX11_works_b257
          refine ⟨(by first | exact Or.inl rfl | exact Or.inr rfl | assumption), ?_⟩
          exact hK _ _ hV (by first | exact Or.inl rfl | exact Or.inr rfl | assumption)
        · unfold wpX11_works_b257
          refine ⟨(by first | exact Or.inl rfl | exact Or.inr rfl | assumption), ?_⟩
          exact hK _ _ hV (by first | exact Or.inl rfl | exact Or.inr rfl | assumption)
    · refine ⟨vI (c := 128) rfl (by first | assumption | grind | (simp [pt_r, upd_r] <;> grind)) (by first | assumption | grind | (simp [pt_r, upd_r] <;> grind)), ?_⟩
      refine ⟨fun c1 => ?_, fun c1 => ?_, fun c1 => ?_, fun c1 => ?_, fun c1 => ?_⟩
      · refine ⟨vI (c := 128) rfl (by first | assumption | grind | (simp [pt_r, upd_r] <;> grind)) (by first | assumption | grind | (simp [pt_r, upd_r] <;> grind)), ?_⟩
        refine s_X11_isOf (fun r70 hb70 => ?_)
        refine ⟨vI (c := 64) rfl (by first | assumption | grind | (simp [pt_r, upd_r] <;> grind)) (by first | assumption | grind | (simp [pt_r, upd_r] <;> grind)), ?_⟩
        unfold wpX11_works_b215
        exact ih _ _ _ _ _ _ (Vg (k := 65) rfl hV) (by first | assumption | grind | (simp [pt_r, upd_r] <;> grind)) (by first | assumption | grind | (simp [pt_r, upd_r] <;> grind)) (lt1 (mu_lt c0) hm)
      · refine ⟨vI (c := 128) rfl (by first | assumption | grind | (simp [pt_r, upd_r] <;> grind)) (by first | assumption | grind | (simp [pt_r, upd_r] <;> grind)), ?_⟩
        refine ⟨vI (c := 64) rfl (by first | assumption | grind | (simp [pt_r, upd_r] <;> grind)) (by first | assumption | grind | (simp [pt_r, upd_r] <;> grind)), ?_⟩
        refine ⟨fun c2 => ?_, fun c2 => ?_⟩
        · unfold wpX11_works_b103
          refine ⟨vI (c := 64) rfl (by first | assumption | grind | (simp [pt_r, upd_r] <;> grind)) (by first | assumption | grind | (simp [pt_r, upd_r] <;> grind)), ?_⟩
          unfold wpX11_works_b215
          exact ih _ _ _ _ _ _ (Vg (k := 65) rfl hV) (by first | assumption | grind | (simp [pt_r, upd_r] <;> grind)) (by first | assumption | grind | (simp [pt_r, upd_r] <;> grind)) (lt1 (mu_lt c0) hm)
        · unfold wpX11_works_b103
          refine ⟨vI (c := 64) rfl (by first | assumption | grind | (simp [pt_r, upd_r] <;> grind)) (by first | assumption | grind | (simp [pt_r, upd_r] <;> grind)), ?_⟩
          unfold wpX11_works_b215
          exact ih _ _ _ _ _ _ (Vg (k := 65) rfl hV) (by first | assumption | grind | (simp [pt_r, upd_r] <;> grind)) (by first | assumption | grind | (simp [pt_r, upd_r] <;> grind)) (lt1 (mu_lt c0) hm)
      · refine ⟨vI (c := 128) rfl (by first | assumption | grind | (simp [pt_r, upd_r] <;> grind)) (by first | assumption | grind | (simp [pt_r, upd_r] <;> grind)), ?_⟩
        refine ⟨vI (c := 64) rfl (by first | assumption | grind | (simp [pt_r, upd_r] <;> grind)) (by first | assumption | grind | (simp [pt_r, upd_r] <;> grind)), ?_⟩
        refine ⟨fun c2 => ?_, fun c2 => ?_⟩
        · unfold wpX11_works_b147
          unfold wpX11_works_b148
          refine ⟨vI (c := 64) rfl (by first | assumption | grind | (simp [pt_r, upd_r] <;> grind)) (by first | assumption | grind | (simp [pt_r, upd_r] <;> grind)), ?_⟩
          unfold wpX11_works_b215
          exact ih _ _ _ _ _ _ (Vg (k := 65) rfl hV) (by first | assumption | grind | (simp [pt_r, upd_r] <;> grind)) (by first | assumption | grind | (simp [pt_r, upd_r] <;> grind)) (lt1 (mu_lt c0) hm)
        · refine ⟨vI (c := 128) rfl (by first | assumption | grind | (simp [pt_r, upd_r] <;> grind)) (by first | assumption | grind | (simp [pt_r, upd_r] <;> grind)), ?_⟩
          refine ⟨vI (c := 64) rfl (by first | assumption | grind | (simp [pt_r, upd_r] <;> grind)) (by first | assumption | grind | (simp [pt_r, upd_r] <;> grind)), ?_⟩
          refine ⟨fun c3 => ?_, fun c3 => ?_⟩
          · unfold wpX11_works_b147
            unfold wpX11_works_b148
            refine ⟨vI (c := 64) rfl (by first | assumption | grind | (simp [pt_r, upd_r] <;> grind)) (by first | assumption | grind | (simp [pt_r, upd_r] <;> grind)), ?_⟩
            unfold wpX11_works_b215
            exact ih _ _ _ _ _ _ (Vg (k := 65) rfl hV) (by first | assumption | grind | (simp [pt_r, upd_r] <;> grind)) (by first | assumption | grind | (simp [pt_r, upd_r] <;> grind)) (lt1 (mu_lt c0) hm)
          · unfold wpX11_works_b148
            refine ⟨vI (c := 64) rfl (by first | assumption | grind | (simp [pt_r, upd_r] <;> grind)) (by first | assumption | grind | (simp [pt_r, upd_r] <;> grind)), ?_⟩
            unfold wpX11_works_b215
            exact ih _ _ _ _ _ _ (Vg (k := 65) rfl hV) (by first | assumption | grind | (simp [pt_r, upd_r] <;> grind)) (by first | assumption | grind | (simp [pt_r, upd_r] <;> grind)) (lt1 (mu_lt c0) hm)
      · refine ⟨vI (c := 128) rfl (by first | assumption | grind | (simp [pt_r, upd_r] <;> grind)) (by first | assumption | grind | (simp [pt_r, upd_r] <;> grind)), ?_⟩
        refine ⟨vI (c := 64) rfl (by first | assumption | grind | (simp [pt_r, upd_r] <;> grind)) (by first | assumption | grind | (simp [pt_r, upd_r] <;> grind)), ?_⟩
        refine ⟨fun c2 => ?_, fun c2 => ?_⟩
        · unfold wpX11_works_b188
          unfold wpX11_works_b193
          refine ⟨vI (c := 64) rfl (by first | assumption | grind | (simp [pt_r, upd_r] <;> grind)) (by first | assumption | grind | (simp [pt_r, upd_r] <;> grind)), ?_⟩
          unfold wpX11_works_b215
          exact ih _ _ _ _ _ _ (Vg (k := 65) rfl hV) (by first | assumption | grind | (simp [pt_r, upd_r] <;> grind)) (by first | assumption | grind | (simp [pt_r, upd_r] <;> grind)) (lt1 (mu_lt c0) hm)
        · refine ⟨vI (c := 128) rfl (by first | assumption | grind | (simp [pt_r, upd_r] <;> grind)) (by first | assumption | grind | (simp [pt_r, upd_r] <;> grind)), ?_⟩
          refine ⟨vI (c := 64) rfl (by first | assumption | grind | (simp [pt_r, upd_r] <;> grind)) (by first | assumption | grind | (simp [pt_r, upd_r] <;> grind)), ?_⟩
          refine ⟨fun c3 => ?_, fun c3 => ?_⟩
          · unfold wpX11_works_b193
            refine ⟨vI (c := 64) rfl (by first | assumption | grind | (simp [pt_r, upd_r] <;> grind)) (by first | assumption | grind | (simp [pt_r, upd_r] <;> grind)), ?_⟩
            unfold wpX11_works_b215
            exact ih _ _ _ _ _ _ (Vg (k := 65) rfl hV) (by first | assumption | grind | (simp [pt_r, upd_r] <;> grind)) (by first | assumption | grind | (simp [pt_r, upd_r] <;> grind)) (lt1 (mu_lt c0) hm)
          · unfold wpX11_works_b188
            unfold wpX11_works_b193
            refine ⟨vI (c := 64) rfl (by first | assumption | grind | (simp [pt_r, upd_r] <;> grind)) (by first | assumption | grind | (simp [pt_r, upd_r] <;> grind)), ?_⟩
            unfold wpX11_works_b215
            exact ih _ _ _ _ _ _ (Vg (k := 65) rfl hV) (by first | assumption | grind | (simp [pt_r, upd_r] <;> grind)) (by first | assumption | grind | (simp [pt_r, upd_r] <;> grind)) (lt1 (mu_lt c0) hm)
      · refine ⟨vI (c := 128) rfl (by first | assumption | grind | (simp [pt_r, upd_r] <;> grind)) (by first | assumption | grind | (simp [pt_r, upd_r] <;> grind)), ?_⟩
        refine s_X11_isOf (fun r211 hb211 => ?_)
        refine ⟨vI (c := 64) rfl (by first | assumption | grind | (simp [pt_r, upd_r] <;> grind)) (by first | assumption | grind | (simp [pt_r, upd_r] <;> grind)), ?_⟩
        unfold wpX11_works_b215
        exact ih _ _ _ _ _ _ (Vg (k := 65) rfl hV) (by first | assumption | grind | (simp [pt_r, upd_r] <;> grind)) (by first | assumption | grind | (simp [pt_r, upd_r] <;> grind)) (lt1 (mu_lt c0) hm)
set_option maxHeartbeats 1000000 in
theorem s_X11_works {w h : Nat} {f0 : Nat → Int32} {g0 : Nat → Nat → Int32} {f : Nat → Int32} {g : Nat → Nat → Int32} {x1 : Int32} {x2 : Int32} {x3 : Int32} {K : Int32 → ((Nat → Int32) × (Nat → Nat → Int32)) → Prop} (hV : V w h f0 g0 f g) (hp : 0 ≤ x1 ∧ x1 < 24) (hK : ∀ v : Int32, ∀ u : mS, V w h f0 g0 u.1 u.2 → isB v → K v u) : wpX11_works f g x1 x2 x3 K := by
  unfold wpX11_works
  unfold wpX11_works_b0
  refine ⟨vI (c := 48) rfl (by first | assumption | grind | (simp [pt_r, upd_r] <;> grind)) (by first | assumption | grind | (simp [pt_r, upd_r] <;> grind)), ?_⟩
  exact ⟨_, l_X11_works_b8 hK _ _ _ _ _ _ _ hV (by first | assumption | grind | (simp [pt_r, upd_r] <;> grind)) (by first | assumption | grind | (simp [pt_r, upd_r] <;> grind)) (Nat.lt_succ_self _)⟩
set_option maxHeartbeats 1000000 in
theorem l_X11_pulls_b9 {w h : Nat} {f0 : Nat → Int32} {g0 : Nat → Nat → Int32} {K : ((Nat → Int32) × (Nat → Nat → Int32)) → Prop} (hK : ∀ u : mS, V w h f0 g0 u.1 u.2 → K u) (n : Nat) : ∀ (f : Nat → Int32) (g : Nat → Nat → Int32) (x1 : Int32) (x2 : Int32) (x3 : Int32), V w h f0 g0 f g → 0 ≤ x3 → mu (x3) < n → wpX11_pulls_b9 n f g x1 x2 x3 K := by
  induction n with
  | zero => intro f g x1 x2 x3 hV hi0 hm; exact absurd hm (Nat.not_lt_zero _)
  | succ n ih =>
    intro f g x1 x2 x3 hV hi0 hm
    have b20_i := hV.b20
    have b41_i := hV.b41
    have b42_i := hV.b42
    have n_i := hV.n
    have w_i := fun i => hV.g47 (i := i)
    unfold wpX11_pulls_b9 wpX11_pulls_b9_body
    refine ⟨fun c0 => ?_, fun c0 => ?_⟩
    · refine s_X11_works (Vf (k := 45) rfl hV) (by first | assumption | grind | (simp [pt_r, upd_r] <;> grind)) (fun r82 u82 hV82 hb82 => ?_)
      have b20_82 := hV82.b20
      have b41_82 := hV82.b41
      have b42_82 := hV82.b42
      have n_82 := hV82.n
      have w_82 := fun i => hV82.g47 (i := i)
      refine ⟨fun c1 => ?_, fun c1 => ?_⟩
      · unfold wpX11_pulls_b101
        refine s_X11_works hV82 (by first | assumption | grind | (simp [pt_r, upd_r] <;> grind)) (fun r106 u106 hV106 hb106 => ?_)
        have b20_106 := hV106.b20
        have b41_106 := hV106.b41
        have b42_106 := hV106.b42
        have n_106 := hV106.n
        have w_106 := fun i => hV106.g47 (i := i)
        refine s_X11_works hV106 (by first | assumption | grind | (simp [pt_r, upd_r] <;> grind)) (fun r115 u115 hV115 hb115 => ?_)
        have b20_115 := hV115.b20
        have b41_115 := hV115.b41
        have b42_115 := hV115.b42
        have n_115 := hV115.n
        have w_115 := fun i => hV115.g47 (i := i)
        refine s_X11_works hV115 (by first | assumption | grind | (simp [pt_r, upd_r] <;> grind)) (fun r125 u125 hV125 hb125 => ?_)
        have b20_125 := hV125.b20
        have b41_125 := hV125.b41
        have b42_125 := hV125.b42
        have n_125 := hV125.n
        have w_125 := fun i => hV125.g47 (i := i)
        refine ⟨fun c2 => ?_, fun c2 => ?_⟩
        · unfold wpX11_pulls_b146
          refine ⟨fun c3 => ?_, fun c3 => ?_⟩
          · unfold wpX11_pulls_b163
            refine ⟨fun c4 => ?_, fun c4 => ?_⟩
            · unfold wpX11_pulls_b172
              exact hK _ hV125
            · refine s_X11_goes hV125 (fun u169 hV169 => ?_)
              have b20_169 := hV169.b20
              have b41_169 := hV169.b41
              have b42_169 := hV169.b42
              have n_169 := hV169.n
              have w_169 := fun i => hV169.g47 (i := i)
              unfold wpX11_pulls_b172
              exact hK _ hV169
          · unfold wpX11_pulls_b163
            refine ⟨fun c4 => ?_, fun c4 => ?_⟩
            · unfold wpX11_pulls_b172
              exact hK _ (Vu42 (by first | assumption | exact jr4 (by grind) | grind) hV125)
            · refine s_X11_goes (Vu42 (by first | assumption | exact jr4 (by grind) | grind) hV125) (fun u169 hV169 => ?_)
              have b20_169 := hV169.b20
              have b41_169 := hV169.b41
              have b42_169 := hV169.b42
              have n_169 := hV169.n
              have w_169 := fun i => hV169.g47 (i := i)
              unfold wpX11_pulls_b172
              exact hK _ hV169
        · unfold wpX11_pulls_b146
          refine ⟨fun c3 => ?_, fun c3 => ?_⟩
          · unfold wpX11_pulls_b163
            refine ⟨fun c4 => ?_, fun c4 => ?_⟩
            · unfold wpX11_pulls_b172
              exact hK _ (Vu42 (by first | assumption | exact jr4 (by grind) | grind) hV125)
            · refine s_X11_goes (Vu42 (by first | assumption | exact jr4 (by grind) | grind) hV125) (fun u169 hV169 => ?_)
              have b20_169 := hV169.b20
              have b41_169 := hV169.b41
              have b42_169 := hV169.b42
              have n_169 := hV169.n
              have w_169 := fun i => hV169.g47 (i := i)
              unfold wpX11_pulls_b172
              exact hK _ hV169
          · unfold wpX11_pulls_b163
            refine ⟨fun c4 => ?_, fun c4 => ?_⟩
            · unfold wpX11_pulls_b172
              exact hK _ (Vu42 (by first | assumption | exact jr4 (by grind) | grind) (Vu42 (by first | assumption | exact jr4 (by grind) | grind) hV125))
            · refine s_X11_goes (Vu42 (by first | assumption | exact jr4 (by grind) | grind) (Vu42 (by first | assumption | exact jr4 (by grind) | grind) hV125)) (fun u169 hV169 => ?_)
              have b20_169 := hV169.b20
              have b41_169 := hV169.b41
              have b42_169 := hV169.b42
              have n_169 := hV169.n
              have w_169 := fun i => hV169.g47 (i := i)
              unfold wpX11_pulls_b172
              exact hK _ hV169
      · refine ⟨vI (c := 36) rfl (by first | assumption | grind | (simp [pt_r, upd_r] <;> grind)) (by first | assumption | grind | (simp [pt_r, upd_r] <;> grind)), ?_⟩
        unfold wpX11_pulls_b101
        refine s_X11_works (Vg47 (by first | assumption | grind | (simp [pt_r, upd_r] <;> grind)) hV82) (by first | assumption | grind | (simp [pt_r, upd_r] <;> grind)) (fun r106 u106 hV106 hb106 => ?_)
        have b20_106 := hV106.b20
        have b41_106 := hV106.b41
        have b42_106 := hV106.b42
        have n_106 := hV106.n
        have w_106 := fun i => hV106.g47 (i := i)
        refine s_X11_works hV106 (by first | assumption | grind | (simp [pt_r, upd_r] <;> grind)) (fun r115 u115 hV115 hb115 => ?_)
        have b20_115 := hV115.b20
        have b41_115 := hV115.b41
        have b42_115 := hV115.b42
        have n_115 := hV115.n
        have w_115 := fun i => hV115.g47 (i := i)
        refine s_X11_works hV115 (by first | assumption | grind | (simp [pt_r, upd_r] <;> grind)) (fun r125 u125 hV125 hb125 => ?_)
        have b20_125 := hV125.b20
        have b41_125 := hV125.b41
        have b42_125 := hV125.b42
        have n_125 := hV125.n
        have w_125 := fun i => hV125.g47 (i := i)
        refine ⟨fun c2 => ?_, fun c2 => ?_⟩
        · unfold wpX11_pulls_b146
          refine ⟨fun c3 => ?_, fun c3 => ?_⟩
          · unfold wpX11_pulls_b163
            refine ⟨fun c4 => ?_, fun c4 => ?_⟩
            · unfold wpX11_pulls_b172
              exact hK _ hV125
            · refine s_X11_goes hV125 (fun u169 hV169 => ?_)
              have b20_169 := hV169.b20
              have b41_169 := hV169.b41
              have b42_169 := hV169.b42
              have n_169 := hV169.n
              have w_169 := fun i => hV169.g47 (i := i)
              unfold wpX11_pulls_b172
              exact hK _ hV169
          · unfold wpX11_pulls_b163
            refine ⟨fun c4 => ?_, fun c4 => ?_⟩
            · unfold wpX11_pulls_b172
              exact hK _ (Vu42 (by first | assumption | exact jr4 (by grind) | grind) hV125)
            · refine s_X11_goes (Vu42 (by first | assumption | exact jr4 (by grind) | grind) hV125) (fun u169 hV169 => ?_)
              have b20_169 := hV169.b20
              have b41_169 := hV169.b41
              have b42_169 := hV169.b42
              have n_169 := hV169.n
              have w_169 := fun i => hV169.g47 (i := i)
              unfold wpX11_pulls_b172
              exact hK _ hV169
        · unfold wpX11_pulls_b146
          refine ⟨fun c3 => ?_, fun c3 => ?_⟩
          · unfold wpX11_pulls_b163
            refine ⟨fun c4 => ?_, fun c4 => ?_⟩
            · unfold wpX11_pulls_b172
              exact hK _ (Vu42 (by first | assumption | exact jr4 (by grind) | grind) hV125)
            · refine s_X11_goes (Vu42 (by first | assumption | exact jr4 (by grind) | grind) hV125) (fun u169 hV169 => ?_)
              have b20_169 := hV169.b20
              have b41_169 := hV169.b41
              have b42_169 := hV169.b42
              have n_169 := hV169.n
              have w_169 := fun i => hV169.g47 (i := i)
              unfold wpX11_pulls_b172
              exact hK _ hV169
          · unfold wpX11_pulls_b163
            refine ⟨fun c4 => ?_, fun c4 => ?_⟩
            · unfold wpX11_pulls_b172
              exact hK _ (Vu42 (by first | assumption | exact jr4 (by grind) | grind) (Vu42 (by first | assumption | exact jr4 (by grind) | grind) hV125))
            · refine s_X11_goes (Vu42 (by first | assumption | exact jr4 (by grind) | grind) (Vu42 (by first | assumption | exact jr4 (by grind) | grind) hV125)) (fun u169 hV169 => ?_)
              have b20_169 := hV169.b20
              have b41_169 := hV169.b41
              have b42_169 := hV169.b42
              have n_169 := hV169.n
              have w_169 := fun i => hV169.g47 (i := i)
              unfold wpX11_pulls_b172
              exact hK _ hV169
    · refine s_X11_isOf (fun r22 hb22 => ?_)
      refine ⟨fun c1 => ?_, fun c1 => ?_⟩
      · refine s_X11_works hV (by first | assumption | grind | (simp [pt_r, upd_r] <;> grind)) (fun r46 u46 hV46 hb46 => ?_)
        have b20_46 := hV46.b20
        have b41_46 := hV46.b41
        have b42_46 := hV46.b42
        have n_46 := hV46.n
        have w_46 := fun i => hV46.g47 (i := i)
        unfold wpX11_pulls_b49
        refine ⟨fun c2 => ?_, fun c2 => ?_⟩
        · unfold wpX11_pulls_b64
          exact ih _ _ _ _ _ hV46 (by first | assumption | grind | (simp [pt_r, upd_r] <;> grind)) (lt1 (mu_lt c0) hm)
        · unfold wpX11_pulls_b64
          exact ih _ _ _ _ _ hV46 (by first | assumption | grind | (simp [pt_r, upd_r] <;> grind)) (lt1 (mu_lt c0) hm)
      · refine s_X11_isOf (fun r33 hb33 => ?_)
        unfold wpX11_pulls_b49
        refine ⟨fun c2 => ?_, fun c2 => ?_⟩
        · unfold wpX11_pulls_b64
          exact ih _ _ _ _ _ hV (by first | assumption | grind | (simp [pt_r, upd_r] <;> grind)) (lt1 (mu_lt c0) hm)
        · unfold wpX11_pulls_b64
          exact ih _ _ _ _ _ hV (by first | assumption | grind | (simp [pt_r, upd_r] <;> grind)) (lt1 (mu_lt c0) hm)
