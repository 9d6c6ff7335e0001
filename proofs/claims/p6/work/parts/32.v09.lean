set_option maxHeartbeats 1000000 in
theorem s_X11_knows {w h : Nat} {f0 : Nat → Int32} {g0 : Nat → Nat → Int32} {f : Nat → Int32} {g : Nat → Nat → Int32} {x1 : Int32} {K : Int32 → ((Nat → Int32) × (Nat → Nat → Int32)) → Prop} (hV : V w h f0 g0 f g) (hK : ∀ v : Int32, ∀ u : mS, V w h f0 g0 u.1 u.2 → K v u) : wpX11_knows f g x1 K := by
  have n_i := hV.n
  have w_i := fun i => hV.g47 (i := i)
  unfold wpX11_knows
  unfold wpX11_knows_b0
  refine s_X11_isSquare (Vf (k := 2) rfl hV) (fun r7 hb7 hp7 => ?_)
  try dsimp only
  refine ⟨fun c0 => ?_, fun c0 => ?_⟩
  · exact ⟨_, l_X11_knows_b19 hK _ _ _ _ _ (Vf (k := 2) rfl hV) (by first | assumption | grind | (simp [pt_r, upd_r] <;> grind)) (by first | assumption | grind | (simp [pt_r, upd_r] <;> grind)) (Nat.lt_succ_self _)⟩
  · exact hK _ _ (Vf (k := 2) rfl hV)
set_option maxHeartbeats 1000000 in
theorem s_X11_felt {w h : Nat} {f0 : Nat → Int32} {g0 : Nat → Nat → Int32} {f : Nat → Int32} {g : Nat → Nat → Int32} {K : Int32 → ((Nat → Int32) × (Nat → Nat → Int32)) → Prop} (hV : V w h f0 g0 f g) (hK : ∀ v : Int32, K v (f, g)) : wpX11_felt f g K := by
  have b41_i := hV.b41
  have b42_i := hV.b42
  have n_i := hV.n
  have w_i := fun i => hV.g47 (i := i)
  unfold wpX11_felt
  unfold wpX11_felt_b0
  refine s_X11_isWall (hV).gx (by first | assumption | grind | (simp [pt_r, upd_r] <;> grind)) (by first | assumption | grind | (simp [pt_r, upd_r] <;> grind)) (fun r9 hb9 hp9 => ?_)
  try dsimp only
  refine ⟨fun c0 => ?_, fun c0 => ?_⟩
  · unfold wpX11_felt_b20
    refine ⟨fun c1 => ?_, fun c1 => ?_⟩
    · unfold wpX11_felt_b36
      refine ⟨vI (c := 36) rfl (by first | assumption | grind | (simp [pt_r, upd_r] <;> grind)) (by first | assumption | grind | (simp [pt_r, upd_r] <;> grind)), ?_⟩
      refine ⟨fun c2 => ?_, fun c2 => ?_⟩
      · unfold wpX11_felt_b57
        refine ⟨vI (c := 36) rfl (by first | assumption | grind | (simp [pt_r, upd_r] <;> grind)) (by first | assumption | grind | (simp [pt_r, upd_r] <;> grind)), ?_⟩
        refine ⟨fun c3 => ?_, fun c3 => ?_⟩
        · unfold wpX11_felt_b77
          exact hK _
        · unfold wpX11_felt_b77
          exact hK _
      · unfold wpX11_felt_b57
        refine ⟨vI (c := 36) rfl (by first | assumption | grind | (simp [pt_r, upd_r] <;> grind)) (by first | assumption | grind | (simp [pt_r, upd_r] <;> grind)), ?_⟩
        refine ⟨fun c3 => ?_, fun c3 => ?_⟩
        · unfold wpX11_felt_b77
          exact hK _
        · unfold wpX11_felt_b77
          exact hK _
    · unfold wpX11_felt_b36
      refine ⟨vI (c := 36) rfl (by first | assumption | grind | (simp [pt_r, upd_r] <;> grind)) (by first | assumption | grind | (simp [pt_r, upd_r] <;> grind)), ?_⟩
      refine ⟨fun c2 => ?_, fun c2 => ?_⟩
      · unfold wpX11_felt_b57
        refine ⟨vI (c := 36) rfl (by first | assumption | grind | (simp [pt_r, upd_r] <;> grind)) (by first | assumption | grind | (simp [pt_r, upd_r] <;> grind)), ?_⟩
        refine ⟨fun c3 => ?_, fun c3 => ?_⟩
        · unfold wpX11_felt_b77
          exact hK _
        · unfold wpX11_felt_b77
          exact hK _
      · unfold wpX11_felt_b57
        refine ⟨vI (c := 36) rfl (by first | assumption | grind | (simp [pt_r, upd_r] <;> grind)) (by first | assumption | grind | (simp [pt_r, upd_r] <;> grind)), ?_⟩
        refine ⟨fun c3 => ?_, fun c3 => ?_⟩
        · unfold wpX11_felt_b77
          exact hK _
        · unfold wpX11_felt_b77
          exact hK _
  · unfold wpX11_felt_b20
    refine ⟨fun c1 => ?_, fun c1 => ?_⟩
    · unfold wpX11_felt_b36
      refine ⟨vI (c := 36) rfl (by first | assumption | grind | (simp [pt_r, upd_r] <;> grind)) (by first | assumption | grind | (simp [pt_r, upd_r] <;> grind)), ?_⟩
      refine ⟨fun c2 => ?_, fun c2 => ?_⟩
      · unfold wpX11_felt_b57
        refine ⟨vI (c := 36) rfl (by first | assumption | grind | (simp [pt_r, upd_r] <;> grind)) (by first | assumption | grind | (simp [pt_r, upd_r] <;> grind)), ?_⟩
        refine ⟨fun c3 => ?_, fun c3 => ?_⟩
        · unfold wpX11_felt_b77
          exact hK _
        · unfold wpX11_felt_b77
          exact hK _
      · unfold wpX11_felt_b57
        refine ⟨vI (c := 36) rfl (by first | assumption | grind | (simp [pt_r, upd_r] <;> grind)) (by first | assumption | grind | (simp [pt_r, upd_r] <;> grind)), ?_⟩
        refine ⟨fun c3 => ?_, fun c3 => ?_⟩
        · unfold wpX11_felt_b77
          exact hK _
        · unfold wpX11_felt_b77
          exact hK _
    · unfold wpX11_felt_b36
      refine ⟨vI (c := 36) rfl (by first | assumption | grind | (simp [pt_r, upd_r] <;> grind)) (by first | assumption | grind | (simp [pt_r, upd_r] <;> grind)), ?_⟩
      refine ⟨fun c2 => ?_, fun c2 => ?_⟩
      · unfold wpX11_felt_b57
        refine ⟨vI (c := 36) rfl (by first | assumption | grind | (simp [pt_r, upd_r] <;> grind)) (by first | assumption | grind | (simp [pt_r, upd_r] <;> grind)), ?_⟩
        refine ⟨fun c3 => ?_, fun c3 => ?_⟩
        · unfold wpX11_felt_b77
          exact hK _
        · unfold wpX11_felt_b77
          exact hK _
      · unfold wpX11_felt_b57
        refine ⟨vI (c := 36) rfl (by first | assumption | grind | (simp [pt_r, upd_r] <;> grind)) (by first | assumption | grind | (simp [pt_r, upd_r] <;> grind)), ?_⟩
        refine ⟨fun c3 => ?_, fun c3 => ?_⟩
        · unfold wpX11_felt_b77
          exact hK _
        · unfold wpX11_felt_b77
          exact hK _
set_option maxHeartbeats 1000000 in
theorem l_X11_works_b8 {w h : Nat} {f0 : Nat → Int32} {g0 : Nat → Nat → Int32} {K : Int32 → ((Nat → Int32) × (Nat → Nat → Int32)) → Prop} (hK : ∀ v : Int32, ∀ u : mS, V w h f0 g0 u.1 u.2 → isB v → K v u) (n : Nat) : ∀ (f : Nat → Int32) (g : Nat → Nat → Int32) (x1 : Int32) (x2 : Int32) (x3 : Int32) (x4 : Int32), V w h f0 g0 f g → 0 ≤ x4 → 0 ≤ x1 ∧ x1 < 24 → mu (x4) < n → wpX11_works_b8 n f g x1 x2 x3 x4 K := by
  induction n with
  | zero => intro f g x1 x2 x3 x4 hV hi0 hi1 hm; exact absurd hm (Nat.not_lt_zero _)
  | succ n ih =>
    intro f g x1 x2 x3 x4 hV hi0 hi1 hm
    have e25_i := hV.g25 (i := ix x1)
    have e26_i := hV.g26 (i := ix x1)
    have nk := hV.1.2.2.2 (ix x4)
    unfold wpX11_works_b8 wpX11_works_b8_body
    refine ⟨vI (c := 48) rfl (by first | assumption | grind | (simp [pt_r, upd_r] <;> grind)) (by first | assumption | grind | (simp [pt_r, upd_r] <;> grind)), ?_⟩
    refine ⟨fun c0 => ?_, fun c0 => ?_⟩
    · refine ⟨vI (c := 48) rfl (by first | assumption | grind | (simp [pt_r, upd_r] <;> grind)) (by first | assumption | grind | (simp [pt_r, upd_r] <;> grind)), ?_⟩
      refine ⟨vI (c := 48) rfl (by first | assumption | grind | (simp [pt_r, upd_r] <;> grind)) (by first | assumption | grind | (simp [pt_r, upd_r] <;> grind)), ?_⟩
      refine ⟨fun c1 => ?_, fun c1 => ?_⟩
      · unfold wpX11_works_b256
        unfold wpX11_works_b257
        refine ⟨(by first | exact Or.inl rfl | exact Or.inr rfl | assumption), ?_⟩
        exact hK _ _ hV (by first | exact Or.inl rfl | exact Or.inr rfl | assumption)
      · refine ⟨vI (c := 48) rfl (by first | assumption | grind | (simp [pt_r, upd_r] <;> grind)) (by first | assumption | grind | (simp [pt_r, upd_r] <;> grind)), ?_⟩
        refine ⟨vI (c := 64) rfl (by first | assumption | grind | (simp [pt_r, upd_r] <;> grind)) (by first | assumption | grind | (simp [pt_r, upd_r] <;> grind)), ?_⟩
        refine ⟨fun c2 => ?_, fun c2 => ?_⟩
        · unfold wpX11_works_b256
          unfold wpX11_works_b257
          refine ⟨(by first | exact Or.inl rfl | exact Or.inr rfl | assumption), ?_⟩
          exact hK _ _ hV (by first | exact Or.inl rfl | exact Or.inr rfl | assumption)
        · unfold wpX11_works_b257
          refine ⟨(by first | exact Or.inl rfl | exact Or.inr rfl | assumption), ?_⟩
          exact hK _ _ hV (by first | exact Or.inl rfl | exact Or.inr rfl | assumption)
    · refine ⟨vI (c := 128) rfl (by first | assumption | grind | (simp [pt_r, upd_r] <;> grind)) (by first | assumption | grind | (simp [pt_r, upd_r] <;> grind)), ?_⟩
      refine ⟨fun c1 => ?_, fun c1 => ?_, fun c1 => ?_, fun c1 => ?_, fun c1 => ?_⟩
      · refine ⟨vI (c := 128) rfl (by first | assumption | grind | (simp [pt_r, upd_r] <;> grind)) (by first | assumption | grind | (simp [pt_r, upd_r] <;> grind)), ?_⟩
        refine s_X11_isOf (fun r70 hb70 => ?_)
        refine ⟨vI (c := 64) rfl (by first | assumption | grind | (simp [pt_r, upd_r] <;> grind)) (by first | assumption | grind | (simp [pt_r, upd_r] <;> grind)), ?_⟩
        unfold wpX11_works_b215
        exact ih _ _ _ _ _ _ (Vg (k := 65) rfl hV) (by first | assumption | grind | (simp [pt_r, upd_r] <;> grind)) (by first | assumption | grind | (simp [pt_r, upd_r] <;> grind)) (lt1 (mu_lt c0) hm)
      · refine ⟨vI (c := 128) rfl (by first | assumption | grind | (simp [pt_r, upd_r] <;> grind)) (by first | assumption | grind | (simp [pt_r, upd_r] <;> grind)), ?_⟩
        refine ⟨vI (c := 64) rfl (by first | assumption | grind | (simp [pt_r, upd_r] <;> grind)) (by first | assumption | grind | (simp [pt_r, upd_r] <;> grind)), ?_⟩
        refine ⟨fun c2 => ?_, fun c2 => ?_⟩
        · unfold wpX11_works_b103
          refine ⟨vI (c := 64) rfl (by first | assumption | grind | (simp [pt_r, upd_r] <;> grind)) (by first | assumption | grind | (simp [pt_r, upd_r] <;> grind)), ?_⟩
          unfold wpX11_works_b215
          exact ih _ _ _ _ _ _ (Vg (k := 65) rfl hV) (by first | assumption | grind | (simp [pt_r, upd_r] <;> grind)) (by first | assumption | grind | (simp [pt_r, upd_r] <;> grind)) (lt1 (mu_lt c0) hm)
        · unfold wpX11_works_b103
          refine ⟨vI (c := 64) rfl (by first | assumption | grind | (simp [pt_r, upd_r] <;> grind)) (by first | assumption | grind | (simp [pt_r, upd_r] <;> grind)), ?_⟩
          unfold wpX11_works_b215
          exact ih _ _ _ _ _ _ (Vg (k := 65) rfl hV) (by first | assumption | grind | (simp [pt_r, upd_r] <;> grind)) (by first | assumption | grind | (simp [pt_r, upd_r] <;> grind)) (lt1 (mu_lt c0) hm)
      · refine ⟨vI (c := 128) rfl (by first | assumption | grind | (simp [pt_r, upd_r] <;> grind)) (by first | assumption | grind | (simp [pt_r, upd_r] <;> grind)), ?_⟩
        refine ⟨vI (c := 64) rfl (by first | assumption | grind | (simp [pt_r, upd_r] <;> grind)) (by first | assumption | grind | (simp [pt_r, upd_r] <;> grind)), ?_⟩
        refine ⟨fun c2 => ?_, fun c2 => ?_⟩
        · unfold wpX11_works_b147
          unfold wpX11_works_b148
          refine ⟨vI (c := 64) rfl (by first | assumption | grind | (simp [pt_r, upd_r] <;> grind)) (by first | assumption | grind | (simp [pt_r, upd_r] <;> grind)), ?_⟩
          unfold wpX11_works_b215
          exact ih _ _ _ _ _ _ (Vg (k := 65) rfl hV) (by first | assumption | grind | (simp [pt_r, upd_r] <;> grind)) (by first | assumption | grind | (simp [pt_r, upd_r] <;> grind)) (lt1 (mu_lt c0) hm)
        · refine ⟨vI (c := 128) rfl (by first | assumption | grind | (simp [pt_r, upd_r] <;> grind)) (by first | assumption | grind | (simp [pt_r, upd_r] <;> grind)), ?_⟩
          refine ⟨vI (c := 64) rfl (by first | assumption | grind | (simp [pt_r, upd_r] <;> grind)) (by first | assumption | grind | (simp [pt_r, upd_r] <;> grind)), ?_⟩
          refine ⟨fun c3 => ?_, fun c3 => ?_⟩
          · unfold wpX11_works_b147
            unfold wpX11_works_b148
            refine ⟨vI (c := 64) rfl (by first | assumption | grind | (simp [pt_r, upd_r] <;> grind)) (by first | assumption | grind | (simp [pt_r, upd_r] <;> grind)), ?_⟩
            unfold wpX11_works_b215
            exact ih _ _ _ _ _ _ (Vg (k := 65) rfl hV) (by first | assumption | grind | (simp [pt_r, upd_r] <;> grind)) (by first | assumption | grind | (simp [pt_r, upd_r] <;> grind)) (lt1 (mu_lt c0) hm)
          · unfold wpX11_works_b148
            refine ⟨vI (c := 64) rfl (by first | assumption | grind | (simp [pt_r, upd_r] <;> grind)) (by first | assumption | grind | (simp [pt_r, upd_r] <;> grind)), ?_⟩
            unfold wpX11_works_b215
            exact ih _ _ _ _ _ _ (Vg (k := 65) rfl hV) (by first | assumption | grind | (simp [pt_r, upd_r] <;> grind)) (by first | assumption | grind | (simp [pt_r, upd_r] <;> grind)) (lt1 (mu_lt c0) hm)
      · refine ⟨vI (c := 128) rfl (by first | assumption | grind | (simp [pt_r, upd_r] <;> grind)) (by first | assumption | grind | (simp [pt_r, upd_r] <;> grind)), ?_⟩
        refine ⟨vI (c := 64) rfl (by first | assumption | grind | (simp [pt_r, upd_r] <;> grind)) (by first | assumption | grind | (simp [pt_r, upd_r] <;> grind)), ?_⟩
        refine ⟨fun c2 => ?_, fun c2 => ?_⟩
        · unfold wpX11_works_b188
          unfold wpX11_works_b193
          refine ⟨vI (c := 64) rfl (by first | assumption | grind | (simp [pt_r, upd_r] <;> grind)) (by first | assumption | grind | (simp [pt_r, upd_r] <;> grind)), ?_⟩
          unfold wpX11_works_b215
          exact ih _ _ _ _ _ _ (Vg (k := 65) rfl hV) (by first | assumption | grind | (simp [pt_r, upd_r] <;> grind)) (by first | assumption | grind | (simp [pt_r, upd_r] <;> grind)) (lt1 (mu_lt c0) hm)
        · refine ⟨vI (c := 128) rfl (by first | assumption | grind | (simp [pt_r, upd_r] <;> grind)) (by first | assumption | grind | (simp [pt_r, upd_r] <;> grind)), ?_⟩
          refine ⟨vI (c := 64) rfl (by first | assumption | grind | (simp [pt_r, upd_r] <;> grind)) (by first | assumption | grind | (simp [pt_r, upd_r] <;> grind)), ?_⟩
          refine ⟨fun c3 => ?_, fun c3 => ?_⟩
          · unfold wpX11_works_b193
            refine ⟨vI (c := 64) rfl (by first | assumption | grind | (simp [pt_r, upd_r] <;> grind)) (by first | assumption | grind | (simp [pt_r, upd_r] <;> grind)), ?_⟩
            unfold wpX11_works_b215
            exact ih _ _ _ _ _ _ (Vg (k := 65) rfl hV) (by first | assumption | grind | (simp [pt_r, upd_r] <;> grind)) (by first | assumption | grind | (simp [pt_r, upd_r] <;> grind)) (lt1 (mu_lt c0) hm)
          · unfold wpX11_works_b188
            unfold wpX11_works_b193
            refine ⟨vI (c := 64) rfl (by first | assumption | grind | (simp [pt_r, upd_r] <;> grind)) (by first | assumption | grind | (simp [pt_r, upd_r] <;> grind)), ?_⟩
            unfold wpX11_works_b215
            exact ih _ _ _ _ _ _ (Vg (k := 65) rfl hV) (by first | assumption | grind | (simp [pt_r, upd_r] <;> grind)) (by first | assumption | grind | (simp [pt_r, upd_r] <;> grind)) (lt1 (mu_lt c0) hm)
      · refine ⟨vI (c := 128) rfl (by first | assumption | grind | (simp [pt_r, upd_r] <;> grind)) (by first | assumption | grind | (simp [pt_r, upd_r] <;> grind)), ?_⟩
        refine s_X11_isOf (fun r211 hb211 => ?_)
        refine ⟨vI (c := 64) rfl (by first | assumption | grind | (simp [pt_r, upd_r] <;> grind)) (by first | assumption | grind | (simp [pt_r, upd_r] <;> grind)), ?_⟩
        unfold wpX11_works_b215
        exact ih _ _ _ _ _ _ (Vg (k := 65) rfl hV) (by first | assumption | grind | (simp [pt_r, upd_r] <;> grind)) (by first | assumption | grind | (simp [pt_r, upd_r] <;> grind)) (lt1 (mu_lt c0) hm)
set_option maxHeartbeats 1000000 in
theorem s_X11_works {w h : Nat} {f0 : Nat → Int32} {g0 : Nat → Nat → Int32} {f : Nat → Int32} {g : Nat → Nat → Int32} {x1 : Int32} {x2 : Int32} {x3 : Int32} {K : Int32 → ((Nat → Int32) × (Nat → Nat → Int32)) → Prop} (hV : V w h f0 g0 f g) (hp : 0 ≤ x1 ∧ x1 < 24) (hK : ∀ v : Int32, ∀ u : mS, V w h f0 g0 u.1 u.2 → isB v → K v u) : wpX11_works f g x1 x2 x3 K := by
  have e25_i := hV.g25 (i := ix x1)
  have e26_i := hV.g26 (i := ix x1)
  unfold wpX11_works
  unfold wpX11_works_b0
  refine ⟨vI (c := 48) rfl (by first | assumption | grind | (simp [pt_r, upd_r] <;> grind)) (by first | assumption | grind | (simp [pt_r, upd_r] <;> grind)), ?_⟩
  exact ⟨_, l_X11_works_b8 hK _ _ _ _ _ _ _ hV (by first | assumption | grind | (simp [pt_r, upd_r] <;> grind)) (by first | assumption | grind | (simp [pt_r, upd_r] <;> grind)) (Nat.lt_succ_self _)⟩
section PL
variable {w h : Nat} {f0 : Nat → Int32} {g0 : Nat → Nat → Int32} {K : mS → Prop}
theorem pl_163 (hK : ∀ u : mS, V w h f0 g0 u.1 u.2 → K u) {f : Nat → Int32} {g : Nat → Nat → Int32} {x5 : Int32} (hV : V w h f0 g0 f g) : wpX11_pulls_b163 f g x5 K := by
  unfold wpX11_pulls_b163 wpX11_pulls_b172
  exact ⟨fun _ => hK _ hV, fun _ => s_X11_goes hV (fun u hu => hK _ hu)⟩
theorem pl_146 (hK : ∀ u : mS, V w h f0 g0 u.1 u.2 → K u) {f : Nat → Int32} {g : Nat → Nat → Int32} {x4 x5 : Int32} (hV : V w h f0 g0 f g) : wpX11_pulls_b146 f g x4 x5 K := by
  have b := hV.b42
  unfold wpX11_pulls_b146
  exact ⟨fun _ => pl_163 hK hV, fun _ => pl_163 hK (Vu42 (jr4 (by grind)) hV)⟩
theorem pl_101 (hK : ∀ u : mS, V w h f0 g0 u.1 u.2 → K u) {f : Nat → Int32} {g : Nat → Nat → Int32} {x1 x2 : Int32} (hV : V w h f0 g0 f g) : wpX11_pulls_b101 f g x1 x2 K := by
  unfold wpX11_pulls_b101
  refine s_X11_works hV (by decide) (fun r1 u1 h1 _ => s_X11_works h1 (by decide) (fun r2 u2 h2 _ => s_X11_works h2 (by decide) (fun r3 u3 h3 _ => ⟨fun _ => pl_146 hK h3, fun _ => ?_⟩)))
  have b := h3.b42
  exact pl_146 hK (Vu42 (jr4 (by grind)) h3)
theorem l_X11_pulls_b9 (hK : ∀ u : mS, V w h f0 g0 u.1 u.2 → K u) (n : Nat) : ∀ (f : Nat → Int32) (g : Nat → Nat → Int32) (x1 x2 x3 : Int32), V w h f0 g0 f g → 0 ≤ x3 → mu x3 < n → wpX11_pulls_b9 n f g x1 x2 x3 K := by
  induction n with
  | zero => intro f g x1 x2 x3 _ _ hm; exact absurd hm (Nat.not_lt_zero _)
  | succ n ih =>
    intro f g x1 x2 x3 hV h0 hm
    have b20 := hV.b20
    unfold wpX11_pulls_b9 wpX11_pulls_b9_body
    refine ⟨fun _ => ?_, fun c => ?_⟩
    · refine s_X11_works (Vf (k := 45) rfl hV) (by decide) (fun r u hu _ => ⟨fun _ => pl_101 hK hu, fun _ => ⟨?_, pl_101 hK (Vg47 hu.b42 hu)⟩⟩)
      have b := hu.b41
      have nn := hu.n
      exact vI (c := 36) rfl b.1 (by grind)
    · have nx : ∀ (f : Nat → Int32) (g : Nat → Nat → Int32) (v : Int32), V w h f0 g0 f g → wpX11_pulls_b49 (fun f g x1 x2 x3 => wpX11_pulls_b9 n f g x1 x2 x3 K) f g v x1 x2 x3 K := fun f g v hV => by
        unfold wpX11_pulls_b49 wpX11_pulls_b64
        exact ⟨fun _ => ih _ _ _ _ _ hV (by grind) (lt1 (mu_lt c) hm), fun _ => ih _ _ _ _ _ hV (by grind) (lt1 (mu_lt c) hm)⟩
      refine s_X11_isOf (fun r hb => ⟨fun _ => ?_, fun _ => s_X11_isOf (fun r2 _ => nx _ _ _ hV)⟩)
      exact s_X11_works hV (by grind) (fun r3 u3 h3 _ => nx _ _ _ h3)
theorem s_X11_pulls {f : Nat → Int32} {g : Nat → Nat → Int32} (hV : V w h f0 g0 f g) (hK : ∀ u : mS, V w h f0 g0 u.1 u.2 → K u) : wpX11_pulls f g K := by
  unfold wpX11_pulls wpX11_pulls_b0
  exact s_X11_felt hV (fun r => ⟨_, l_X11_pulls_b9 hK _ _ _ _ _ _ hV (by decide) (Nat.lt_succ_self _)⟩)
end PL
set_option maxHeartbeats 1000000 in
theorem s_X11_pullsTold {w h : Nat} {f0 : Nat → Int32} {g0 : Nat → Nat → Int32} {f : Nat → Int32} {g : Nat → Nat → Int32} {K : ((Nat → Int32) × (Nat → Nat → Int32)) → Prop} (hV : V w h f0 g0 f g) (hK : ∀ u : mS, V w h f0 g0 u.1 u.2 → K u) : wpX11_pullsTold f g K := by
  unfold wpX11_pullsTold
  unfold wpX11_pullsTold_b0
  refine s_X11_felt hV (fun r2 => ?_)
  try dsimp only
  refine s_X11_pulls (Vf (k := 67) rfl (Vf (k := 69) rfl hV)) (fun u17 hV17 => ?_)
  exact hK _ (Vf (k := 66) rfl (Vf (k := 68) rfl hV17))
set_option maxHeartbeats 1000000 in
theorem l_X11_pull_b25 {w h : Nat} {f0 : Nat → Int32} {g0 : Nat → Nat → Int32} {K : Int32 → ((Nat → Int32) × (Nat → Nat → Int32)) → Prop} (hK : ∀ v : Int32, ∀ u : mS, V w h f0 g0 u.1 u.2 → K v u) (n : Nat) : ∀ (f : Nat → Int32) (g : Nat → Nat → Int32) (x1 : Int32) (x2 : Int32), V w h f0 g0 f g → 0 ≤ x2 → mu (x2) < n → wpX11_pull_b25 n f g x1 x2 K := by
  induction n with
  | zero => intro f g x1 x2 hV hi0 hm; exact absurd hm (Nat.not_lt_zero _)
  | succ n ih =>
    intro f g x1 x2 hV hi0 hm
    unfold wpX11_pull_b25 wpX11_pull_b25_body
    refine ⟨fun c0 => ?_, fun c0 => ?_⟩
    · exact hK _ _ hV
    · refine s_X11_pullsTold hV (fun u31 hV31 => ?_)
      exact ih _ _ _ _ hV31 (by first | assumption | grind | (simp [pt_r, upd_r] <;> grind)) (lt1 (mu_lt c0) hm)
set_option maxHeartbeats 1000000 in
theorem s_X11_pull {w h : Nat} {f0 : Nat → Int32} {g0 : Nat → Nat → Int32} {f : Nat → Int32} {g : Nat → Nat → Int32} {x1 : Int32} {K : Int32 → ((Nat → Int32) × (Nat → Nat → Int32)) → Prop} (hV : V w h f0 g0 f g) (hK : ∀ v : Int32, ∀ u : mS, V w h f0 g0 u.1 u.2 → K v u) : wpX11_pull f g x1 K := by
  unfold wpX11_pull
  unfold wpX11_pull_b0
  refine s_X11_isIn (fun r10 hb10 hp10 => ?_)
  refine ⟨fun c0 => ?_, fun c0 => ?_⟩
  · exact ⟨_, l_X11_pull_b25 hK _ _ _ _ _ (Vf (k := 53) rfl (Vf (k := 2) rfl hV)) (by first | assumption | grind | (simp [pt_r, upd_r] <;> grind)) (Nat.lt_succ_self _)⟩
  · exact hK _ _ (Vf (k := 2) rfl hV)
set_option maxHeartbeats 1000000 in
theorem l_X11_pullRun_b20 {w h : Nat} {f0 : Nat → Int32} {g0 : Nat → Nat → Int32} {K : Int32 → ((Nat → Int32) × (Nat → Nat → Int32)) → Prop} (hK : ∀ v : Int32, ∀ u : mS, V w h f0 g0 u.1 u.2 → K v u) (n : Nat) : ∀ (f : Nat → Int32) (g : Nat → Nat → Int32) (x1 : Int32) (x2 : Int32), V w h f0 g0 f g → 0 ≤ x2 ∧ x2 ≤ x1 → mu (x2) < n → wpX11_pullRun_b20 n f g x1 x2 K := by
  induction n with
  | zero => intro f g x1 x2 hV hi0 hm; exact absurd hm (Nat.not_lt_zero _)
  | succ n ih =>
    intro f g x1 x2 hV hi0 hm
    unfold wpX11_pullRun_b20 wpX11_pullRun_b20_body
    refine ⟨fun c0 => ?_, fun c0 => ?_⟩
    · exact hK _ _ hV
    · refine ⟨fun c1 => ?_, fun c1 => ?_⟩
      · refine s_X11_pullsTold hV (fun u40 hV40 => ?_)
        exact ih _ _ _ _ hV40 (by first | assumption | grind | (simp [pt_r, upd_r] <;> grind)) (lt1 (mu_lt (N := x1) (by first | assumption | grind | (simp [pt_r, upd_r] <;> grind))) hm)
      · exact hK _ _ hV
set_option maxHeartbeats 1000000 in
theorem s_X11_pullRun {w h : Nat} {f0 : Nat → Int32} {g0 : Nat → Nat → Int32} {f : Nat → Int32} {g : Nat → Nat → Int32} {x1 : Int32} {K : Int32 → ((Nat → Int32) × (Nat → Nat → Int32)) → Prop} (hV : V w h f0 g0 f g) (hK : ∀ v : Int32, ∀ u : mS, V w h f0 g0 u.1 u.2 → K v u) : wpX11_pullRun f g x1 K := by
  unfold wpX11_pullRun
  unfold wpX11_pullRun_b0
  refine s_X11_isIn (fun r10 hb10 hp10 => ?_)
  refine ⟨fun c0 => ?_, fun c0 => ?_⟩
  · exact ⟨_, l_X11_pullRun_b20 hK _ _ _ _ _ (Vf (k := 2) rfl hV) (by first | assumption | grind | (simp [pt_r, upd_r] <;> grind)) (Nat.lt_succ_self _)⟩
  · exact hK _ _ (Vf (k := 2) rfl hV)
set_option maxHeartbeats 1000000 in
theorem s_X11_relays {w h : Nat} {f0 : Nat → Int32} {g0 : Nat → Nat → Int32} {f : Nat → Int32} {g : Nat → Nat → Int32} {K : Int32 → ((Nat → Int32) × (Nat → Nat → Int32)) → Prop} (hV : V w h f0 g0 f g) (hK : ∀ v : Int32, ∀ u : mS, V w h f0 g0 u.1 u.2 → K v u) : wpX11_relays f g K := by
  unfold wpX11_relays
  unfold wpX11_relays_b0
  exact hK _ _ (Vf (k := 2) rfl hV)
set_option maxHeartbeats 1000000 in
theorem s_X11_races {w h : Nat} {f0 : Nat → Int32} {g0 : Nat → Nat → Int32} {f : Nat → Int32} {g : Nat → Nat → Int32} {x1 : Int32} {x2 : Int32} {K : Int32 → ((Nat → Int32) × (Nat → Nat → Int32)) → Prop} (hV : V w h f0 g0 f g) (hp : 0 ≤ x1 ∧ x1 < 24) (hK : ∀ v : Int32, ∀ u : mS, V w h f0 g0 u.1 u.2 → isB v → K v u) : wpX11_races f g x1 x2 K := by
  unfold wpX11_races
  unfold wpX11_races_b0
  refine s_X11_works hV (by first | assumption | grind | (simp [pt_r, upd_r] <;> grind)) (fun r14 u14 hV14 hb14 => ?_)
  refine s_X11_isOf (fun r22 hb22 => ?_)
  refine ⟨fun c0 => ?_, fun c0 => ?_⟩
  · unfold wpX11_races_b33
    refine ⟨(by first | exact Or.inl rfl | exact Or.inr rfl | assumption), ?_⟩
    exact hK _ _ hV14 (by first | exact Or.inl rfl | exact Or.inr rfl | assumption)
  · unfold wpX11_races_b33
    refine ⟨(by first | exact Or.inl rfl | exact Or.inr rfl | assumption), ?_⟩
    exact hK _ _ hV14 (by first | exact Or.inl rfl | exact Or.inr rfl | assumption)
set_option maxHeartbeats 1000000 in
theorem l_X11_race_b38 {w h : Nat} {f0 : Nat → Int32} {g0 : Nat → Nat → Int32} {B26 : (Nat → Int32) → (Nat → Nat → Int32) → Int32 → Int32 → Prop} {m26 : Nat} {K : Int32 → ((Nat → Int32) × (Nat → Nat → Int32)) → Prop} (hK : ∀ v : Int32, ∀ u : mS, V w h f0 g0 u.1 u.2 → K v u) (hB26 : ∀ (f : Nat → Int32) (g : Nat → Nat → Int32) (x1 : Int32) (x2 : Int32), V w h f0 g0 f g → 0 ≤ x2 → mu x2 < m26 → B26 f g x1 x2) (n : Nat) : ∀ (f : Nat → Int32) (g : Nat → Nat → Int32) (x1 : Int32) (x2 : Int32) (x3 : Int32), V w h f0 g0 f g → 0 ≤ x3 → 0 ≤ x2 ∧ x2 < 20 → mu (x2 + 1) < m26 → mu (x3) < n → wpX11_race_b38 B26 n f g x1 x2 x3 K := by
  induction n with
  | zero => intro f g x1 x2 x3 hV hi0 hi1 hi2 hm; exact absurd hm (Nat.not_lt_zero _)
  | succ n ih =>
    intro f g x1 x2 x3 hV hi0 hi1 hi2 hm
    have b20_i := hV.b20
    have hm26 := hi2
    unfold wpX11_race_b38 wpX11_race_b38_body
    refine ⟨fun c0 => ?_, fun c0 => ?_⟩
    · exact hB26 _ _ _ _ hV (by first | assumption | (exact lt1 (mu_lt (by assumption)) hm) | grind) hm26
    · refine s_X11_isOf (fun r48 hb48 => ?_)
      refine ⟨fun c1 => ?_, fun c1 => ?_⟩
      · unfold wpX11_race_b97
        exact ih _ _ _ _ _ hV (by first | assumption | (exact lt1 (mu_lt (by assumption)) hm) | grind) (by first | assumption | (exact lt1 (mu_lt (by assumption)) hm) | grind) (by first | assumption | (exact lt1 (mu_lt (by assumption)) hm) | grind) (lt1 (mu_lt c0) hm)
      · refine s_X11_isOf (fun r56 hb56 => ?_)
        refine ⟨fun c2 => ?_, fun c2 => ?_⟩
        · refine s_X11_races hV (by first | assumption | grind | (simp [pt_r, upd_r] <;> grind)) (fun r68 u68 hV68 hb68 => ?_)
          have b20_68 := hV68.b20
          refine ⟨fun c3 => ?_, fun c3 => ?_⟩
          · refine s_X11_races hV68 (by first | assumption | grind | (simp [pt_r, upd_r] <;> grind)) (fun r84 u84 hV84 hb84 => ?_)
            have b20_84 := hV84.b20
            refine ⟨fun c4 => ?_, fun c4 => ?_⟩
            · unfold wpX11_race_b97
              exact ih _ _ _ _ _ hV84 (by first | assumption | (exact lt1 (mu_lt (by assumption)) hm) | grind) (by first | assumption | (exact lt1 (mu_lt (by assumption)) hm) | grind) (by first | assumption | (exact lt1 (mu_lt (by assumption)) hm) | grind) (lt1 (mu_lt c0) hm)
            · exact hK _ _ hV84
          · exact hK _ _ hV68
        · unfold wpX11_race_b97
          exact ih _ _ _ _ _ hV (by first | assumption | (exact lt1 (mu_lt (by assumption)) hm) | grind) (by first | assumption | (exact lt1 (mu_lt (by assumption)) hm) | grind) (by first | assumption | (exact lt1 (mu_lt (by assumption)) hm) | grind) (lt1 (mu_lt c0) hm)
