set_option maxHeartbeats 1000000 in
theorem s_X11_wipe {w h : Nat} {f0 : Nat → Int32} {g0 : Nat → Nat → Int32} {f : Nat → Int32} {g : Nat → Nat → Int32} {K : Int32 → ((Nat → Int32) × (Nat → Nat → Int32)) → Prop} (hV : V w h f0 g0 f g) (hK : ∀ v : Int32, ∀ u : mS, V w h f0 g0 u.1 u.2 → K v u) : wpX11_wipe f g K := by
  have b41_i := hV.b41
  have b42_i := hV.b42
  have n_i := hV.n
  unfold wpX11_wipe
  unfold wpX11_wipe_b0
  exact ⟨_, l_X11_wipe_b9 hK _ _ _ _ _ (Vf (k := 2) rfl hV) (by first | assumption | grind | (simp [pt_r, upd_r] <;> grind)) (Nat.lt_succ_self _)⟩
set_option maxHeartbeats 1000000 in
theorem s_X11_goes {w h : Nat} {f0 : Nat → Int32} {g0 : Nat → Nat → Int32} {f : Nat → Int32} {g : Nat → Nat → Int32} {K : ((Nat → Int32) × (Nat → Nat → Int32)) → Prop} (hV : V w h f0 g0 f g) (hK : ∀ u : mS, V w h f0 g0 u.1 u.2 → K u) : wpX11_goes f g K := by
  have b41_i := hV.b41
  have b42_i := hV.b42
  have n_i := hV.n
  unfold wpX11_goes
  unfold wpX11_goes_b0
  refine s_X11_isWall (hV).gx (by first | assumption | grind | (simp [pt_r, upd_r] <;> grind)) (by first | assumption | grind | (simp [pt_r, upd_r] <;> grind)) (fun r9 hb9 hp9 => ?_)
  try dsimp only
  refine ⟨fun c0 => ?_, fun c0 => ?_⟩
  · refine s_X11_ahead (hV).gx (by first | assumption | grind | (simp [pt_r, upd_r] <;> grind)) (fun r26 hp26 => ?_)
    try dsimp only
    exact hK _ (Vf (k := 53) rfl (Vu41 (by first | assumption | grind | (simp [pt_r, upd_r] <;> grind)) hV))
  · exact hK _ hV
set_option maxHeartbeats 1000000 in
theorem s_X11_holds {w h : Nat} {f0 : Nat → Int32} {g0 : Nat → Nat → Int32} {f : Nat → Int32} {g : Nat → Nat → Int32} {x1 : Int32} {K : Int32 → ((Nat → Int32) × (Nat → Nat → Int32)) → Prop} (hV : V w h f0 g0 f g) (hp : 0 ≤ x1 ∧ x1 < 720) (hK : ∀ v : Int32, isB v → K v (f, g)) : wpX11_holds f g x1 K := by
  have b41_i := hV.b41
  have b42_i := hV.b42
  have n_i := hV.n
  have w_i := fun i => hV.g47 (i := i)
  unfold wpX11_holds
  unfold wpX11_holds_b0
  refine ⟨vI (c := 720) rfl (by first | assumption | grind | (simp [pt_r, upd_r] <;> grind)) (by first | assumption | grind | (simp [pt_r, upd_r] <;> grind)), ?_⟩
  refine ⟨fun c0 => ?_, fun c0 => ?_, fun c0 => ?_, fun c0 => ?_, fun c0 => ?_, fun c0 => ?_⟩
  · refine s_X11_isWall (hV).gx (by first | assumption | grind | (simp [pt_r, upd_r] <;> grind)) (by first | assumption | grind | (simp [pt_r, upd_r] <;> grind)) (fun r49 hb49 hp49 => ?_)
    try dsimp only
    unfold wpX11_holds_b164
    refine ⟨vI (c := 720) rfl (by first | assumption | grind | (simp [pt_r, upd_r] <;> grind)) (by first | assumption | grind | (simp [pt_r, upd_r] <;> grind)), ?_⟩
    refine ⟨fun c1 => ?_, fun c1 => ?_⟩
    · unfold wpX11_holds_b179
      refine ⟨(by first | exact Or.inl rfl | exact Or.inr rfl | assumption), ?_⟩
      exact hK _ (by first | exact Or.inl rfl | exact Or.inr rfl | assumption)
    · unfold wpX11_holds_b179
      refine ⟨(by first | exact Or.inl rfl | exact Or.inr rfl | assumption), ?_⟩
      exact hK _ (by first | exact Or.inl rfl | exact Or.inr rfl | assumption)
  · refine ⟨fun c1 => ?_, fun c1 => ?_⟩
    · unfold wpX11_holds_b72
      unfold wpX11_holds_b164
      refine ⟨vI (c := 720) rfl (by first | assumption | grind | (simp [pt_r, upd_r] <;> grind)) (by first | assumption | grind | (simp [pt_r, upd_r] <;> grind)), ?_⟩
      refine ⟨fun c2 => ?_, fun c2 => ?_⟩
      · unfold wpX11_holds_b179
        refine ⟨(by first | exact Or.inl rfl | exact Or.inr rfl | assumption), ?_⟩
        exact hK _ (by first | exact Or.inl rfl | exact Or.inr rfl | assumption)
      · unfold wpX11_holds_b179
        refine ⟨(by first | exact Or.inl rfl | exact Or.inr rfl | assumption), ?_⟩
        exact hK _ (by first | exact Or.inl rfl | exact Or.inr rfl | assumption)
    · unfold wpX11_holds_b72
      unfold wpX11_holds_b164
      refine ⟨vI (c := 720) rfl (by first | assumption | grind | (simp [pt_r, upd_r] <;> grind)) (by first | assumption | grind | (simp [pt_r, upd_r] <;> grind)), ?_⟩
      refine ⟨fun c2 => ?_, fun c2 => ?_⟩
      · unfold wpX11_holds_b179
        refine ⟨(by first | exact Or.inl rfl | exact Or.inr rfl | assumption), ?_⟩
        exact hK _ (by first | exact Or.inl rfl | exact Or.inr rfl | assumption)
      · unfold wpX11_holds_b179
        refine ⟨(by first | exact Or.inl rfl | exact Or.inr rfl | assumption), ?_⟩
        exact hK _ (by first | exact Or.inl rfl | exact Or.inr rfl | assumption)
  · refine ⟨vI (c := 36) rfl (by first | assumption | grind | (simp [pt_r, upd_r] <;> grind)) (by first | assumption | grind | (simp [pt_r, upd_r] <;> grind)), ?_⟩
    refine ⟨fun c1 => ?_, fun c1 => ?_⟩
    · unfold wpX11_holds_b97
      unfold wpX11_holds_b164
      refine ⟨vI (c := 720) rfl (by first | assumption | grind | (simp [pt_r, upd_r] <;> grind)) (by first | assumption | grind | (simp [pt_r, upd_r] <;> grind)), ?_⟩
      refine ⟨fun c2 => ?_, fun c2 => ?_⟩
      · unfold wpX11_holds_b179
        refine ⟨(by first | exact Or.inl rfl | exact Or.inr rfl | assumption), ?_⟩
        exact hK _ (by first | exact Or.inl rfl | exact Or.inr rfl | assumption)
      · unfold wpX11_holds_b179
        refine ⟨(by first | exact Or.inl rfl | exact Or.inr rfl | assumption), ?_⟩
        exact hK _ (by first | exact Or.inl rfl | exact Or.inr rfl | assumption)
    · unfold wpX11_holds_b97
      unfold wpX11_holds_b164
      refine ⟨vI (c := 720) rfl (by first | assumption | grind | (simp [pt_r, upd_r] <;> grind)) (by first | assumption | grind | (simp [pt_r, upd_r] <;> grind)), ?_⟩
      refine ⟨fun c2 => ?_, fun c2 => ?_⟩
      · unfold wpX11_holds_b179
        refine ⟨(by first | exact Or.inl rfl | exact Or.inr rfl | assumption), ?_⟩
        exact hK _ (by first | exact Or.inl rfl | exact Or.inr rfl | assumption)
      · unfold wpX11_holds_b179
        refine ⟨(by first | exact Or.inl rfl | exact Or.inr rfl | assumption), ?_⟩
        exact hK _ (by first | exact Or.inl rfl | exact Or.inr rfl | assumption)
  · refine ⟨vI (c := 720) rfl (by first | assumption | grind | (simp [pt_r, upd_r] <;> grind)) (by first | assumption | grind | (simp [pt_r, upd_r] <;> grind)), ?_⟩
    refine ⟨fun c1 => ?_, fun c1 => ?_⟩
    · unfold wpX11_holds_b119
      unfold wpX11_holds_b164
      refine ⟨vI (c := 720) rfl (by first | assumption | grind | (simp [pt_r, upd_r] <;> grind)) (by first | assumption | grind | (simp [pt_r, upd_r] <;> grind)), ?_⟩
      refine ⟨fun c2 => ?_, fun c2 => ?_⟩
      · unfold wpX11_holds_b179
        refine ⟨(by first | exact Or.inl rfl | exact Or.inr rfl | assumption), ?_⟩
        exact hK _ (by first | exact Or.inl rfl | exact Or.inr rfl | assumption)
      · unfold wpX11_holds_b179
        refine ⟨(by first | exact Or.inl rfl | exact Or.inr rfl | assumption), ?_⟩
        exact hK _ (by first | exact Or.inl rfl | exact Or.inr rfl | assumption)
    · unfold wpX11_holds_b119
      unfold wpX11_holds_b164
      refine ⟨vI (c := 720) rfl (by first | assumption | grind | (simp [pt_r, upd_r] <;> grind)) (by first | assumption | grind | (simp [pt_r, upd_r] <;> grind)), ?_⟩
      refine ⟨fun c2 => ?_, fun c2 => ?_⟩
      · unfold wpX11_holds_b179
        refine ⟨(by first | exact Or.inl rfl | exact Or.inr rfl | assumption), ?_⟩
        exact hK _ (by first | exact Or.inl rfl | exact Or.inr rfl | assumption)
      · unfold wpX11_holds_b179
        refine ⟨(by first | exact Or.inl rfl | exact Or.inr rfl | assumption), ?_⟩
        exact hK _ (by first | exact Or.inl rfl | exact Or.inr rfl | assumption)
  · refine ⟨vI (c := 720) rfl (by first | assumption | grind | (simp [pt_r, upd_r] <;> grind)) (by first | assumption | grind | (simp [pt_r, upd_r] <;> grind)), ?_⟩
    refine ⟨fun c1 => ?_, fun c1 => ?_⟩
    · unfold wpX11_holds_b141
      unfold wpX11_holds_b164
      refine ⟨vI (c := 720) rfl (by first | assumption | grind | (simp [pt_r, upd_r] <;> grind)) (by first | assumption | grind | (simp [pt_r, upd_r] <;> grind)), ?_⟩
      refine ⟨fun c2 => ?_, fun c2 => ?_⟩
      · unfold wpX11_holds_b179
        refine ⟨(by first | exact Or.inl rfl | exact Or.inr rfl | assumption), ?_⟩
        exact hK _ (by first | exact Or.inl rfl | exact Or.inr rfl | assumption)
      · unfold wpX11_holds_b179
        refine ⟨(by first | exact Or.inl rfl | exact Or.inr rfl | assumption), ?_⟩
        exact hK _ (by first | exact Or.inl rfl | exact Or.inr rfl | assumption)
    · unfold wpX11_holds_b141
      unfold wpX11_holds_b164
      refine ⟨vI (c := 720) rfl (by first | assumption | grind | (simp [pt_r, upd_r] <;> grind)) (by first | assumption | grind | (simp [pt_r, upd_r] <;> grind)), ?_⟩
      refine ⟨fun c2 => ?_, fun c2 => ?_⟩
      · unfold wpX11_holds_b179
        refine ⟨(by first | exact Or.inl rfl | exact Or.inr rfl | assumption), ?_⟩
        exact hK _ (by first | exact Or.inl rfl | exact Or.inr rfl | assumption)
      · unfold wpX11_holds_b179
        refine ⟨(by first | exact Or.inl rfl | exact Or.inr rfl | assumption), ?_⟩
        exact hK _ (by first | exact Or.inl rfl | exact Or.inr rfl | assumption)
  · refine ⟨vI (c := 36) rfl (by first | assumption | grind | (simp [pt_r, upd_r] <;> grind)) (by first | assumption | grind | (simp [pt_r, upd_r] <;> grind)), ?_⟩
    refine ⟨vI (c := 720) rfl (by first | assumption | grind | (simp [pt_r, upd_r] <;> grind)) (by first | assumption | grind | (simp [pt_r, upd_r] <;> grind)), ?_⟩
    refine s_X11_isOf (fun r160 hb160 => ?_)
    unfold wpX11_holds_b164
    refine ⟨vI (c := 720) rfl (by first | assumption | grind | (simp [pt_r, upd_r] <;> grind)) (by first | assumption | grind | (simp [pt_r, upd_r] <;> grind)), ?_⟩
    refine ⟨fun c1 => ?_, fun c1 => ?_⟩
    · unfold wpX11_holds_b179
      refine ⟨(by first | exact Or.inl rfl | exact Or.inr rfl | assumption), ?_⟩
      exact hK _ (by first | exact Or.inl rfl | exact Or.inr rfl | assumption)
    · unfold wpX11_holds_b179
      refine ⟨(by first | exact Or.inl rfl | exact Or.inr rfl | assumption), ?_⟩
      exact hK _ (by first | exact Or.inl rfl | exact Or.inr rfl | assumption)
set_option maxHeartbeats 1000000 in
theorem s_X11_does {w h : Nat} {f0 : Nat → Int32} {g0 : Nat → Nat → Int32} {f : Nat → Int32} {g : Nat → Nat → Int32} {x1 : Int32} {K : ((Nat → Int32) × (Nat → Nat → Int32)) → Prop} (hV : V w h f0 g0 f g) (hp : 0 ≤ x1 ∧ x1 < 720) (hK : ∀ u : mS, V w h f0 g0 u.1 u.2 → K u) : wpX11_does f g x1 K := by
  have b41_i := hV.b41
  have b42_i := hV.b42
  have n_i := hV.n
  have w_i := fun i => hV.g47 (i := i)
  unfold wpX11_does
  unfold wpX11_does_b0
  refine ⟨vI (c := 720) rfl (by first | assumption | grind | (simp [pt_r, upd_r] <;> grind)) (by first | assumption | grind | (simp [pt_r, upd_r] <;> grind)), ?_⟩
  refine ⟨fun c0 => ?_, fun c0 => ?_, fun c0 => ?_, fun c0 => ?_, fun c0 => ?_, fun c0 => ?_, fun c0 => ?_, fun c0 => ?_, fun c0 => ?_, fun c0 => ?_, fun c0 => ?_, fun c0 => ?_, fun c0 => ?_, fun c0 => ?_⟩
  · refine ⟨vI (c := 720) rfl (by first | assumption | grind | (simp [pt_r, upd_r] <;> grind)) (by first | assumption | grind | (simp [pt_r, upd_r] <;> grind)), ?_⟩
    unfold wpX11_does_b272
    exact hK _ (Vf (k := 43) rfl hV)
  · refine s_X11_wipes hV (fun u269 hV269 => ?_)
    have b41_269 := hV269.b41
    have b42_269 := hV269.b42
    have n_269 := hV269.n
    have w_269 := fun i => hV269.g47 (i := i)
    unfold wpX11_does_b272
    exact hK _ hV269
  · refine s_X11_wipes hV (fun u269 hV269 => ?_)
    have b41_269 := hV269.b41
    have b42_269 := hV269.b42
    have n_269 := hV269.n
    have w_269 := fun i => hV269.g47 (i := i)
    unfold wpX11_does_b272
    exact hK _ hV269
  · unfold wpX11_does_b272
    exact hK _ (Vu42 (by first | assumption | exact jr4 (by grind) | grind) hV)
  · unfold wpX11_does_b272
    exact hK _ (Vu42 (by first | assumption | exact jr4 (by grind) | grind) hV)
  · unfold wpX11_does_b272
    exact hK _ (Vu42 (by first | assumption | exact jr4 (by grind) | grind) hV)
  · refine ⟨vI (c := 36) rfl (by first | assumption | grind | (simp [pt_r, upd_r] <;> grind)) (by first | assumption | grind | (simp [pt_r, upd_r] <;> grind)), ?_⟩
    unfold wpX11_does_b272
    exact hK _ (Vu42 (by first | assumption | exact jr4 (by grind) | grind) hV)
  · refine ⟨vI (c := 36) rfl (by first | assumption | grind | (simp [pt_r, upd_r] <;> grind)) (by first | assumption | grind | (simp [pt_r, upd_r] <;> grind)), ?_⟩
    unfold wpX11_does_b272
    exact hK _ (Vg47 (by first | assumption | grind | (simp [pt_r, upd_r] <;> grind)) hV)
  · refine s_X11_goes hV (fun u150 hV150 => ?_)
    have b41_150 := hV150.b41
    have b42_150 := hV150.b42
    have n_150 := hV150.n
    have w_150 := fun i => hV150.g47 (i := i)
    unfold wpX11_does_b272
    exact hK _ hV150
  · refine ⟨vI (c := 36) rfl (by first | assumption | grind | (simp [pt_r, upd_r] <;> grind)) (by first | assumption | grind | (simp [pt_r, upd_r] <;> grind)), ?_⟩
    refine ⟨vI (c := 720) rfl (by first | assumption | grind | (simp [pt_r, upd_r] <;> grind)) (by first | assumption | grind | (simp [pt_r, upd_r] <;> grind)), ?_⟩
    refine ⟨fun c1 => ?_, fun c1 => ?_⟩
    · refine ⟨vI (c := 720) rfl (by first | assumption | grind | (simp [pt_r, upd_r] <;> grind)) (by first | assumption | grind | (simp [pt_r, upd_r] <;> grind)), ?_⟩
      unfold wpX11_does_b191
      refine ⟨vI (c := 36) rfl (by first | assumption | grind | (simp [pt_r, upd_r] <;> grind)) (by first | assumption | grind | (simp [pt_r, upd_r] <;> grind)), ?_⟩
      unfold wpX11_does_b272
      exact hK _ (Vg (k := 48) rfl hV)
    · unfold wpX11_does_b191
      refine ⟨vI (c := 36) rfl (by first | assumption | grind | (simp [pt_r, upd_r] <;> grind)) (by first | assumption | grind | (simp [pt_r, upd_r] <;> grind)), ?_⟩
      unfold wpX11_does_b272
      exact hK _ (Vg (k := 48) rfl hV)
  · refine ⟨vI (c := 36) rfl (by first | assumption | grind | (simp [pt_r, upd_r] <;> grind)) (by first | assumption | grind | (simp [pt_r, upd_r] <;> grind)), ?_⟩
    refine ⟨vI (c := 720) rfl (by first | assumption | grind | (simp [pt_r, upd_r] <;> grind)) (by first | assumption | grind | (simp [pt_r, upd_r] <;> grind)), ?_⟩
    refine ⟨vI (c := 36) rfl (by first | assumption | grind | (simp [pt_r, upd_r] <;> grind)) (by first | assumption | grind | (simp [pt_r, upd_r] <;> grind)), ?_⟩
    unfold wpX11_does_b272
    exact hK _ (Vg (k := 48) rfl hV)
  · refine ⟨fun c1 => ?_, fun c1 => ?_⟩
    · unfold wpX11_does_b253
      unfold wpX11_does_b272
      exact hK _ (Vf (k := 44) rfl hV)
    · unfold wpX11_does_b253
      unfold wpX11_does_b272
      exact hK _ (Vf (k := 44) rfl hV)
  · unfold wpX11_does_b272
    exact hK _ (Vf (k := 44) rfl hV)
  · refine s_X11_wipes hV (fun u269 hV269 => ?_)
    have b41_269 := hV269.b41
    have b42_269 := hV269.b42
    have n_269 := hV269.n
    have w_269 := fun i => hV269.g47 (i := i)
    unfold wpX11_does_b272
    exact hK _ hV269
set_option maxHeartbeats 1000000 in
theorem l_X11_ticks_b60 {w h : Nat} {f0 : Nat → Int32} {g0 : Nat → Nat → Int32} {K : Int32 → ((Nat → Int32) × (Nat → Nat → Int32)) → Prop} (hK : ∀ v : Int32, ∀ u : mS, V w h f0 g0 u.1 u.2 → K v u) (n : Nat) : ∀ (f : Nat → Int32) (g : Nat → Nat → Int32) (x1 : Int32) (x3 : Int32), V w h f0 g0 f g → 0 ≤ x3 → 0 ≤ x1 ∧ x1 < 30 → mu (x3) < n → wpX11_ticks_b60 n f g x1 x3 K := by
  induction n with
  | zero => intro f g x1 x3 hV hi0 hi1 hm; exact absurd hm (Nat.not_lt_zero _)
  | succ n ih =>
    intro f g x1 x3 hV hi0 hi1 hm
    have b12_i := hV.b12
    have e13_i := fun i => hV.g13 (i := i)
    have e14_i := fun i => hV.g14 (i := i)
    unfold wpX11_ticks_b60 wpX11_ticks_b60_body
    refine ⟨vI (c := 60) rfl (by first | assumption | grind | (simp [pt_r, upd_r] <;> grind)) (by first | assumption | grind | (simp [pt_r, upd_r] <;> grind)), ?_⟩
    refine ⟨fun c0 => ?_, fun c0 => ?_⟩
    · exact hK _ _ hV
    · refine s_X11_does hV (by first | assumption | grind | (simp [pt_r, upd_r] <;> grind)) (fun u77 hV77 => ?_)
      have b12_77 := hV77.b12
      have e13_77 := fun i => hV77.g13 (i := i)
      have e14_77 := fun i => hV77.g14 (i := i)
      exact ih _ _ _ _ hV77 (by first | assumption | (exact lt1 (mu_lt (by assumption)) hm) | grind) (by first | assumption | (exact lt1 (mu_lt (by assumption)) hm) | grind) (lt1 (mu_lt c0) hm)
set_option maxHeartbeats 1000000 in
theorem l_X11_ticks_b17 {w h : Nat} {f0 : Nat → Int32} {g0 : Nat → Nat → Int32} {B2 : (Nat → Int32) → (Nat → Nat → Int32) → Int32 → Prop} {m2 : Nat} {K : Int32 → ((Nat → Int32) × (Nat → Nat → Int32)) → Prop} (hK : ∀ v : Int32, ∀ u : mS, V w h f0 g0 u.1 u.2 → K v u) (hB2 : ∀ (f : Nat → Int32) (g : Nat → Nat → Int32) (x1 : Int32), V w h f0 g0 f g → 0 ≤ x1 → mu x1 < m2 → B2 f g x1) (n : Nat) : ∀ (f : Nat → Int32) (g : Nat → Nat → Int32) (x1 : Int32) (x2 : Int32) (x3 : Int32), V w h f0 g0 f g → 0 ≤ x3 → 0 ≤ x1 ∧ x1 < 30 → mu (x1 + 1) < m2 → mu (x3) < n → wpX11_ticks_b17 B2 n f g x1 x2 x3 K := by
  induction n with
  | zero => intro f g x1 x2 x3 hV hi0 hi1 hi2 hm; exact absurd hm (Nat.not_lt_zero _)
  | succ n ih =>
    intro f g x1 x2 x3 hV hi0 hi1 hi2 hm
    have b12_i := hV.b12
    have e13_i := fun i => hV.g13 (i := i)
    have e14_i := fun i => hV.g14 (i := i)
    have hm2 := hi2
    unfold wpX11_ticks_b17 wpX11_ticks_b17_body
    refine ⟨vI (c := 60) rfl (by first | assumption | grind | (simp [pt_r, upd_r] <;> grind)) (by first | assumption | grind | (simp [pt_r, upd_r] <;> grind)), ?_⟩
    refine ⟨fun c0 => ?_, fun c0 => ?_⟩
    · unfold wpX11_ticks_b48
      refine ⟨fun c1 => ?_, fun c1 => ?_⟩
      · exact ⟨_, l_X11_ticks_b60 hK _ _ _ _ _ hV (by first | assumption | (exact lt1 (mu_lt (by assumption)) hm) | grind) (by first | assumption | (exact lt1 (mu_lt (by assumption)) hm) | grind) (Nat.lt_succ_self _)⟩
      · exact hB2 _ _ _ hV (by first | assumption | (exact lt1 (mu_lt (by assumption)) hm) | grind) hm2
    · refine ⟨fun c1 => ?_, fun c1 => ?_⟩
      · unfold wpX11_ticks_b48
        refine ⟨fun c2 => ?_, fun c2 => ?_⟩
        · exact ⟨_, l_X11_ticks_b60 hK _ _ _ _ _ hV (by first | assumption | (exact lt1 (mu_lt (by assumption)) hm) | grind) (by first | assumption | (exact lt1 (mu_lt (by assumption)) hm) | grind) (Nat.lt_succ_self _)⟩
        · exact hB2 _ _ _ hV (by first | assumption | (exact lt1 (mu_lt (by assumption)) hm) | grind) hm2
      · refine s_X11_holds hV (by first | assumption | grind | (simp [pt_r, upd_r] <;> grind)) (fun r38 hb38 => ?_)
        try dsimp only
        exact ih _ _ _ _ _ hV (by first | assumption | (exact lt1 (mu_lt (by assumption)) hm) | grind) (by first | assumption | (exact lt1 (mu_lt (by assumption)) hm) | grind) (by first | assumption | (exact lt1 (mu_lt (by assumption)) hm) | grind) (lt1 (mu_lt c0) hm)
set_option maxHeartbeats 1000000 in
theorem l_X11_ticks_b2 {w h : Nat} {f0 : Nat → Int32} {g0 : Nat → Nat → Int32} {K : Int32 → ((Nat → Int32) × (Nat → Nat → Int32)) → Prop} (hK : ∀ v : Int32, ∀ u : mS, V w h f0 g0 u.1 u.2 → K v u) (n : Nat) : ∀ (f : Nat → Int32) (g : Nat → Nat → Int32) (x1 : Int32), V w h f0 g0 f g → 0 ≤ x1 → mu (x1) < n → wpX11_ticks_b2 n f g x1 K := by
  induction n with
  | zero => intro f g x1 hV hi0 hm; exact absurd hm (Nat.not_lt_zero _)
  | succ n ih =>
    intro f g x1 hV hi0 hm
    have b12_i := hV.b12
    have e13_i := fun i => hV.g13 (i := i)
    have e14_i := fun i => hV.g14 (i := i)
    unfold wpX11_ticks_b2 wpX11_ticks_b2_body
    refine ⟨fun c0 => ?_, fun c0 => ?_⟩
    · exact hK _ _ hV
    · exact ⟨_, l_X11_ticks_b17 hK ih _ _ _ _ _ _ hV (by first | assumption | (exact lt1 (mu_lt (by assumption)) hm) | grind) (by first | assumption | (exact lt1 (mu_lt (by assumption)) hm) | grind) (by first | assumption | (exact lt1 (mu_lt (by assumption)) hm) | grind) (Nat.lt_succ_self _)⟩
set_option maxHeartbeats 1000000 in
theorem s_X11_ticks {w h : Nat} {f0 : Nat → Int32} {g0 : Nat → Nat → Int32} {f : Nat → Int32} {g : Nat → Nat → Int32} {K : Int32 → ((Nat → Int32) × (Nat → Nat → Int32)) → Prop} (hV : V w h f0 g0 f g) (hK : ∀ v : Int32, ∀ u : mS, V w h f0 g0 u.1 u.2 → K v u) : wpX11_ticks f g K := by
  have b12_i := hV.b12
  have e13_i := fun i => hV.g13 (i := i)
  have e14_i := fun i => hV.g14 (i := i)
  unfold wpX11_ticks
  unfold wpX11_ticks_b0
  exact ⟨_, l_X11_ticks_b2 hK _ _ _ _ hV (by first | assumption | (exact lt1 (mu_lt (by assumption)) hm) | grind) (Nat.lt_succ_self _)⟩
set_option maxHeartbeats 1000000 in
theorem l_X11_tick_b22 {w h : Nat} {f0 : Nat → Int32} {g0 : Nat → Nat → Int32} {K : Int32 → ((Nat → Int32) × (Nat → Nat → Int32)) → Prop} (hK : ∀ v : Int32, ∀ u : mS, V w h f0 g0 u.1 u.2 → K v u) (n : Nat) : ∀ (f : Nat → Int32) (g : Nat → Nat → Int32) (x1 : Int32) (x2 : Int32) (x3 : Int32), V w h f0 g0 f g → 0 ≤ x3 → mu (x3) < n → wpX11_tick_b22 n f g x1 x2 x3 K := by
  induction n with
  | zero => intro f g x1 x2 x3 hV hi0 hm; exact absurd hm (Nat.not_lt_zero _)
  | succ n ih =>
    intro f g x1 x2 x3 hV hi0 hm
    unfold wpX11_tick_b22 wpX11_tick_b22_body
    refine ⟨fun c0 => ?_, fun c0 => ?_⟩
    · exact hK _ _ hV
    · refine s_X11_ticks hV (fun r29 u29 hV29 => ?_)
      refine ⟨fun c1 => ?_, fun c1 => ?_⟩
      · unfold wpX11_tick_b48
        exact ih _ _ _ _ _ (Vf (k := 51) rfl hV29) (by first | assumption | grind | (simp [pt_r, upd_r] <;> grind)) (lt1 (mu_lt c0) hm)
      · unfold wpX11_tick_b48
        exact ih _ _ _ _ _ (Vf (k := 51) rfl hV29) (by first | assumption | grind | (simp [pt_r, upd_r] <;> grind)) (lt1 (mu_lt c0) hm)
set_option maxHeartbeats 1000000 in
theorem s_X11_tick {w h : Nat} {f0 : Nat → Int32} {g0 : Nat → Nat → Int32} {f : Nat → Int32} {g : Nat → Nat → Int32} {x1 : Int32} {K : Int32 → ((Nat → Int32) × (Nat → Nat → Int32)) → Prop} (hV : V w h f0 g0 f g) (hK : ∀ v : Int32, ∀ u : mS, V w h f0 g0 u.1 u.2 → K v u) : wpX11_tick f g x1 K := by
  unfold wpX11_tick
  unfold wpX11_tick_b0
  refine s_X11_isIn (fun r10 hb10 hp10 => ?_)
  refine ⟨fun c0 => ?_, fun c0 => ?_⟩
  · exact ⟨_, l_X11_tick_b22 hK _ _ _ _ _ _ (Vf (k := 2) rfl hV) (by first | assumption | grind | (simp [pt_r, upd_r] <;> grind)) (Nat.lt_succ_self _)⟩
  · exact hK _ _ (Vf (k := 2) rfl hV)
set_option maxHeartbeats 1000000 in
theorem l_X11_run_b20 {w h : Nat} {f0 : Nat → Int32} {g0 : Nat → Nat → Int32} {K : Int32 → ((Nat → Int32) × (Nat → Nat → Int32)) → Prop} (hK : ∀ v : Int32, ∀ u : mS, V w h f0 g0 u.1 u.2 → K v u) (n : Nat) : ∀ (f : Nat → Int32) (g : Nat → Nat → Int32) (x1 : Int32) (x2 : Int32), V w h f0 g0 f g → 0 ≤ x2 ∧ x2 ≤ x1 → mu (x2) < n → wpX11_run_b20 n f g x1 x2 K := by
  induction n with
  | zero => intro f g x1 x2 hV hi0 hm; exact absurd hm (Nat.not_lt_zero _)
  | succ n ih =>
    intro f g x1 x2 hV hi0 hm
    unfold wpX11_run_b20 wpX11_run_b20_body
    refine ⟨fun c0 => ?_, fun c0 => ?_⟩
    · exact hK _ _ hV
    · refine ⟨fun c1 => ?_, fun c1 => ?_⟩
      · refine s_X11_ticks hV (fun r41 u41 hV41 => ?_)
        exact ih _ _ _ _ (Vf (k := 51) rfl hV41) (by first | assumption | grind | (simp [pt_r, upd_r] <;> grind)) (lt1 (mu_lt (N := x1) (by first | assumption | grind | (simp [pt_r, upd_r] <;> grind))) hm)
      · exact hK _ _ hV
set_option maxHeartbeats 1000000 in
theorem s_X11_run {w h : Nat} {f0 : Nat → Int32} {g0 : Nat → Nat → Int32} {f : Nat → Int32} {g : Nat → Nat → Int32} {x1 : Int32} {K : Int32 → ((Nat → Int32) × (Nat → Nat → Int32)) → Prop} (hV : V w h f0 g0 f g) (hK : ∀ v : Int32, ∀ u : mS, V w h f0 g0 u.1 u.2 → K v u) : wpX11_run f g x1 K := by
  unfold wpX11_run
  unfold wpX11_run_b0
  refine s_X11_isIn (fun r10 hb10 hp10 => ?_)
  refine ⟨fun c0 => ?_, fun c0 => ?_⟩
  · exact ⟨_, l_X11_run_b20 hK _ _ _ _ _ (Vf (k := 2) rfl hV) (by first | assumption | grind | (simp [pt_r, upd_r] <;> grind)) (Nat.lt_succ_self _)⟩
  · exact hK _ _ (Vf (k := 2) rfl hV)
set_option maxHeartbeats 1000000 in
theorem l_X11_comesIn_b2 {w h : Nat} {f0 : Nat → Int32} {g0 : Nat → Nat → Int32} {K : Int32 → ((Nat → Int32) × (Nat → Nat → Int32)) → Prop} (hK : ∀ v : Int32, ∀ u : mS, V w h f0 g0 u.1 u.2 → K v u) (n : Nat) : ∀ (f : Nat → Int32) (g : Nat → Nat → Int32) (x1 : Int32) (x2 : Int32), V w h f0 g0 f g → 0 ≤ x2 ∧ x2 ≤ x1 → mu (x2) < n → wpX11_comesIn_b2 n f g x1 x2 K := by
  induction n with
  | zero => intro f g x1 x2 hV hi0 hm; exact absurd hm (Nat.not_lt_zero _)
  | succ n ih =>
    intro f g x1 x2 hV hi0 hm
    unfold wpX11_comesIn_b2 wpX11_comesIn_b2_body
    refine ⟨fun c0 => ?_, fun c0 => ?_⟩
    · exact hK _ _ hV
    · refine ⟨fun c1 => ?_, fun c1 => ?_⟩
      · refine s_X11_ticks hV (fun r22 u22 hV22 => ?_)
        exact ih _ _ _ _ hV22 (by first | assumption | grind | (simp [pt_r, upd_r] <;> grind)) (lt1 (mu_lt (N := x1) (by first | assumption | grind | (simp [pt_r, upd_r] <;> grind))) hm)
      · exact hK _ _ hV
