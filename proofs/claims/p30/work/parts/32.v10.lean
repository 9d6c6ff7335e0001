set_option maxHeartbeats 1000000 in
theorem s_X11_works {w h : Nat} {f0 : Nat → Int32} {g0 : Nat → Nat → Int32} {f : Nat → Int32} {g : Nat → Nat → Int32} {x1 : Int32} {x2 : Int32} {x3 : Int32} {K : Int32 → ((Nat → Int32) × (Nat → Nat → Int32)) → Prop} (hV : V w h f0 g0 f g) (hp : 0 ≤ x1 ∧ x1 < 24) (hK : ∀ v : Int32, ∀ u : mS, V w h f0 g0 u.1 u.2 → isB v → K v u) : wpX11_works f g x1 x2 x3 K := by
  have e25_i := hV.g25 (i := ix x1)
  have e26_i := hV.g26 (i := ix x1)
  unfold wpX11_works
  unfold wpX11_works_b0
  refine ⟨vI (c := 48) rfl (by first | assumption | grind | (simp [pt_r, upd_r] <;> grind)) (by first | assumption | grind | (simp [pt_r, upd_r] <;> grind)), ?_⟩
  exact ⟨_, l_X11_works_b8 hK _ _ _ _ _ _ _ hV (by first | assumption | grind | (simp [pt_r, upd_r] <;> grind)) (by first | assumption | grind | (simp [pt_r, upd_r] <;> grind)) (Nat.lt_succ_self _)⟩
section PL
variable {w h : Nat} {f0 : Nat → Int32} {g0 : Nat → Nat → Int32} {K : mS → Prop}
theorem pl_163 (hK : ∀ u : mS, V w h f0 g0 u.1 u.2 → K u) {f : Nat → Int32} {g : Nat → Nat → Int32} {x5 : Int32} (hV : V w h f0 g0 f g) : wpX11_pulls_b163 f g x5 K := by
  unfold wpX11_pulls_b163 wpX11_pulls_b172
  exact ⟨fun _ => hK _ hV, fun _ => s_X11_goes hV (fun u hu => hK _ hu)⟩
theorem pl_146 (hK : ∀ u : mS, V w h f0 g0 u.1 u.2 → K u) {f : Nat → Int32} {g : Nat → Nat → Int32} {x4 x5 : Int32} (hV : V w h f0 g0 f g) : wpX11_pulls_b146 f g x4 x5 K := by
  have b := hV.b42
  unfold wpX11_pulls_b146
  exact ⟨fun _ => pl_163 hK hV, fun _ => pl_163 hK (Vu42 (jr4 (by grind)) hV)⟩
theorem pl_101 (hK : ∀ u : mS, V w h f0 g0 u.1 u.2 → K u) {f : Nat → Int32} {g : Nat → Nat → Int32} {x1 x2 : Int32} (hV : V w h f0 g0 f g) : wpX11_pulls_b101 f g x1 x2 K := by
  unfold wpX11_pulls_b101
  refine s_X11_works hV (by decide) (fun r1 u1 h1 _ => s_X11_works h1 (by decide) (fun r2 u2 h2 _ => s_X11_works h2 (by decide) (fun r3 u3 h3 _ => ⟨fun _ => pl_146 hK h3, fun _ => ?_⟩)))
  have b := h3.b42
  exact pl_146 hK (Vu42 (jr4 (by grind)) h3)
theorem l_X11_pulls_b9 (hK : ∀ u : mS, V w h f0 g0 u.1 u.2 → K u) (n : Nat) : ∀ (f : Nat → Int32) (g : Nat → Nat → Int32) (x1 x2 x3 : Int32), V w h f0 g0 f g → 0 ≤ x3 → mu x3 < n → wpX11_pulls_b9 n f g x1 x2 x3 K := by
  induction n with
  | zero => intro f g x1 x2 x3 _ _ hm; exact absurd hm (Nat.not_lt_zero _)
  | succ n ih =>
    intro f g x1 x2 x3 hV h0 hm
    have b20 := hV.b20
    unfold wpX11_pulls_b9 wpX11_pulls_b9_body
    refine ⟨fun _ => ?_, fun c => ?_⟩
    · refine s_X11_works (Vf (k := 45) rfl hV) (by decide) (fun r u hu _ => ⟨fun _ => pl_101 hK hu, fun _ => ⟨?_, pl_101 hK (Vg47 hu.b42 hu)⟩⟩)
      have b := hu.b41
      have nn := hu.n
      exact vI (c := 36) rfl b.1 (by grind)
    · have nx : ∀ (f : Nat → Int32) (g : Nat → Nat → Int32) (v : Int32), V w h f0 g0 f g → wpX11_pulls_b49 (fun f g x1 x2 x3 => wpX11_pulls_b9 n f g x1 x2 x3 K) f g v x1 x2 x3 K := fun f g v hV => by
        unfold wpX11_pulls_b49 wpX11_pulls_b64
        exact ⟨fun _ => ih _ _ _ _ _ hV (by grind) (lt1 (mu_lt c) hm), fun _ => ih _ _ _ _ _ hV (by grind) (lt1 (mu_lt c) hm)⟩
      refine s_X11_isOf (fun r hb => ⟨fun _ => ?_, fun _ => s_X11_isOf (fun r2 _ => nx _ _ _ hV)⟩)
      exact s_X11_works hV (by grind) (fun r3 u3 h3 _ => nx _ _ _ h3)
theorem s_X11_pulls {f : Nat → Int32} {g : Nat → Nat → Int32} (hV : V w h f0 g0 f g) (hK : ∀ u : mS, V w h f0 g0 u.1 u.2 → K u) : wpX11_pulls f g K := by
  unfold wpX11_pulls wpX11_pulls_b0
  exact s_X11_felt hV (fun r => ⟨_, l_X11_pulls_b9 hK _ _ _ _ _ _ hV (by decide) (Nat.lt_succ_self _)⟩)
end PL
set_option maxHeartbeats 1000000 in
theorem s_X11_pullsTold {w h : Nat} {f0 : Nat → Int32} {g0 : Nat → Nat → Int32} {f : Nat → Int32} {g : Nat → Nat → Int32} {K : ((Nat → Int32) × (Nat → Nat → Int32)) → Prop} (hV : V w h f0 g0 f g) (hK : ∀ u : mS, V w h f0 g0 u.1 u.2 → K u) : wpX11_pullsTold f g K := by
  unfold wpX11_pullsTold
  unfold wpX11_pullsTold_b0
  refine s_X11_felt hV (fun r2 => ?_)
  try dsimp only
  refine s_X11_pulls (Vf (k := 67) rfl (Vf (k := 69) rfl hV)) (fun u17 hV17 => ?_)
  exact hK _ (Vf (k := 66) rfl (Vf (k := 68) rfl hV17))
set_option maxHeartbeats 1000000 in
theorem l_X11_pull_b25 {w h : Nat} {f0 : Nat → Int32} {g0 : Nat → Nat → Int32} {K : Int32 → ((Nat → Int32) × (Nat → Nat → Int32)) → Prop} (hK : ∀ v : Int32, ∀ u : mS, V w h f0 g0 u.1 u.2 → K v u) (n : Nat) : ∀ (f : Nat → Int32) (g : Nat → Nat → Int32) (x1 : Int32) (x2 : Int32), V w h f0 g0 f g → 0 ≤ x2 → mu (x2) < n → wpX11_pull_b25 n f g x1 x2 K := by
  induction n with
  | zero => intro f g x1 x2 hV hi0 hm; exact absurd hm (Nat.not_lt_zero _)
  | succ n ih =>
    intro f g x1 x2 hV hi0 hm
    unfold wpX11_pull_b25 wpX11_pull_b25_body
    refine ⟨fun c0 => ?_, fun c0 => ?_⟩
    · exact hK _ _ hV
    · refine s_X11_pullsTold hV (fun u31 hV31 => ?_)
      exact ih _ _ _ _ hV31 (by first | assumption | grind | (simp [pt_r, upd_r] <;> grind)) (lt1 (mu_lt c0) hm)
set_option maxHeartbeats 1000000 in
theorem s_X11_pull {w h : Nat} {f0 : Nat → Int32} {g0 : Nat → Nat → Int32} {f : Nat → Int32} {g : Nat → Nat → Int32} {x1 : Int32} {K : Int32 → ((Nat → Int32) × (Nat → Nat → Int32)) → Prop} (hV : V w h f0 g0 f g) (hK : ∀ v : Int32, ∀ u : mS, V w h f0 g0 u.1 u.2 → K v u) : wpX11_pull f g x1 K := by
  unfold wpX11_pull
  unfold wpX11_pull_b0
  refine s_X11_isIn (fun r10 hb10 hp10 => ?_)
  refine ⟨fun c0 => ?_, fun c0 => ?_⟩
  · exact ⟨_, l_X11_pull_b25 hK _ _ _ _ _ (Vf (k := 53) rfl (Vf (k := 2) rfl hV)) (by first | assumption | grind | (simp [pt_r, upd_r] <;> grind)) (Nat.lt_succ_self _)⟩
  · exact hK _ _ (Vf (k := 2) rfl hV)
set_option maxHeartbeats 1000000 in
theorem l_X11_pullRun_b20 {w h : Nat} {f0 : Nat → Int32} {g0 : Nat → Nat → Int32} {K : Int32 → ((Nat → Int32) × (Nat → Nat → Int32)) → Prop} (hK : ∀ v : Int32, ∀ u : mS, V w h f0 g0 u.1 u.2 → K v u) (n : Nat) : ∀ (f : Nat → Int32) (g : Nat → Nat → Int32) (x1 : Int32) (x2 : Int32), V w h f0 g0 f g → 0 ≤ x2 ∧ x2 ≤ x1 → mu (x2) < n → wpX11_pullRun_b20 n f g x1 x2 K := by
  induction n with
  | zero => intro f g x1 x2 hV hi0 hm; exact absurd hm (Nat.not_lt_zero _)
  | succ n ih =>
    intro f g x1 x2 hV hi0 hm
    unfold wpX11_pullRun_b20 wpX11_pullRun_b20_body
    refine ⟨fun c0 => ?_, fun c0 => ?_⟩
    · exact hK _ _ hV
    · refine ⟨fun c1 => ?_, fun c1 => ?_⟩
      · refine s_X11_pullsTold hV (fun u40 hV40 => ?_)
        exact ih _ _ _ _ hV40 (by first | assumption | grind | (simp [pt_r, upd_r] <;> grind)) (lt1 (mu_lt (N := x1) (by first | assumption | grind | (simp [pt_r, upd_r] <;> grind))) hm)
      · exact hK _ _ hV
set_option maxHeartbeats 1000000 in
theorem s_X11_pullRun {w h : Nat} {f0 : Nat → Int32} {g0 : Nat → Nat → Int32} {f : Nat → Int32} {g : Nat → Nat → Int32} {x1 : Int32} {K : Int32 → ((Nat → Int32) × (Nat → Nat → Int32)) → Prop} (hV : V w h f0 g0 f g) (hK : ∀ v : Int32, ∀ u : mS, V w h f0 g0 u.1 u.2 → K v u) : wpX11_pullRun f g x1 K := by
  unfold wpX11_pullRun
  unfold wpX11_pullRun_b0
  refine s_X11_isIn (fun r10 hb10 hp10 => ?_)
  refine ⟨fun c0 => ?_, fun c0 => ?_⟩
  · exact ⟨_, l_X11_pullRun_b20 hK _ _ _ _ _ (Vf (k := 2) rfl hV) (by first | assumption | grind | (simp [pt_r, upd_r] <;> grind)) (Nat.lt_succ_self _)⟩
  · exact hK _ _ (Vf (k := 2) rfl hV)
set_option maxHeartbeats 1000000 in
theorem s_X11_relays {w h : Nat} {f0 : Nat → Int32} {g0 : Nat → Nat → Int32} {f : Nat → Int32} {g : Nat → Nat → Int32} {K : Int32 → ((Nat → Int32) × (Nat → Nat → Int32)) → Prop} (hV : V w h f0 g0 f g) (hK : ∀ v : Int32, ∀ u : mS, V w h f0 g0 u.1 u.2 → K v u) : wpX11_relays f g K := by
  unfold wpX11_relays
  unfold wpX11_relays_b0
  exact hK _ _ (Vf (k := 2) rfl hV)
set_option maxHeartbeats 1000000 in
theorem s_X11_races {w h : Nat} {f0 : Nat → Int32} {g0 : Nat → Nat → Int32} {f : Nat → Int32} {g : Nat → Nat → Int32} {x1 : Int32} {x2 : Int32} {K : Int32 → ((Nat → Int32) × (Nat → Nat → Int32)) → Prop} (hV : V w h f0 g0 f g) (hp : 0 ≤ x1 ∧ x1 < 24) (hK : ∀ v : Int32, ∀ u : mS, V w h f0 g0 u.1 u.2 → isB v → K v u) : wpX11_races f g x1 x2 K := by
  unfold wpX11_races
  unfold wpX11_races_b0
  refine s_X11_works hV (by first | assumption | grind | (simp [pt_r, upd_r] <;> grind)) (fun r14 u14 hV14 hb14 => ?_)
  refine s_X11_isOf (fun r22 hb22 => ?_)
  refine ⟨fun c0 => ?_, fun c0 => ?_⟩
  · unfold wpX11_races_b33
    refine ⟨(by first | exact Or.inl rfl | exact Or.inr rfl | assumption), ?_⟩
    exact hK _ _ hV14 (by first | exact Or.inl rfl | exact Or.inr rfl | assumption)
  · unfold wpX11_races_b33
    refine ⟨(by first | exact Or.inl rfl | exact Or.inr rfl | assumption), ?_⟩
    exact hK _ _ hV14 (by first | exact Or.inl rfl | exact Or.inr rfl | assumption)
set_option maxHeartbeats 1000000 in
theorem l_X11_race_b38 {w h : Nat} {f0 : Nat → Int32} {g0 : Nat → Nat → Int32} {B26 : (Nat → Int32) → (Nat → Nat → Int32) → Int32 → Int32 → Prop} {m26 : Nat} {K : Int32 → ((Nat → Int32) × (Nat → Nat → Int32)) → Prop} (hK : ∀ v : Int32, ∀ u : mS, V w h f0 g0 u.1 u.2 → K v u) (hB26 : ∀ (f : Nat → Int32) (g : Nat → Nat → Int32) (x1 : Int32) (x2 : Int32), V w h f0 g0 f g → 0 ≤ x2 → mu x2 < m26 → B26 f g x1 x2) (n : Nat) : ∀ (f : Nat → Int32) (g : Nat → Nat → Int32) (x1 : Int32) (x2 : Int32) (x3 : Int32), V w h f0 g0 f g → 0 ≤ x3 → 0 ≤ x2 ∧ x2 < 20 → mu (x2 + 1) < m26 → mu (x3) < n → wpX11_race_b38 B26 n f g x1 x2 x3 K := by
  induction n with
  | zero => intro f g x1 x2 x3 hV hi0 hi1 hi2 hm; exact absurd hm (Nat.not_lt_zero _)
  | succ n ih =>
    intro f g x1 x2 x3 hV hi0 hi1 hi2 hm
    have b20_i := hV.b20
    have hm26 := hi2
    unfold wpX11_race_b38 wpX11_race_b38_body
    refine ⟨fun c0 => ?_, fun c0 => ?_⟩
    · exact hB26 _ _ _ _ hV (by first | assumption | (exact lt1 (mu_lt (by assumption)) hm) | grind) hm26
    · refine s_X11_isOf (fun r48 hb48 => ?_)
      refine ⟨fun c1 => ?_, fun c1 => ?_⟩
      · unfold wpX11_race_b97
        exact ih _ _ _ _ _ hV (by first | assumption | (exact lt1 (mu_lt (by assumption)) hm) | grind) (by first | assumption | (exact lt1 (mu_lt (by assumption)) hm) | grind) (by first | assumption | (exact lt1 (mu_lt (by assumption)) hm) | grind) (lt1 (mu_lt c0) hm)
      · refine s_X11_isOf (fun r56 hb56 => ?_)
        refine ⟨fun c2 => ?_, fun c2 => ?_⟩
        · refine s_X11_races hV (by first | assumption | grind | (simp [pt_r, upd_r] <;> grind)) (fun r68 u68 hV68 hb68 => ?_)
          have b20_68 := hV68.b20
          refine ⟨fun c3 => ?_, fun c3 => ?_⟩
          · refine s_X11_races hV68 (by first | assumption | grind | (simp [pt_r, upd_r] <;> grind)) (fun r84 u84 hV84 hb84 => ?_)
            have b20_84 := hV84.b20
            refine ⟨fun c4 => ?_, fun c4 => ?_⟩
            · unfold wpX11_race_b97
              exact ih _ _ _ _ _ hV84 (by first | assumption | (exact lt1 (mu_lt (by assumption)) hm) | grind) (by first | assumption | (exact lt1 (mu_lt (by assumption)) hm) | grind) (by first | assumption | (exact lt1 (mu_lt (by assumption)) hm) | grind) (lt1 (mu_lt c0) hm)
            · exact hK _ _ hV84
          · exact hK _ _ hV68
        · unfold wpX11_race_b97
          exact ih _ _ _ _ _ hV (by first | assumption | (exact lt1 (mu_lt (by assumption)) hm) | grind) (by first | assumption | (exact lt1 (mu_lt (by assumption)) hm) | grind) (by first | assumption | (exact lt1 (mu_lt (by assumption)) hm) | grind) (lt1 (mu_lt c0) hm)
set_option maxHeartbeats 1000000 in
theorem l_X11_race_b26 {w h : Nat} {f0 : Nat → Int32} {g0 : Nat → Nat → Int32} {K : Int32 → ((Nat → Int32) × (Nat → Nat → Int32)) → Prop} (hK : ∀ v : Int32, ∀ u : mS, V w h f0 g0 u.1 u.2 → K v u) (n : Nat) : ∀ (f : Nat → Int32) (g : Nat → Nat → Int32) (x1 : Int32) (x2 : Int32), V w h f0 g0 f g → 0 ≤ x2 → mu (x2) < n → wpX11_race_b26 n f g x1 x2 K := by
  induction n with
  | zero => intro f g x1 x2 hV hi0 hm; exact absurd hm (Nat.not_lt_zero _)
  | succ n ih =>
    intro f g x1 x2 hV hi0 hm
    have b20_i := hV.b20
    unfold wpX11_race_b26 wpX11_race_b26_body
    refine ⟨fun c0 => ?_, fun c0 => ?_⟩
    · exact hK _ _ hV
    · exact ⟨_, l_X11_race_b38 hK ih _ _ _ _ _ _ hV (by first | assumption | (exact lt1 (mu_lt (by assumption)) hm) | grind) (by first | assumption | (exact lt1 (mu_lt (by assumption)) hm) | grind) (by first | assumption | (exact lt1 (mu_lt (by assumption)) hm) | grind) (Nat.lt_succ_self _)⟩
set_option maxHeartbeats 1000000 in
theorem s_X11_race {w h : Nat} {f0 : Nat → Int32} {g0 : Nat → Nat → Int32} {f : Nat → Int32} {g : Nat → Nat → Int32} {K : Int32 → ((Nat → Int32) × (Nat → Nat → Int32)) → Prop} (hV : V w h f0 g0 f g) (hK : ∀ v : Int32, ∀ u : mS, V w h f0 g0 u.1 u.2 → K v u) : wpX11_race f g K := by
  have b20_i := hV.b20
  unfold wpX11_race
  unfold wpX11_race_b0
  refine ⟨fun c0 => ?_, fun c0 => ?_⟩
  · exact ⟨_, l_X11_race_b26 hK _ _ _ _ _ (Vf (k := 2) rfl hV) (by first | assumption | (exact lt1 (mu_lt (by assumption)) hm) | grind) (Nat.lt_succ_self _)⟩
  · exact hK _ _ (Vf (k := 2) rfl hV)
set_option maxHeartbeats 1000000 in
theorem s_X11_sticks {w h : Nat} {f0 : Nat → Int32} {g0 : Nat → Nat → Int32} {f : Nat → Int32} {g : Nat → Nat → Int32} {x1 : Int32} {x2 : Int32} {K : ((Nat → Int32) × (Nat → Nat → Int32)) → Prop} (hV : V w h f0 g0 f g) (hK : ∀ u : mS, V w h f0 g0 u.1 u.2 → K u) : wpX11_sticks f g x1 x2 K := by
  unfold wpX11_sticks
  unfold wpX11_sticks_b0
  refine ⟨fun c0 => ?_, fun c0 => ?_⟩
  · unfold wpX11_sticks_b27
    refine ⟨fun c1 => ?_, fun c1 => ?_⟩
    · unfold wpX11_sticks_b57
      refine ⟨fun c2 => ?_, fun c2 => ?_⟩
      · unfold wpX11_sticks_b95
        exact hK _ (Vf (k := 50) rfl (Vf (k := 49) rfl hV))
      · refine ⟨fun c3 => ?_, fun c3 => ?_⟩
        · unfold wpX11_sticks_b92
          unfold wpX11_sticks_b95
          exact hK _ (Vf (k := 45) rfl (Vf (k := 50) rfl (Vf (k := 49) rfl hV)))
        · unfold wpX11_sticks_b92
          unfold wpX11_sticks_b95
          exact hK _ (Vf (k := 45) rfl (Vf (k := 50) rfl (Vf (k := 49) rfl hV)))
    · unfold wpX11_sticks_b57
      refine ⟨fun c2 => ?_, fun c2 => ?_⟩
      · unfold wpX11_sticks_b95
        exact hK _ (Vf (k := 50) rfl (Vf (k := 49) rfl hV))
      · refine ⟨fun c3 => ?_, fun c3 => ?_⟩
        · unfold wpX11_sticks_b92
          unfold wpX11_sticks_b95
          exact hK _ (Vf (k := 45) rfl (Vf (k := 50) rfl (Vf (k := 49) rfl hV)))
        · unfold wpX11_sticks_b92
          unfold wpX11_sticks_b95
          exact hK _ (Vf (k := 45) rfl (Vf (k := 50) rfl (Vf (k := 49) rfl hV)))
  · unfold wpX11_sticks_b27
    refine ⟨fun c1 => ?_, fun c1 => ?_⟩
    · unfold wpX11_sticks_b57
      refine ⟨fun c2 => ?_, fun c2 => ?_⟩
      · unfold wpX11_sticks_b95
        exact hK _ (Vf (k := 50) rfl (Vf (k := 49) rfl hV))
      · refine ⟨fun c3 => ?_, fun c3 => ?_⟩
        · unfold wpX11_sticks_b92
          unfold wpX11_sticks_b95
          exact hK _ (Vf (k := 45) rfl (Vf (k := 50) rfl (Vf (k := 49) rfl hV)))
        · unfold wpX11_sticks_b92
          unfold wpX11_sticks_b95
          exact hK _ (Vf (k := 45) rfl (Vf (k := 50) rfl (Vf (k := 49) rfl hV)))
    · unfold wpX11_sticks_b57
      refine ⟨fun c2 => ?_, fun c2 => ?_⟩
      · unfold wpX11_sticks_b95
        exact hK _ (Vf (k := 50) rfl (Vf (k := 49) rfl hV))
      · refine ⟨fun c3 => ?_, fun c3 => ?_⟩
        · unfold wpX11_sticks_b92
          unfold wpX11_sticks_b95
          exact hK _ (Vf (k := 45) rfl (Vf (k := 50) rfl (Vf (k := 49) rfl hV)))
        · unfold wpX11_sticks_b92
          unfold wpX11_sticks_b95
          exact hK _ (Vf (k := 45) rfl (Vf (k := 50) rfl (Vf (k := 49) rfl hV)))
set_option maxHeartbeats 1000000 in
theorem s_X11_stick {w h : Nat} {f0 : Nat → Int32} {g0 : Nat → Nat → Int32} {f : Nat → Int32} {g : Nat → Nat → Int32} {x1 : Int32} {x2 : Int32} {K : Int32 → ((Nat → Int32) × (Nat → Nat → Int32)) → Prop} (hV : V w h f0 g0 f g) (hK : ∀ v : Int32, ∀ u : mS, V w h f0 g0 u.1 u.2 → isB v → K v u) : wpX11_stick f g x1 x2 K := by
  have b20_i := hV.b20
  unfold wpX11_stick
  unfold wpX11_stick_b0
  refine ⟨fun c0 => ?_, fun c0 => ?_⟩
  · unfold wpX11_stick_b26
    exact hK _ _ (Vf (k := 2) rfl hV) (by first | exact Or.inl rfl | exact Or.inr rfl | assumption)
  · refine ⟨fun c1 => ?_, fun c1 => ?_⟩
    · unfold wpX11_stick_b26
      exact hK _ _ (Vf (k := 2) rfl hV) (by first | exact Or.inl rfl | exact Or.inr rfl | assumption)
    · refine s_X11_isIn (fun r20 hb20 hp20 => ?_)
      refine ⟨fun c2 => ?_, fun c2 => ?_⟩
      · refine s_X11_sticks (Vf (k := 2) rfl hV) (fun u31 hV31 => ?_)
        have b20_31 := hV31.b20
        exact hK _ _ hV31 (by first | exact Or.inl rfl | exact Or.inr rfl | assumption)
      · unfold wpX11_stick_b26
        exact hK _ _ (Vf (k := 2) rfl hV) (by first | exact Or.inl rfl | exact Or.inr rfl | assumption)
set_option maxHeartbeats 1000000 in
theorem s_X11_stuck {w h : Nat} {f0 : Nat → Int32} {g0 : Nat → Nat → Int32} {f : Nat → Int32} {g : Nat → Nat → Int32} {K : Int32 → ((Nat → Int32) × (Nat → Nat → Int32)) → Prop} (hV : V w h f0 g0 f g) (hK : ∀ v : Int32, ∀ u : mS, V w h f0 g0 u.1 u.2 → K v u) : wpX11_stuck f g K := by
  unfold wpX11_stuck
  unfold wpX11_stuck_b0
  exact hK _ _ (Vf (k := 2) rfl hV)
section SM2
variable {w h : Nat} {gk : Nat → Nat → Int32} {K : Int32 → mS → Prop}
/-- a state with images 4, 5, 6 -/
def I3 (w h : Nat) (gk : Nat → Nat → Int32) (u : mS) : Prop := V w h u.1 u.2 u.1 u.2 ∧ KE gk u.2 ∧ IM w h 4 (u.2 57) ∧ IM w h 5 (u.2 57) ∧ IM w h 6 (u.2 57)
theorem I3.e {u v : mS} (e : I3 w h gk u) (hV : V w h v.1 v.2 v.1 v.2) (h56 : v.2 56 = u.2 56) (h57 : v.2 57 = u.2 57) : I3 w h gk v := ⟨hV, e.2.1.tr (KE.of h56 h57), by rw [h57]; exact e.2.2⟩
theorem I3.v {u v : mS} (e : I3 w h gk u) (hV : V w h u.1 u.2 v.1 v.2) : I3 w h gk v := e.e hV.re hV.2.1.2.2.1 hV.2.1.2.2.2
theorem I3.t {u : mS} {k : Nat} {K : mS → Prop} (e : I3 w h gk u) (hk : k = 4 ∨ k = 5 ∨ k = 6) (hK : ∀ v : mS, I3 w h gk v → K v) : wpX11_takes u.1 u.2 (nI k) K := by
  have hi : IM w h k (u.2 57) := by
    rcases hk with rfl | rfl | rfl
    · exact e.2.2.1
    · exact e.2.2.2.1
    · exact e.2.2.2.2
  exact m_takes (by omega) e.1.1 hi (fun v hV h56 h57 => hK v (e.e hV h56 h57))
theorem I3.p {u : mS} {k : Nat} {K : mS → Prop} (e : I3 w h gk u) (hk : k = 5 ∨ k = 6) (hK : ∀ v : mS, I3 w h gk v → K v) : wpX11_puts u.1 u.2 (nI k) K := by
  refine m_puts (by omega) e.1 (fun g' hV' h56 hI hfr => hK _ ⟨hV', e.2.1.tr ⟨h56, fun i hi => hfr i (by omega)⟩, ?_⟩)
  have q : ∀ j, j ≠ k → j < 7 → IM w h j (u.2 57) → IM w h j (g' 57) := fun j hj _ hi => hi.eq (fun i h1 h2 => hfr i (by omega))
  rcases hk with rfl | rfl
  · exact ⟨q 4 (by decide) (by decide) e.2.2.1, hI, q 6 (by decide) (by decide) e.2.2.2.2⟩
  · exact ⟨q 4 (by decide) (by decide) e.2.2.1, q 5 (by decide) (by decide) e.2.2.2.1, hI⟩
theorem sm_163 {B51 : (Nat → Int32) → (Nat → Nat → Int32) → Int32 → Int32 → Int32 → Prop} {x1 x3 : Int32} (hB : ∀ (u : mS) (x2 : Int32), I3 w h gk u → B51 u.1 u.2 x1 x2 (x3 + 1)) (n : Nat) : ∀ (f : Nat → Int32) (g : Nat → Nat → Int32) (x6 x7 : Int32), I3 w h gk (f, g) → 0 ≤ x7 → mu x7 < n → wpX11_same_b163 B51 n f g x1 x3 x6 x7 K := by
  induction n with
  | zero => intro f g x6 x7 _ _ hm; exact absurd hm (Nat.not_lt_zero _)
  | succ n ih =>
    intro f g x6 x7 hS h0 hm
    have hx : GX w h f g := hS.1.gx
    have nn := hx.1.n
    unfold wpX11_same_b163 wpX11_same_b163_body wpX11_same_b217
    refine s_X11_squares hx (fun v hv => ⟨fun _ => ⟨fun _ => hB (f, g) _ hS, fun _ => hB (f, g) _ hS⟩, fun c => ?_⟩)
    subst hv
    have nx : ∀ k0, wpX11_same_b199 B51 (fun f g x1 x3 x6 x7 => wpX11_same_b163 B51 n f g x1 x3 x6 x7 K) f g k0 x1 x3 x7 K := fun k0 => by
      unfold wpX11_same_b199
      exact ih _ _ _ _ hS (by grind) (lt1 (mu_lt c) hm)
    have v : vp_in x7 36 := vI (c := 36) rfl h0 (by grind)
    unfold wpX11_same_b194
    exact ⟨fun _ => nx _, fun _ => ⟨v, v, fun _ => nx _, fun _ => nx _⟩⟩
theorem sm_90 {B51 : (Nat → Int32) → (Nat → Nat → Int32) → Int32 → Int32 → Int32 → Prop} {x1 x3 x4 : Int32} (hB : ∀ (u : mS) (x2 : Int32), I3 w h gk u → B51 u.1 u.2 x1 x2 (x3 + 1)) (n : Nat) : ∀ (f : Nat → Int32) (g : Nat → Nat → Int32) (x5 : Int32), I3 w h gk (f, g) → 0 ≤ x5 → mu x5 < n → wpX11_same_b90 B51 n f g x1 x3 x4 x5 K := by
  induction n with
  | zero => intro f g x5 _ _ hm; exact absurd hm (Nat.not_lt_zero _)
  | succ n ih =>
    intro f g x5 hS h0 hm
    have hx : GX w h f g := hS.1.gx
    have nn := hx.1.n
    unfold wpX11_same_b90 wpX11_same_b90_body wpX11_same_b158
    refine s_X11_squares hx (fun v hv => ⟨fun _ => ?_, fun c => ?_⟩)
    · refine I3.t (u := (f, g)) (k := 6) hS (by decide) (fun u2 h2 => s_X11_ticks h2.1 (fun r u3 h3 => I3.p (k := 6) (h2.v h3) (by decide) (fun u4 h4 => ?_)))
      exact ⟨fun _ => ⟨_, sm_163 hB _ _ _ _ _ h4 (by decide) (Nat.lt_succ_self _)⟩, fun _ => ⟨_, sm_163 hB _ _ _ _ _ h4 (by decide) (Nat.lt_succ_self _)⟩⟩
    · subst hv
      have v : vp_in x5 36 := vI (c := 36) rfl h0 (by grind)
      exact ⟨v, v, ih _ _ _ (hS.v (v := (f, pt g 70 _ _)) (Vg (k := 70) rfl hS.1)) (by grind) (lt1 (mu_lt c) hm)⟩
theorem sm_51 {x1 : Int32} (hx : x1 ≤ 500) (hK : ∀ v : Int32, ∀ u : mS, I3 w h gk u → K v u) (n : Nat) : ∀ (f : Nat → Int32) (g : Nat → Nat → Int32) (x2 x3 : Int32), I3 w h gk (f, g) → mu x3 < n → wpX11_same_b51 n f g x1 x2 x3 K := by
  induction n with
  | zero => intro f g x2 x3 _ hm; exact absurd hm (Nat.not_lt_zero _)
  | succ n ih =>
    intro f g x2 x3 hS hm
    have b224 : wpX11_same_b224 f g x2 K := by
      unfold wpX11_same_b224
      exact I3.t (u := (f, g)) (k := 4) hS (by decide) (fun u hu => hK _ _ hu)
    unfold wpX11_same_b51 wpX11_same_b51_body
    refine ⟨fun _ => b224, fun c => ⟨fun _ => b224, fun _ => ?_⟩⟩
    refine I3.t (u := (f, g)) (k := 5) hS (by decide) (fun u1 h1 => s_X11_pulls h1.1 (fun u2 h2 => I3.p (k := 5) (h1.v h2) (by decide) (fun u3 h3 => ⟨_, sm_90 (fun u x2 hu => ?_) _ _ _ _ h3 (by decide) (Nat.lt_succ_self _)⟩)))
    exact ih _ _ _ _ hu (lt1 (mu_le c (by grind)) hm)
theorem q_same {f : Nat → Int32} {g : Nat → Nat → Int32} {x1 : Int32} (hM : MX w h (f, g)) (hK : ∀ v : Int32, ∀ u : mS, MX w h u → K v u) : wpX11_same f g x1 K := by
  have hV2 : V w h f g (upd f 2 0) g := Vf (k := 2) rfl hM.1
  unfold wpX11_same wpX11_same_b0
  refine s_X11_isIn (fun r _ hp => ⟨fun c => ?_, fun _ => hK _ _ (hM.v (v := (upd f 2 0, g)) hV2)⟩)
  have hx := (hp.resolve_left c).2
  refine m_puts (k := 4) (by decide) hV2 (fun g1 hV1 h56 hI4 hfr => ?_)
  refine m_puts (k := 5) (by decide) (Vf (k := 45) rfl hV1) (fun g2 hV2' h56' hI5 hfr' => ?_)
  refine m_puts (k := 6) (by decide) hV2' (fun g3 hV3 h56'' hI6 hfr'' => ?_)
  have hE : KE g g3 := ⟨h56''.trans (h56'.trans h56), fun i hi => (hfr'' i (by omega)).trans ((hfr' i (by omega)).trans (hfr i (by omega)))⟩
  refine ⟨_, sm_51 (gk := g) hx (fun v u hu => hK _ _ (hM.e hu.1 hu.2.1)) _ _ _ _ _ ⟨hV3, hE, ?_, ?_, hI6⟩ (Nat.lt_succ_self _)⟩
  · exact hI4.eq (fun i h1 h2 => (hfr'' i (by omega)).trans (hfr' i (by omega)))
  · exact hI5.eq (fun i h1 h2 => hfr'' i (by omega))
end SM2
section LL
variable {w h : Nat} {gk : Nat → Nat → Int32}
/-- any numbers, with these images -/
def SM0 (gk : Nat → Nat → Int32) (u : mS) : Prop := M0 u.1 u.2 ∧ u.2 56 = gk 56 ∧ u.2 57 = gk 57
theorem SV.m {u : mS} (e : SV w h gk u) : SM0 gk u := ⟨e.1.1, e.2⟩
theorem SM0.t {u : mS} {K : mS → Prop} (hI : IM w h 4 (gk 57)) (e : SM0 gk u) (hK : ∀ v : mS, SV w h gk v → K v) : wpX11_takes u.1 u.2 4 K := m_takes (k := 4) (by decide) e.1 (by rw [e.2.2]; exact hI) (fun v hV h56 h57 => hK v ⟨hV, h56.trans e.2.1, h57.trans e.2.2⟩)
theorem ll_20 {x1 : Int32} {K : mS → Prop} (hx : x1 ≤ 500) (hK : ∀ u : mS, SV w h gk u → K u) (n : Nat) : ∀ (f : Nat → Int32) (g : Nat → Nat → Int32) (x2 : Int32), SV w h gk (f, g) → 0 ≤ x2 → mu x2 < n → wpX11_layLike_b20 n f g x1 x2 K := by
  induction n with
  | zero => intro f g x2 _ _ hm; exact absurd hm (Nat.not_lt_zero _)
  | succ n ih =>
    intro f g x2 hS h0 hm
    unfold wpX11_layLike_b20 wpX11_layLike_b20_body
    refine ⟨fun _ => hK _ hS, fun c => s_X11_pulls hS.1 (fun u hu => ⟨vI (c := 500) rfl h0 (by grind), ih _ _ _ ?_ (by grind) (lt1 (mu_lt c) hm)⟩)⟩
    exact SV.g (k := 71) rfl (hS.v hu)
theorem m_layLike {u : mS} {x1 : Int32} {K : mS → Prop} (hI : IM w h 4 (gk 57)) (hS : SM0 gk u) (hx : x1 ≤ 500) (hK : ∀ u : mS, SV w h gk u → K u) : wpX11_layLike u.1 u.2 x1 K := by
  unfold wpX11_layLike wpX11_layLike_b0
  exact SM0.t hI hS (fun v hv => ⟨_, ll_20 hx hK _ _ _ _ (SV.f (k := 45) rfl hv) (by decide) (Nat.lt_succ_self _)⟩)
theorem il_22 {x1 : Int32} {K : Int32 → mS → Prop} (hx : x1 ≤ 500) (hK : ∀ v : Int32, ∀ u : mS, isB v → SV w h gk u → K v u) (n : Nat) : ∀ (f : Nat → Int32) (g : Nat → Nat → Int32) (x2 x3 : Int32), SV w h gk (f, g) → isB x2 → 0 ≤ x3 → mu x3 < n → wpX11_isLike_b22 n f g x1 x2 x3 K := by
  induction n with
  | zero => intro f g x2 x3 _ _ _ hm; exact absurd hm (Nat.not_lt_zero _)
  | succ n ih =>
    intro f g x2 x3 hS h2 h0 hm
    unfold wpX11_isLike_b22 wpX11_isLike_b22_body wpX11_isLike_b67 wpX11_isLike_b60
    refine ⟨fun _ => ⟨h2, hK _ _ h2 hS⟩, fun c => ⟨fun _ => ⟨h2, hK _ _ h2 hS⟩, fun _ => s_X11_pulls hS.1 (fun u hu => ⟨vI (c := 500) rfl h0 (by grind), fun _ => ?_, fun _ => ?_⟩)⟩⟩
    · exact ih _ _ _ _ (hS.v hu) (Or.inl rfl) (by grind) (lt1 (mu_lt c) hm)
    · exact ih _ _ _ _ (hS.v hu) (Or.inr rfl) (by grind) (lt1 (mu_lt c) hm)
theorem m_isLike {u : mS} {x1 : Int32} {K : Int32 → mS → Prop} (hI : IM w h 4 (gk 57)) (hS : SM0 gk u) (hx : x1 ≤ 500) (hK : ∀ v : Int32, ∀ u : mS, isB v → SV w h gk u → K v u) : wpX11_isLike u.1 u.2 x1 K := by
  unfold wpX11_isLike wpX11_isLike_b0
  exact SM0.t hI hS (fun v hv => ⟨_, il_22 hx hK _ _ _ _ _ (SV.f (k := 45) rfl hv) (Or.inr rfl) (by decide) (Nat.lt_succ_self _)⟩)
theorem su_42 {B30 : (Nat → Int32) → (Nat → Nat → Int32) → Int32 → Int32 → Int32 → Int32 → Int32 → Int32 → Prop} {x1 x2 x3 x4 x5 x6 : Int32} {K : mS → Prop} (hI : IM w h 4 (gk 57)) (hx : x1 ≤ 500) (hB : ∀ u : mS, SV w h gk u → B30 u.1 u.2 x1 x2 x3 x4 x5 (x6 + 1)) (n : Nat) : ∀ (f : Nat → Int32) (g : Nat → Nat → Int32) (x7 : Int32), SV w h gk (f, g) → mu x7 < n → wpX11_laySuspects_b42 B30 n f g x1 x2 x3 x4 x5 x6 x7 K := by
  induction n with
  | zero => intro f g x7 _ hm; exact absurd hm (Nat.not_lt_zero _)
  | succ n ih =>
    intro f g x7 hS hm
    unfold wpX11_laySuspects_b42 wpX11_laySuspects_b42_body
    refine ⟨fun _ => hB _ hS, fun c => ?_⟩
    have nx : ∀ u : mS, SV w h gk u → wpX11_laySuspects_b131 B30 (fun f g x1 x2 x3 x4 x5 x6 x7 => wpX11_laySuspects_b42 B30 n f g x1 x2 x3 x4 x5 x6 x7 K) u.1 u.2 x1 x2 x3 x4 x5 x6 x7 K := fun u hu => by
      unfold wpX11_laySuspects_b131
      exact ih _ _ _ hu (lt1 (mu_lt c) hm)
    have b58 : ∀ k0, wpX11_laySuspects_b58 B30 (fun f g x1 x2 x3 x4 x5 x6 x7 => wpX11_laySuspects_b42 B30 n f g x1 x2 x3 x4 x5 x6 x7 K) f g k0 x1 x2 x3 x4 x5 x6 x7 K := fun k0 => by
      unfold wpX11_laySuspects_b58
      refine s_X11_isOf (fun r _ => ⟨fun _ => ?_, fun _ => nx (f, g) hS⟩)
      refine m_isLike (u := (upd (upd f 49 _) 50 _, g)) hI (SV.f (k := 50) rfl (SV.f (k := 49) rfl hS)).m hx (fun v u _ hu => ⟨fun _ => ⟨fun _ => ?_, fun _ => ?_⟩, fun _ => nx u hu⟩)
      · exact nx (upd u.1 73 _, u.2) (SV.f (k := 73) rfl hu)
      · exact nx (upd u.1 72 _, u.2) (SV.f (k := 72) rfl hu)
    exact ⟨fun _ => b58 _, fun _ => b58 _⟩
theorem su_30 {x1 x2 x3 x4 x5 : Int32} {K : mS → Prop} (hI : IM w h 4 (gk 57)) (hx : x1 ≤ 500) (hK : ∀ u : mS, SV w h gk u → K u) (n : Nat) : ∀ (f : Nat → Int32) (g : Nat → Nat → Int32) (x6 : Int32), SV w h gk (f, g) → mu x6 < n → wpX11_laySuspects_b30 n f g x1 x2 x3 x4 x5 x6 K := by
  induction n with
  | zero => intro f g x6 _ hm; exact absurd hm (Nat.not_lt_zero _)
  | succ n ih =>
    intro f g x6 hS hm
    unfold wpX11_laySuspects_b30 wpX11_laySuspects_b30_body
    refine ⟨fun _ => ?_, fun c => ⟨_, su_42 hI hx (fun u hu => ih _ _ _ hu (lt1 (mu_lt c) hm)) _ _ _ _ hS (Nat.lt_succ_self _)⟩⟩
    exact SM0.t (u := (upd (upd f 49 x4) 50 x5, g)) hI (SV.f (k := 50) rfl (SV.f (k := 49) rfl hS)).m (fun v hv => hK _ hv)
theorem m_laySuspects {u : mS} {x1 x2 x3 : Int32} {K : mS → Prop} (hI : IM w h 4 (gk 57)) (hS : SM0 gk u) (hx : x1 ≤ 500) (hK : ∀ u : mS, SV w h gk u → K u) : wpX11_laySuspects u.1 u.2 x1 x2 x3 K := by
  unfold wpX11_laySuspects wpX11_laySuspects_b0
  exact m_layLike hI hS hx (fun v hv => ⟨_, su_30 hI hx hK _ _ _ _ (SV.f (k := 73) rfl (SV.f (k := 72) rfl hv)) (Nat.lt_succ_self _)⟩)
theorem m_isSound {u : mS} {x1 : Int32} {K : Int32 → mS → Prop} (hI : IM w h 4 (gk 57)) (hS : SM0 gk u) (hx : x1 ≤ 500) (hK : ∀ v : Int32, ∀ u : mS, isB v → SV w h gk u → K v u) : wpX11_isSound u.1 u.2 x1 K := by
  unfold wpX11_isSound wpX11_isSound_b0
  refine m_layLike hI hS hx (fun v hv => ?_)
  refine m_isLike (u := (upd (upd v.1 49 0) 50 0, v.2)) hI (SV.f (k := 50) rfl (SV.f (k := 49) rfl hv)).m hx (fun r u2 hb hu2 => ?_)
  exact SM0.t (u := (upd (upd u2.1 49 _) 50 _, u2.2)) hI (SV.f (k := 50) rfl (SV.f (k := 49) rfl hu2)).m (fun u3 hu3 => ⟨hb, hK _ _ hb hu3⟩)
theorem m_suspect {f : Nat → Int32} {g : Nat → Nat → Int32} {f0 : Nat → Int32} {g0 : Nat → Nat → Int32} {x1 : Int32} {K : mS → Prop} (hV : V w h f0 g0 f g) (hx : x1 ≤ 500) (hK : ∀ u : mS, V w h u.1 u.2 u.1 u.2 → KE g u.2 → K u) : wpX11_suspect f g x1 K := by
  unfold wpX11_suspect wpX11_suspect_b0 wpX11_suspect_b47
  refine m_puts (k := 4) (by decide) hV (fun g' hV' h56 hI hfr => ?_)
  have hE : KE g g' := ⟨h56, fun i hi => hfr i (by omega)⟩
  have fin : ∀ u : mS, SV w h g' u → K u := fun u hu => hK _ hu.1 (hE.tr (KE.of hu.2.1 hu.2.2))
  refine m_isSound (u := (f, g')) (gk := g') hI ⟨hV'.1, rfl, rfl⟩ hx (fun r u _ hu => ⟨fun _ => m_laySuspects hI hu.m hx (fun u2 hu2 => fin _ hu2), fun _ => ?_⟩)
  exact fin (upd (upd u.1 72 0) 73 0, u.2) (SV.f (k := 73) rfl (SV.f (k := 72) rfl hu))
end LL
