theorem q_suspects {w h : Nat} {f : Nat → Int32} {g : Nat → Nat → Int32} {x1 x2 : Int32} {K : Int32 → mS → Prop} (hM : MX w h (f, g)) (hK : ∀ v : Int32, ∀ u : mS, MX w h u → K v u) : wpX11_suspects f g x1 x2 K := by
  have hV2 : V w h f g (upd f 2 0) g := Vf (k := 2) rfl hM.1
  have z : wpX11_suspects_b25 (upd f 2 0) g K := by unfold wpX11_suspects_b25; exact hK _ _ (hM.v (v := (upd f 2 0, g)) hV2)
  unfold wpX11_suspects wpX11_suspects_b0 wpX11_suspects_b47
  refine s_X11_isIn (fun r _ hp => ⟨fun _ => z, fun c => s_X11_isIn (fun r2 _ _ => ⟨fun _ => ?_, fun _ => z⟩)⟩)
  exact m_suspect hV2 (hp.resolve_left c).2 (fun u hu he => ⟨fun _ => hK _ _ (hM.e hu he), fun _ => hK _ _ (hM.e hu he)⟩)
set_option maxHeartbeats 1000000 in
theorem l_X11_manyOf_b4 {K : Int32 → Unit → Prop} (hK : ∀ v : Int32, K v ()) (n : Nat) : ∀ (x0 : Int32) (x1 : Int32) (x2 : Int32), 0 ≤ x2 → mu (x2) < n → wpX11_manyOf_b4 n x0 x1 x2 K := by
  induction n with
  | zero => intro x0 x1 x2 hi0 hm; exact absurd hm (Nat.not_lt_zero _)
  | succ n ih =>
    intro x0 x1 x2 hi0 hm
    unfold wpX11_manyOf_b4 wpX11_manyOf_b4_body
    refine ⟨fun c0 => ?_, fun c0 => ?_⟩
    · exact hK _
    · exact ih _ _ _ (by first | assumption | grind | (simp [pt_r, upd_r] <;> grind)) (lt1 (mu_lt c0) hm)
set_option maxHeartbeats 1000000 in
theorem s_X11_manyOf {x0 : Int32} {K : Int32 → Unit → Prop} (hK : ∀ v : Int32, K v ()) : wpX11_manyOf x0 K := by
  unfold wpX11_manyOf
  unfold wpX11_manyOf_b0
  exact ⟨_, l_X11_manyOf_b4 hK _ _ _ _ (by first | assumption | grind | (simp [pt_r, upd_r] <;> grind)) (Nat.lt_succ_self _)⟩
theorem tr_68 {w h : Nat} {gk : Nat → Nat → Int32} {x1 x2 x3 x4 : Int32} {K : Int32 → mS → Prop} (hx1 : x1 ≤ 500) (hK : ∀ v : Int32, ∀ u : mS, V w h u.1 u.2 u.1 u.2 → KE gk u.2 → K v u) (n : Nat) : ∀ (f : Nat → Int32) (g : Nat → Nat → Int32) (x5 x6 x7 : Int32), V w h f g f g → KE gk g → 0 ≤ x7 → mu x7 < n → wpX11_trial_b68 n f g x1 x2 x3 x4 x5 x6 x7 K := by
  induction n with
  | zero => intro f g x5 x6 x7 _ _ _ hm; exact absurd hm (Nat.not_lt_zero _)
  | succ n ih =>
    intro f g x5 x6 x7 hV hE h0 hm
    have hx : GX w h f g := hV.gx
    have e := hx.1.2
    unfold wpX11_trial_b68 wpX11_trial_b68_body wpX11_trial_b221
    refine s_X11_wallMany hx (fun v hv => ⟨fun _ => ⟨fun _ => hK _ _ hV hE, fun _ => hK _ _ hV hE⟩, fun c => ?_⟩)
    subst hv
    have hp : 0 ≤ x7 ∧ x7 < nI (wm w h) := ⟨h0, Int32.not_le.mp c⟩
    refine s_X11_wallAt hx hp (fun r1 h1 => s_X11_wallAt hx hp (fun r2 h2 => ?_))
    have hn := wk_na e h1 h2
    have hin := na_in e hn
    refine s_X11_isWall hx hin.1 hin.2 (fun r3 _ _ => ?_)
    dsimp only
    have b172 : ∀ (u : mS) (k3 x5 x6 x10 : Int32), V w h u.1 u.2 u.1 u.2 → KE gk u.2 → wpX11_trial_b172 (fun f g x1 x2 x3 x4 x5 x6 x7 => wpX11_trial_b68 n f g x1 x2 x3 x4 x5 x6 x7 K) u.1 u.2 (r1 / 4) (jrem r2 4) k3 x1 x2 x3 x4 x5 x6 x7 x10 K := fun u k3 x5 x6 x10 hu hk => by
      unfold wpX11_trial_b172
      refine m_putWall hu.gx hn (fun g1 hg1 hr1 => ?_)
      refine m_puts (k := 4) (by decide) (V_w hu hg1 hr1) (fun g2 hV2 h56 hI hfr => ?_)
      have hk2 : KE gk g2 := hk.tr ⟨h56.trans (hg1 56 (by decide)), fun i hi => (hfr i (by omega)).trans (congrFun (hg1 57 (by decide)) i)⟩
      have q : ∀ x5 x6 : Int32, wpX11_trial_b204 (fun f g x1 x2 x3 x4 x5 x6 x7 => wpX11_trial_b68 n f g x1 x2 x3 x4 x5 x6 x7 K) u.1 g2 x1 x2 x3 x4 x5 x6 x7 K := fun x5 x6 => by
        unfold wpX11_trial_b204
        exact ih _ _ _ _ _ hV2 hk2 (by grind) (lt1 (mu_lt c) hm)
      unfold wpX11_trial_b196
      exact ⟨fun _ => q _ _, fun _ => ⟨fun _ => q _ _, fun _ => q _ _⟩⟩
    have b118 : ∀ k3 : Int32, wpX11_trial_b118 (fun f g x1 x2 x3 x4 x5 x6 x7 => wpX11_trial_b68 n f g x1 x2 x3 x4 x5 x6 x7 K) f g (r1 / 4) (jrem r2 4) k3 x1 x2 x3 x4 x5 x6 x7 (r1 / 4) (jrem r2 4) K := fun k3 => by
      unfold wpX11_trial_b118
      refine m_putWall hx hn (fun g1 hg1 hr1 => ?_)
      refine m_puts (k := 4) (by decide) (V_w hV hg1 hr1) (fun g2 hV2 h56 hI hfr => ?_)
      have hk2 : KE gk g2 := hE.tr ⟨h56.trans (hg1 56 (by decide)), fun i hi => (hfr i (by omega)).trans (congrFun (hg1 57 (by decide)) i)⟩
      refine m_laySuspects (u := (f, g2)) (gk := g2) hI ⟨hV2.1, rfl, rfl⟩ hx1 (fun u hu => ?_)
      have hku : KE gk u.2 := hk2.tr (KE.of hu.2.1 hu.2.2)
      refine s_X11_manyOf (fun r4 => s_X11_manyOf (fun r5 => s_X11_isWall hu.1.gx hin.1 hin.2 (fun r6 _ _ => ?_)))
      exact ⟨fun _ => b172 u _ _ _ _ hu.1 hku, fun _ => b172 u _ _ _ _ hu.1 hku⟩
    exact ⟨fun _ => b118 _, fun _ => b118 _⟩
theorem q_trial {w h : Nat} {f : Nat → Int32} {g : Nat → Nat → Int32} {x1 x2 : Int32} {K : Int32 → mS → Prop} (hM : MX w h (f, g)) (hK : ∀ v : Int32, ∀ u : mS, MX w h u → K v u) : wpX11_trial f g x1 x2 K := by
  have hV2 : V w h f g (upd f 2 0) g := Vf (k := 2) rfl hM.1
  have z : wpX11_trial_b25 (upd f 2 0) g K := by unfold wpX11_trial_b25; exact hK _ _ (hM.v (v := (upd f 2 0, g)) hV2)
  unfold wpX11_trial wpX11_trial_b0
  refine s_X11_isIn (fun r _ hp => ⟨fun _ => z, fun c => s_X11_isIn (fun r2 _ _ => ⟨fun _ => ?_, fun _ => z⟩)⟩)
  refine m_suspect hV2 (hp.resolve_left c).2 (fun u hu he => s_X11_manyOf (fun r4 => s_X11_manyOf (fun r5 => ⟨fun _ => ?_, fun _ => hK _ _ (hM.e hu he)⟩)))
  exact ⟨_, tr_68 (gk := g) (hp.resolve_left c).2 (fun v u' hu' he' => hK _ _ (hM.e hu' he')) _ _ _ _ _ _ hu he (by decide) (Nat.lt_succ_self _)⟩
set_option maxHeartbeats 1000000 in
theorem l_X11_count_b74 {w h : Nat} {f0 : Nat → Int32} {g0 : Nat → Nat → Int32} {K : Int32 → ((Nat → Int32) × (Nat → Nat → Int32)) → Prop} (hK : ∀ v : Int32, ∀ u : mS, V w h f0 g0 u.1 u.2 → K v u) (n : Nat) : ∀ (f : Nat → Int32) (g : Nat → Nat → Int32) (x2 : Int32) (x3 : Int32), V w h f0 g0 f g → 0 ≤ x3 → mu (x3) < n → wpX11_count_b74 n f g x2 x3 K := by
  induction n with
  | zero => intro f g x2 x3 hV hi0 hm; exact absurd hm (Nat.not_lt_zero _)
  | succ n ih =>
    intro f g x2 x3 hV hi0 hm
    have n_i := hV.n
    unfold wpX11_count_b74 wpX11_count_b74_body
    refine s_X11_wallMany (hV).gx (fun r76 hp76 => ?_)
    try dsimp only
    refine ⟨fun c0 => ?_, fun c0 => ?_⟩
    · exact hK _ _ hV
    · refine s_X11_wallAt (hV).gx (by first | assumption | exact (na_in hV.ge.2 (wk_na hV.ge.2 (by assumption) (by assumption))).1 | exact (na_in hV.ge.2 (wk_na hV.ge.2 (by assumption) (by assumption))).2 | grind) (fun r86 hp86 => ?_)
      try dsimp only
      refine s_X11_wallAt (hV).gx (by first | assumption | exact (na_in hV.ge.2 (wk_na hV.ge.2 (by assumption) (by assumption))).1 | exact (na_in hV.ge.2 (wk_na hV.ge.2 (by assumption) (by assumption))).2 | grind) (fun r93 hp93 => ?_)
      try dsimp only
      refine s_X11_isWall (hV).gx (by first | assumption | exact (na_in hV.ge.2 (wk_na hV.ge.2 (by assumption) (by assumption))).1 | exact (na_in hV.ge.2 (wk_na hV.ge.2 (by assumption) (by assumption))).2 | grind) (by first | assumption | exact (na_in hV.ge.2 (wk_na hV.ge.2 (by assumption) (by assumption))).1 | exact (na_in hV.ge.2 (wk_na hV.ge.2 (by assumption) (by assumption))).2 | grind) (fun r98 hb98 hp98 => ?_)
      try dsimp only
      refine ⟨fun c1 => ?_, fun c1 => ?_⟩
      · unfold wpX11_count_b109
        exact ih _ _ _ _ hV (by first | assumption | grind | (simp [pt_r, upd_r] <;> grind)) (lt1 (mu_lt c0) hm)
      · unfold wpX11_count_b109
        exact ih _ _ _ _ hV (by first | assumption | grind | (simp [pt_r, upd_r] <;> grind)) (lt1 (mu_lt c0) hm)
set_option maxHeartbeats 1000000 in
theorem l_X11_count_b126 {w h : Nat} {f0 : Nat → Int32} {g0 : Nat → Nat → Int32} {K : Int32 → ((Nat → Int32) × (Nat → Nat → Int32)) → Prop} (hK : ∀ v : Int32, ∀ u : mS, V w h f0 g0 u.1 u.2 → K v u) (n : Nat) : ∀ (f : Nat → Int32) (g : Nat → Nat → Int32) (x2 : Int32) (x3 : Int32), V w h f0 g0 f g → 0 ≤ x3 → mu (x3) < n → wpX11_count_b126 n f g x2 x3 K := by
  induction n with
  | zero => intro f g x2 x3 hV hi0 hm; exact absurd hm (Nat.not_lt_zero _)
  | succ n ih =>
    intro f g x2 x3 hV hi0 hm
    have n_i := hV.n
    unfold wpX11_count_b126 wpX11_count_b126_body
    refine ⟨fun c0 => ?_, fun c0 => ?_⟩
    · exact hK _ _ hV
    · refine ⟨vI (c := 4) rfl (by first | assumption | grind | (simp [pt_r, upd_r] <;> grind)) (by first | assumption | grind | (simp [pt_r, upd_r] <;> grind)), ?_⟩
      refine ⟨fun c1 => ?_, fun c1 => ?_⟩
      · unfold wpX11_count_b146
        exact ih _ _ _ _ hV (by first | assumption | grind | (simp [pt_r, upd_r] <;> grind)) (lt1 (mu_lt c0) hm)
      · unfold wpX11_count_b146
        exact ih _ _ _ _ hV (by first | assumption | grind | (simp [pt_r, upd_r] <;> grind)) (lt1 (mu_lt c0) hm)
set_option maxHeartbeats 1000000 in
theorem s_X11_count {w h : Nat} {f0 : Nat → Int32} {g0 : Nat → Nat → Int32} {f : Nat → Int32} {g : Nat → Nat → Int32} {x1 : Int32} {K : Int32 → ((Nat → Int32) × (Nat → Nat → Int32)) → Prop} (hV : V w h f0 g0 f g) (hK : ∀ v : Int32, ∀ u : mS, V w h f0 g0 u.1 u.2 → K v u) : wpX11_count f g x1 K := by
  have n_i := hV.n
  unfold wpX11_count
  unfold wpX11_count_b0
  refine ⟨fun c0 => ?_, fun c0 => ?_, fun c0 => ?_, fun c0 => ?_, fun c0 => ?_, fun c0 => ?_, fun c0 => ?_, fun c0 => ?_⟩
  · refine s_X11_squares ((Vf (k := 2) rfl hV)).gx (fun r53 hp53 => ?_)
    try dsimp only
    exact hK _ _ (Vf (k := 2) rfl hV)
  · exact hK _ _ (Vf (k := 2) rfl hV)
  · exact hK _ _ (Vf (k := 2) rfl hV)
  · exact hK _ _ (Vf (k := 2) rfl hV)
  · exact ⟨_, l_X11_count_b74 hK _ _ _ _ _ (Vf (k := 2) rfl hV) (by first | assumption | grind | (simp [pt_r, upd_r] <;> grind)) (Nat.lt_succ_self _)⟩
  · exact hK _ _ (Vf (k := 2) rfl hV)
  · exact ⟨_, l_X11_count_b126 hK _ _ _ _ _ (Vf (k := 2) rfl hV) (by first | assumption | grind | (simp [pt_r, upd_r] <;> grind)) (Nat.lt_succ_self _)⟩
  · exact hK _ _ (Vf (k := 2) rfl hV)

