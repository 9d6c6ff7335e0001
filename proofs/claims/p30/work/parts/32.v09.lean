theorem q_held {w h : Nat} {f : Nat → Int32} {g : Nat → Nat → Int32} {x1 x2 x3 : Int32} {K : Int32 → mS → Prop} (hM : MX w h (f, g)) (hK : ∀ v : Int32, ∀ u : mS, MX w h u → K v u) : wpX11_held f g x1 x2 x3 K := by
  have hV2 : V w h f g (upd f 2 0) g := Vf (k := 2) rfl hM.1
  have z : wpX11_held_b22 (upd f 2 0) g K := by unfold wpX11_held_b22; exact hK _ _ (hM.v (v := (upd f 2 0, g)) hV2)
  unfold wpX11_held wpX11_held_b0
  refine s_X11_isSmallFloor (fun r7 _ hp => ⟨fun _ => z, fun c => s_X11_isIn (fun r16 _ _ => ⟨fun _ => ?_, fun _ => z⟩)⟩)
  have q := hp.resolve_left c
  refine m_laySmall hV2 ⟨q.1, q.2.1⟩ ⟨q.2.2.1, q.2.2.2⟩ (fun u hu he y hy => ?_)
  have v : vp_in y 16 := vI (c := 16) rfl (by subst hy; grind) (by subst hy; grind)
  unfold wpX11_held_b62
  exact ⟨fun _ => ⟨v, hK _ _ (hM.e hu he)⟩, fun _ => ⟨v, hK _ _ (hM.e hu he)⟩⟩
theorem q_longest {w h : Nat} {f : Nat → Int32} {g : Nat → Nat → Int32} {x1 x2 x3 : Int32} {K : Int32 → mS → Prop} (hM : MX w h (f, g)) (hK : ∀ v : Int32, ∀ u : mS, MX w h u → K v u) : wpX11_longest f g x1 x2 x3 K := by
  have hV2 : V w h f g (upd f 2 0) g := Vf (k := 2) rfl hM.1
  have z : wpX11_longest_b22 (upd f 2 0) g K := by unfold wpX11_longest_b22; exact hK _ _ (hM.v (v := (upd f 2 0, g)) hV2)
  unfold wpX11_longest wpX11_longest_b0
  refine s_X11_isSmallFloor (fun r7 _ hp => ⟨fun _ => z, fun c => s_X11_isIn (fun r16 _ _ => ⟨fun _ => ?_, fun _ => z⟩)⟩)
  have q := hp.resolve_left c
  refine m_laySmall hV2 ⟨q.1, q.2.1⟩ ⟨q.2.2.1, q.2.2.2⟩ (fun u hu he y hy => ?_)
  have v : vp_in y 16 := vI (c := 16) rfl (by subst hy; grind) (by subst hy; grind)
  unfold wpX11_longest_b77
  exact ⟨fun _ => ⟨fun _ => ⟨v, hK _ _ (hM.e hu he)⟩, fun _ => ⟨v, hK _ _ (hM.e hu he)⟩⟩, fun _ => ⟨v, hK _ _ (hM.e hu he)⟩⟩
section UL
variable {w h : Nat} {gk : Nat → Nat → Int32} {K : Int32 → mS → Prop}
theorem ul_87 (hK : ∀ v : Int32, ∀ u : mS, isB v → SU w h gk u → K v u) (n : Nat) : ∀ (f : Nat → Int32) (g : Nat → Nat → Int32) (x3 x4 x5 x6 : Int32), SV w h gk (f, g) → 0 ≤ x5 → mu x5 < n → wpX11_isUnlike_b87 n f g x3 x4 x5 x6 K := by
  induction n with
  | zero => intro f g x3 x4 x5 x6 _ _ hm; exact absurd hm (Nat.not_lt_zero _)
  | succ n ih =>
    intro f g x3 x4 x5 x6 hS h0 hm
    have b156 : wpX11_isUnlike_b156 f g x3 x4 x5 x6 K := by
      have hu := (SV.f (k := 52) (v := -1) rfl hS).u
      unfold wpX11_isUnlike_b156 wpX11_isUnlike_b190 wpX11_isUnlike_b193 wpX11_isUnlike_b198
      have k1 : isB 1 ∧ K 1 (upd f 52 (-1), g) := ⟨Or.inr rfl, hK _ _ (Or.inr rfl) hu⟩
      have k0 : isB 0 ∧ K 0 (upd f 52 (-1), g) := ⟨Or.inl rfl, hK _ _ (Or.inl rfl) hu⟩
      exact ⟨fun _ => k1, fun _ => ⟨fun _ => k1, fun _ => ⟨fun _ => ⟨fun _ => k0, fun _ => k1⟩, fun _ => ⟨fun _ => k0, fun _ => k1⟩⟩⟩⟩
    unfold wpX11_isUnlike_b87 wpX11_isUnlike_b87_body
    refine ⟨fun _ => b156, fun c => ⟨fun _ => b156, fun _ => ⟨fun _ => b156, fun _ => ?_⟩⟩⟩
    refine s_X11_ticks hS.1 (fun r u hu => ?_)
    have hs : SV w h gk u := hS.v hu
    have nx : ∀ k0, wpX11_isUnlike_b148 (fun f g x3 x4 x5 x6 => wpX11_isUnlike_b87 n f g x3 x4 x5 x6 K) u.1 u.2 k0 x3 x4 x5 K := fun k0 => by
      unfold wpX11_isUnlike_b148
      exact ih _ _ _ _ _ _ hs (by grind) (lt1 (mu_lt c) hm)
    unfold wpX11_isUnlike_b143
    exact ⟨fun _ => nx _, fun _ => ⟨vI (c := 100) rfl h0 (by grind), fun _ => nx _, fun _ => nx _⟩⟩
theorem ul_7 {x1 x2 : Int32} (hx : 0 ≤ x1 ∧ x1 < nI (w * h)) (hK : ∀ v : Int32, ∀ u : mS, isB v → SU w h gk u → K v u) (n : Nat) : ∀ (f : Nat → Int32) (g : Nat → Nat → Int32) (x3 : Int32), SV w h gk (f, g) → 0 ≤ x3 → mu x3 < n → wpX11_isUnlike_b7 n f g x1 x2 x3 K := by
  induction n with
  | zero => intro f g x3 _ _ hm; exact absurd hm (Nat.not_lt_zero _)
  | succ n ih =>
    intro f g x3 hS h0 hm
    have b53 : wpX11_isUnlike_b53 f g x1 x2 x3 K := by
      unfold wpX11_isUnlike_b53 wpX11_isUnlike_b69
      have q : ∀ k0, wpX11_setDown f g x1 (fun u73 => ∃ n, wpX11_isUnlike_b87 n (upd u73.1 52 x2) u73.2 x3 k0 0 0 K) := fun k0 => m_setDown hS.u hx (fun u hu => ⟨_, ul_87 hK _ _ _ _ _ _ _ (SV.f (k := 52) rfl hu) (by decide) (Nat.lt_succ_self _)⟩)
      exact ⟨fun _ => q _, fun _ => q _⟩
    unfold wpX11_isUnlike_b7 wpX11_isUnlike_b7_body
    refine ⟨fun _ => b53, fun c => ⟨fun _ => b53, fun _ => s_X11_ticks hS.1 (fun r u hu => ⟨vI (c := 100) rfl h0 (by grind), ih _ _ _ ?_ (by grind) (lt1 (mu_lt c) hm)⟩)⟩⟩
    exact SV.g (k := 64) rfl (hS.v hu)
theorem m_isUnlike {u : mS} {x1 x2 : Int32} (hS : SU w h gk u) (hx : 0 ≤ x1 ∧ x1 < nI (w * h)) (hK : ∀ v : Int32, ∀ u : mS, isB v → SU w h gk u → K v u) : wpX11_isUnlike u.1 u.2 x1 x2 K := by
  unfold wpX11_isUnlike wpX11_isUnlike_b0
  exact m_setDown hS hx (fun u hu => ⟨_, ul_7 hx hK _ _ _ _ hu (by decide) (Nat.lt_succ_self _)⟩)
end UL
section ND
variable {w h w0 h0 : Nat} {gk : Nat → Nat → Int32} {K : Int32 → mS → Prop}
theorem nd_66 {B41 : (Nat → Int32) → (Nat → Nat → Int32) → Int32 → Int32 → Int32 → Prop} {x1 x5 : Int32} (hB : ∀ (u : mS) (x4 : Int32), SU w h gk u → B41 u.1 u.2 x1 x4 (x5 + 1)) (n : Nat) : ∀ (f : Nat → Int32) (g : Nat → Nat → Int32) (x4 x6 : Int32), SU w h gk (f, g) → 0 ≤ x6 → mu x6 < n → wpX11_needs_b66 B41 n f g x1 x4 x5 x6 K := by
  induction n with
  | zero => intro f g x4 x6 _ _ hm; exact absurd hm (Nat.not_lt_zero _)
  | succ n ih =>
    intro f g x4 x6 hS h0 hm
    have hx : GX w h f g := ⟨hS.2.1.1, hS.2.1.2.1⟩
    have nn := hx.1.n
    unfold wpX11_needs_b66 wpX11_needs_b66_body wpX11_needs_b114
    refine s_X11_squares hx (fun v hv => ⟨fun _ => hB (f, g) _ hS, fun c => ⟨fun _ => hB (f, g) _ hS, fun _ => ?_⟩⟩)
    subst hv
    have nx : ∀ (u : mS) (k0 : Int32), SU w h gk u → wpX11_needs_b106 B41 (fun f g x1 x4 x5 x6 => wpX11_needs_b66 B41 n f g x1 x4 x5 x6 K) u.1 u.2 k0 x1 x5 x6 K := fun u k0 hu => by
      unfold wpX11_needs_b106
      exact ih _ _ _ _ hu (by grind) (lt1 (mu_lt c) hm)
    unfold wpX11_needs_b105
    refine ⟨vI (c := 36) rfl h0 (by grind), fun _ => nx (f, g) _ hS, fun _ => ?_⟩
    exact m_isUnlike (u := (f, g)) hS ⟨h0, Int32.not_le.mp c⟩ (fun r u _ hu => ⟨fun _ => nx u _ hu, fun _ => nx u _ hu⟩)
theorem nd_41 {x1 : Int32} (hI : IM w0 h0 4 (gk 57)) (hK : ∀ v : Int32, ∀ u : mS, SV w0 h0 gk u → K v u) (n : Nat) : ∀ (f : Nat → Int32) (g : Nat → Nat → Int32) (x4 x5 : Int32), PW w h gk (f, g) → mu x5 < n → wpX11_needs_b41 n f g x1 x4 x5 K := by
  induction n with
  | zero => intro f g x4 x5 _ hm; exact absurd hm (Nat.not_lt_zero _)
  | succ n ih =>
    intro f g x4 x5 hS hm
    have b120 : wpX11_needs_b120 f g x4 K := by
      unfold wpX11_needs_b120 wpX11_needs_b135
      have e57 : g 57 = gk 57 := hS.2.2.2
      refine m_takes (k := 4) (w := w0) (h := h0) (by decide) hS.1 (by rw [e57]; exact hI) (fun u hV h56 h57 => ?_)
      have q : SV w0 h0 gk u := ⟨hV, h56.trans hS.2.2.1, h57.trans hS.2.2.2⟩
      exact ⟨fun _ => hK _ _ q, fun _ => hK _ _ q⟩
    unfold wpX11_needs_b41 wpX11_needs_b41_body wpX11_wallMany wpX11_wallMany_b0
    refine ⟨fun _ => b120, fun c => ⟨fun _ => b120, fun _ => ?_⟩⟩
    refine m_wallsBy (u := (f, g)) hS (fun u hu => ⟨_, nd_66 (fun u x4 hu => ?_) _ _ _ _ _ hu (by decide) (Nat.lt_succ_self _)⟩)
    exact ih _ _ _ _ hu.p (lt1 (mu_lt c) hm)
theorem q_needs {f : Nat → Int32} {g : Nat → Nat → Int32} {x1 x2 x3 : Int32} (hM : MX w0 h0 (f, g)) (hK : ∀ v : Int32, ∀ u : mS, MX w0 h0 u → K v u) : wpX11_needs f g x1 x2 x3 K := by
  have hV2 : V w0 h0 f g (upd f 2 0) g := Vf (k := 2) rfl hM.1
  have z : wpX11_needs_b22 (upd f 2 0) g K := by unfold wpX11_needs_b22; exact hK _ _ (hM.v (v := (upd f 2 0, g)) hV2)
  unfold wpX11_needs wpX11_needs_b0
  refine s_X11_isIn (fun r _ _ => ⟨fun _ => z, fun _ => s_X11_isSmallFloor (fun r7 _ hp => ⟨fun c => ?_, fun _ => z⟩)⟩)
  have q := hp.resolve_left c
  obtain ⟨w, hw, rfl⟩ := in26 q.1 (by grind)
  obtain ⟨h, hh, rfl⟩ := in26 q.2.2.1 (by grind)
  refine m_puts (k := 4) (by decide) hV2 (fun g' hV' h56 hI hfr => ?_)
  have hE : KE g g' := ⟨h56, fun i hi => hfr i (by omega)⟩
  refine m_small hV'.1 ⟨hw, hh⟩ (fun f' hm' he' => ⟨_, nd_41 (gk := g') hI (fun v u hu => hK _ _ (hM.e hu.1 (hE.tr (KE.of hu.2.1 hu.2.2)))) _ _ _ _ _ ⟨hm', he', rfl, rfl⟩ (Nat.lt_succ_self _)⟩)
end ND
set_option maxHeartbeats 1000000 in
theorem l_X11_knows_b19 {w h : Nat} {f0 : Nat → Int32} {g0 : Nat → Nat → Int32} {K : Int32 → ((Nat → Int32) × (Nat → Nat → Int32)) → Prop} (hK : ∀ v : Int32, ∀ u : mS, V w h f0 g0 u.1 u.2 → K v u) (n : Nat) : ∀ (f : Nat → Int32) (g : Nat → Nat → Int32) (x2 : Int32) (x3 : Int32), V w h f0 g0 f g → 0 ≤ x3 → 0 ≤ x2 ∧ x2 < nI (w * h) → mu (x3) < n → wpX11_knows_b19 n f g x2 x3 K := by
  induction n with
  | zero => intro f g x2 x3 hV hi0 hi1 hm; exact absurd hm (Nat.not_lt_zero _)
  | succ n ih =>
    intro f g x2 x3 hV hi0 hi1 hm
    have n_i := hV.n
    have w_i := fun i => hV.g47 (i := i)
    unfold wpX11_knows_b19 wpX11_knows_b19_body
    refine ⟨fun c0 => ?_, fun c0 => ?_⟩
    · exact hK _ _ hV
    · refine ⟨vI (c := 36) rfl (by first | assumption | grind | (simp [pt_r, upd_r] <;> grind)) (by first | assumption | grind | (simp [pt_r, upd_r] <;> grind)), ?_⟩
      refine s_X11_isWall (hV).gx (by first | assumption | grind | (simp [pt_r, upd_r] <;> grind)) (by first | assumption | grind | (simp [pt_r, upd_r] <;> grind)) (fun r35 hb35 hp35 => ?_)
      try dsimp only
      refine ⟨fun c1 => ?_, fun c1 => ?_⟩
      · unfold wpX11_knows_b47
        exact hK _ _ hV
      · refine ⟨fun c2 => ?_, fun c2 => ?_⟩
        · refine ⟨vI (c := 36) rfl (by first | assumption | grind | (simp [pt_r, upd_r] <;> grind)) (by first | assumption | grind | (simp [pt_r, upd_r] <;> grind)), ?_⟩
          refine s_X11_ahead (hV).gx (by first | assumption | grind | (simp [pt_r, upd_r] <;> grind)) (fun r57 hp57 => ?_)
          try dsimp only
          exact ih _ _ _ _ hV (by first | assumption | grind | (simp [pt_r, upd_r] <;> grind)) (by first | assumption | grind | (simp [pt_r, upd_r] <;> grind)) (by exact lt1 (mu_lt (N := 37) (by grind)) hm)
        · unfold wpX11_knows_b47
          exact hK _ _ hV
set_option maxHeartbeats 1000000 in
theorem s_X11_knows {w h : Nat} {f0 : Nat → Int32} {g0 : Nat → Nat → Int32} {f : Nat → Int32} {g : Nat → Nat → Int32} {x1 : Int32} {K : Int32 → ((Nat → Int32) × (Nat → Nat → Int32)) → Prop} (hV : V w h f0 g0 f g) (hK : ∀ v : Int32, ∀ u : mS, V w h f0 g0 u.1 u.2 → K v u) : wpX11_knows f g x1 K := by
  have n_i := hV.n
  have w_i := fun i => hV.g47 (i := i)
  unfold wpX11_knows
  unfold wpX11_knows_b0
  refine s_X11_isSquare (Vf (k := 2) rfl hV) (fun r7 hb7 hp7 => ?_)
  try dsimp only
  refine ⟨fun c0 => ?_, fun c0 => ?_⟩
  · exact ⟨_, l_X11_knows_b19 hK _ _ _ _ _ (Vf (k := 2) rfl hV) (by first | assumption | grind | (simp [pt_r, upd_r] <;> grind)) (by first | assumption | grind | (simp [pt_r, upd_r] <;> grind)) (Nat.lt_succ_self _)⟩
  · exact hK _ _ (Vf (k := 2) rfl hV)
set_option maxHeartbeats 1000000 in
theorem s_X11_felt {w h : Nat} {f0 : Nat → Int32} {g0 : Nat → Nat → Int32} {f : Nat → Int32} {g : Nat → Nat → Int32} {K : Int32 → ((Nat → Int32) × (Nat → Nat → Int32)) → Prop} (hV : V w h f0 g0 f g) (hK : ∀ v : Int32, K v (f, g)) : wpX11_felt f g K := by
  have b41_i := hV.b41
  have b42_i := hV.b42
  have n_i := hV.n
  have w_i := fun i => hV.g47 (i := i)
  unfold wpX11_felt
  unfold wpX11_felt_b0
  refine s_X11_isWall (hV).gx (by first | assumption | grind | (simp [pt_r, upd_r] <;> grind)) (by first | assumption | grind | (simp [pt_r, upd_r] <;> grind)) (fun r9 hb9 hp9 => ?_)
  try dsimp only
  refine ⟨fun c0 => ?_, fun c0 => ?_⟩
  · unfold wpX11_felt_b20
    refine ⟨fun c1 => ?_, fun c1 => ?_⟩
    · unfold wpX11_felt_b36
      refine ⟨vI (c := 36) rfl (by first | assumption | grind | (simp [pt_r, upd_r] <;> grind)) (by first | assumption | grind | (simp [pt_r, upd_r] <;> grind)), ?_⟩
      refine ⟨fun c2 => ?_, fun c2 => ?_⟩
      · unfold wpX11_felt_b57
        refine ⟨vI (c := 36) rfl (by first | assumption | grind | (simp [pt_r, upd_r] <;> grind)) (by first | assumption | grind | (simp [pt_r, upd_r] <;> grind)), ?_⟩
        refine ⟨fun c3 => ?_, fun c3 => ?_⟩
        · unfold wpX11_felt_b77
          exact hK _
        · unfold wpX11_felt_b77
          exact hK _
      · unfold wpX11_felt_b57
        refine ⟨vI (c := 36) rfl (by first | assumption | grind | (simp [pt_r, upd_r] <;> grind)) (by first | assumption | grind | (simp [pt_r, upd_r] <;> grind)), ?_⟩
        refine ⟨fun c3 => ?_, fun c3 => ?_⟩
        · unfold wpX11_felt_b77
          exact hK _
        · unfold wpX11_felt_b77
          exact hK _
    · unfold wpX11_felt_b36
      refine ⟨vI (c := 36) rfl (by first | assumption | grind | (simp [pt_r, upd_r] <;> grind)) (by first | assumption | grind | (simp [pt_r, upd_r] <;> grind)), ?_⟩
      refine ⟨fun c2 => ?_, fun c2 => ?_⟩
      · unfold wpX11_felt_b57
        refine ⟨vI (c := 36) rfl (by first | assumption | grind | (simp [pt_r, upd_r] <;> grind)) (by first | assumption | grind | (simp [pt_r, upd_r] <;> grind)), ?_⟩
        refine ⟨fun c3 => ?_, fun c3 => ?_⟩
        · unfold wpX11_felt_b77
          exact hK _
        · unfold wpX11_felt_b77
          exact hK _
      · unfold wpX11_felt_b57
        refine ⟨vI (c := 36) rfl (by first | assumption | grind | (simp [pt_r, upd_r] <;> grind)) (by first | assumption | grind | (simp [pt_r, upd_r] <;> grind)), ?_⟩
        refine ⟨fun c3 => ?_, fun c3 => ?_⟩
        · unfold wpX11_felt_b77
          exact hK _
        · unfold wpX11_felt_b77
          exact hK _
  · unfold wpX11_felt_b20
    refine ⟨fun c1 => ?_, fun c1 => ?_⟩
    · unfold wpX11_felt_b36
      refine ⟨vI (c := 36) rfl (by first | assumption | grind | (simp [pt_r, upd_r] <;> grind)) (by first | assumption | grind | (simp [pt_r, upd_r] <;> grind)), ?_⟩
      refine ⟨fun c2 => ?_, fun c2 => ?_⟩
      · unfold wpX11_felt_b57
        refine ⟨vI (c := 36) rfl (by first | assumption | grind | (simp [pt_r, upd_r] <;> grind)) (by first | assumption | grind | (simp [pt_r, upd_r] <;> grind)), ?_⟩
        refine ⟨fun c3 => ?_, fun c3 => ?_⟩
        · unfold wpX11_felt_b77
          exact hK _
        · unfold wpX11_felt_b77
          exact hK _
      · unfold wpX11_felt_b57
        refine ⟨vI (c := 36) rfl (by first | assumption | grind | (simp [pt_r, upd_r] <;> grind)) (by first | assumption | grind | (simp [pt_r, upd_r] <;> grind)), ?_⟩
        refine ⟨fun c3 => ?_, fun c3 => ?_⟩
        · unfold wpX11_felt_b77
          exact hK _
        · unfold wpX11_felt_b77
          exact hK _
    · unfold wpX11_felt_b36
      refine ⟨vI (c := 36) rfl (by first | assumption | grind | (simp [pt_r, upd_r] <;> grind)) (by first | assumption | grind | (simp [pt_r, upd_r] <;> grind)), ?_⟩
      refine ⟨fun c2 => ?_, fun c2 => ?_⟩
      · unfold wpX11_felt_b57
        refine ⟨vI (c := 36) rfl (by first | assumption | grind | (simp [pt_r, upd_r] <;> grind)) (by first | assumption | grind | (simp [pt_r, upd_r] <;> grind)), ?_⟩
        refine ⟨fun c3 => ?_, fun c3 => ?_⟩
        · unfold wpX11_felt_b77
          exact hK _
        · unfold wpX11_felt_b77
          exact hK _
      · unfold wpX11_felt_b57
        refine ⟨vI (c := 36) rfl (by first | assumption | grind | (simp [pt_r, upd_r] <;> grind)) (by first | assumption | grind | (simp [pt_r, upd_r] <;> grind)), ?_⟩
        refine ⟨fun c3 => ?_, fun c3 => ?_⟩
        · unfold wpX11_felt_b77
          exact hK _
        · unfold wpX11_felt_b77
          exact hK _
set_option maxHeartbeats 1000000 in
theorem l_X11_works_b8 {w h : Nat} {f0 : Nat → Int32} {g0 : Nat → Nat → Int32} {K : Int32 → ((Nat → Int32) × (Nat → Nat → Int32)) → Prop} (hK : ∀ v : Int32, ∀ u : mS, V w h f0 g0 u.1 u.2 → isB v → K v u) (n : Nat) : ∀ (f : Nat → Int32) (g : Nat → Nat → Int32) (x1 : Int32) (x2 : Int32) (x3 : Int32) (x4 : Int32), V w h f0 g0 f g → 0 ≤ x4 → 0 ≤ x1 ∧ x1 < 24 → mu (x4) < n → wpX11_works_b8 n f g x1 x2 x3 x4 K := by
  induction n with
  | zero => intro f g x1 x2 x3 x4 hV hi0 hi1 hm; exact absurd hm (Nat.not_lt_zero _)
  | succ n ih =>
    intro f g x1 x2 x3 x4 hV hi0 hi1 hm
    have e25_i := hV.g25 (i := ix x1)
    have e26_i := hV.g26 (i := ix x1)
    have nk := hV.1.2.2.2 (ix x4)
    unfold wpX11_works_b8 wpX11_works_b8_body
    refine ⟨vI (c := 48) rfl (by first | assumption | grind | (simp [pt_r, upd_r] <;> grind)) (by first | assumption | grind | (simp [pt_r, upd_r] <;> grind)), ?_⟩
    refine ⟨fun c0 => ?_, fun c0 => ?_⟩
    · refine ⟨vI (c := 48) rfl (by first | assumption | grind | (simp [pt_r, upd_r] <;> grind)) (by first | assumption | grind | (simp [pt_r, upd_r] <;> grind)), ?_⟩
      refine ⟨vI (c := 48) rfl (by first | assumption | grind | (simp [pt_r, upd_r] <;> grind)) (by first | assumption | grind | (simp [pt_r, upd_r] <;> grind)), ?_⟩
      refine ⟨fun c1 => ?_, fun c1 => ?_⟩
      · unfold wpX11_works_b256
        unfold wpX11_works_b257
        refine ⟨(by first | exact Or.inl rfl | exact Or.inr rfl | assumption), ?_⟩
        exact hK _ _ hV (by first | exact Or.inl rfl | exact Or.inr rfl | assumption)
      · refine ⟨vI (c := 48) rfl (by first | assumption | grind | (simp [pt_r, upd_r] <;> grind)) (by first | assumption | grind | (simp [pt_r, upd_r] <;> grind)), ?_⟩
        refine ⟨vI (c := 64) rfl (by first | assumption | grind | (simp [pt_r, upd_r] <;> grind)) (by first | assumption | grind | (simp [pt_r, upd_r] <;> grind)), ?_⟩
        refine ⟨fun c2 => ?_, fun c2 => ?_⟩
        · unfold wpX11_works_b256
          unfold wpX11_works_b257
          refine ⟨(by first | exact Or.inl rfl | exact Or.inr rfl | assumption), ?_⟩
          exact hK _ _ hV (by first | exact Or.inl rfl | exact Or.inr rfl | assumption)
        · unfold wpX11_works_b257
          refine ⟨(by first | exact Or.inl rfl | exact Or.inr rfl | assumption), ?_⟩
          exact hK _ _ hV (by first | exact Or.inl rfl | exact Or.inr rfl | assumption)
    · refine ⟨vI (c := 128) rfl (by first | assumption | grind | (simp [pt_r, upd_r] <;> grind)) (by first | assumption | grind | (simp [pt_r, upd_r] <;> grind)), ?_⟩
      refine ⟨fun c1 => ?_, fun c1 => ?_, fun c1 => ?_, fun c1 => ?_, fun c1 => ?_⟩
      · refine ⟨vI (c := 128) rfl (by first | assumption | grind | (simp [pt_r, upd_r] <;> grind)) (by first | assumption | grind | (simp [pt_r, upd_r] <;> grind)), ?_⟩
        refine s_X11_isOf (fun r70 hb70 => ?_)
        refine ⟨vI (c := 64) rfl (by first | assumption | grind | (simp [pt_r, upd_r] <;> grind)) (by first | assumption | grind | (simp [pt_r, upd_r] <;> grind)), ?_⟩
        unfold wpX11_works_b215
        exact ih _ _ _ _ _ _ (Vg (k := 65) rfl hV) (by first | assumption | grind | (simp [pt_r, upd_r] <;> grind)) (by first | assumption | grind | (simp [pt_r, upd_r] <;> grind)) (lt1 (mu_lt c0) hm)
      · refine ⟨vI (c := 128) rfl (by first | assumption | grind | (simp [pt_r, upd_r] <;> grind)) (by first | assumption | grind | (simp [pt_r, upd_r] <;> grind)), ?_⟩
        refine ⟨vI (c := 64) rfl (by first | assumption | grind | (simp [pt_r, upd_r] <;> grind)) (by first | assumption | grind | (simp [pt_r, upd_r] <;> grind)), ?_⟩
        refine ⟨fun c2 => ?_, fun c2 => ?_⟩
        · unfold wpX11_works_b103
          refine ⟨vI (c := 64) rfl (by first | assumption | grind | (simp [pt_r, upd_r] <;> grind)) (by first | assumption | grind | (simp [pt_r, upd_r] <;> grind)), ?_⟩
          unfold wpX11_works_b215
          exact ih _ _ _ _ _ _ (Vg (k := 65) rfl hV) (by first | assumption | grind | (simp [pt_r, upd_r] <;> grind)) (by first | assumption | grind | (simp [pt_r, upd_r] <;> grind)) (lt1 (mu_lt c0) hm)
        · unfold wpX11_works_b103
          refine ⟨vI (c := 64) rfl (by first | assumption | grind | (simp [pt_r, upd_r] <;> grind)) (by first | assumption | grind | (simp [pt_r, upd_r] <;> grind)), ?_⟩
          unfold wpX11_works_b215
          exact ih _ _ _ _ _ _ (Vg (k := 65) rfl hV) (by first | assumption | grind | (simp [pt_r, upd_r] <;> grind)) (by first | assumption | grind | (simp [pt_r, upd_r] <;> grind)) (lt1 (mu_lt c0) hm)
      · refine ⟨vI (c := 128) rfl (by first | assumption | grind | (simp [pt_r, upd_r] <;> grind)) (by first | assumption | grind | (simp [pt_r, upd_r] <;> grind)), ?_⟩
        refine ⟨vI (c := 64) rfl (by first | assumption | grind | (simp [pt_r, upd_r] <;> grind)) (by first | assumption | grind | (simp [pt_r, upd_r] <;> grind)), ?_⟩
        refine ⟨fun c2 => ?_, fun c2 => ?_⟩
        · unfold wpX11_works_b147
          unfold wpX11_works_b148
          refine ⟨vI (c := 64) rfl (by first | assumption | grind | (simp [pt_r, upd_r] <;> grind)) (by first | assumption | grind | (simp [pt_r, upd_r] <;> grind)), ?_⟩
          unfold wpX11_works_b215
          exact ih _ _ _ _ _ _ (Vg (k := 65) rfl hV) (by first | assumption | grind | (simp [pt_r, upd_r] <;> grind)) (by first | assumption | grind | (simp [pt_r, upd_r] <;> grind)) (lt1 (mu_lt c0) hm)
        · refine ⟨vI (c := 128) rfl (by first | assumption | grind | (simp [pt_r, upd_r] <;> grind)) (by first | assumption | grind | (simp [pt_r, upd_r] <;> grind)), ?_⟩
          refine ⟨vI (c := 64) rfl (by first | assumption | grind | (simp [pt_r, upd_r] <;> grind)) (by first | assumption | grind | (simp [pt_r, upd_r] <;> grind)), ?_⟩
          refine ⟨fun c3 => ?_, fun c3 => ?_⟩
          · unfold wpX11_works_b147
            unfold wpX11_works_b148
            refine ⟨vI (c := 64) rfl (by first | assumption | grind | (simp [pt_r, upd_r] <;> grind)) (by first | assumption | grind | (simp [pt_r, upd_r] <;> grind)), ?_⟩
            unfold wpX11_works_b215
            exact ih _ _ _ _ _ _ (Vg (k := 65) rfl hV) (by first | assumption | grind | (simp [pt_r, upd_r] <;> grind)) (by first | assumption | grind | (simp [pt_r, upd_r] <;> grind)) (lt1 (mu_lt c0) hm)
          · unfold wpX11_works_b148
            refine ⟨vI (c := 64) rfl (by first | assumption | grind | (simp [pt_r, upd_r] <;> grind)) (by first | assumption | grind | (simp [pt_r, upd_r] <;> grind)), ?_⟩
            unfold wpX11_works_b215
            exact ih _ _ _ _ _ _ (Vg (k := 65) rfl hV) (by first | assumption | grind | (simp [pt_r, upd_r] <;> grind)) (by first | assumption | grind | (simp [pt_r, upd_r] <;> grind)) (lt1 (mu_lt c0) hm)
      · refine ⟨vI (c := 128) rfl (by first | assumption | grind | (simp [pt_r, upd_r] <;> grind)) (by first | assumption | grind | (simp [pt_r, upd_r] <;> grind)), ?_⟩
        refine ⟨vI (c := 64) rfl (by first | assumption | grind | (simp [pt_r, upd_r] <;> grind)) (by first | assumption | grind | (simp [pt_r, upd_r] <;> grind)), ?_⟩
        refine ⟨fun c2 => ?_, fun c2 => ?_⟩
        · unfold wpX11_works_b188
          unfold wpX11_works_b193
          refine ⟨vI (c := 64) rfl (by first | assumption | grind | (simp [pt_r, upd_r] <;> grind)) (by first | assumption | grind | (simp [pt_r, upd_r] <;> grind)), ?_⟩
          unfold wpX11_works_b215
          exact ih _ _ _ _ _ _ (Vg (k := 65) rfl hV) (by first | assumption | grind | (simp [pt_r, upd_r] <;> grind)) (by first | assumption | grind | (simp [pt_r, upd_r] <;> grind)) (lt1 (mu_lt c0) hm)
        · refine ⟨vI (c := 128) rfl (by first | assumption | grind | (simp [pt_r, upd_r] <;> grind)) (by first | assumption | grind | (simp [pt_r, upd_r] <;> grind)), ?_⟩
          refine ⟨vI (c := 64) rfl (by first | assumption | grind | (simp [pt_r, upd_r] <;> grind)) (by first | assumption | grind | (simp [pt_r, upd_r] <;> grind)), ?_⟩
          refine ⟨fun c3 => ?_, fun c3 => ?_⟩
          · unfold wpX11_works_b193
            refine ⟨vI (c := 64) rfl (by first | assumption | grind | (simp [pt_r, upd_r] <;> grind)) (by first | assumption | grind | (simp [pt_r, upd_r] <;> grind)), ?_⟩
            unfold wpX11_works_b215
            exact ih _ _ _ _ _ _ (Vg (k := 65) rfl hV) (by first | assumption | grind | (simp [pt_r, upd_r] <;> grind)) (by first | assumption | grind | (simp [pt_r, upd_r] <;> grind)) (lt1 (mu_lt c0) hm)
          · unfold wpX11_works_b188
            unfold wpX11_works_b193
            refine ⟨vI (c := 64) rfl (by first | assumption | grind | (simp [pt_r, upd_r] <;> grind)) (by first | assumption | grind | (simp [pt_r, upd_r] <;> grind)), ?_⟩
            unfold wpX11_works_b215
            exact ih _ _ _ _ _ _ (Vg (k := 65) rfl hV) (by first | assumption | grind | (simp [pt_r, upd_r] <;> grind)) (by first | assumption | grind | (simp [pt_r, upd_r] <;> grind)) (lt1 (mu_lt c0) hm)
      · refine ⟨vI (c := 128) rfl (by first | assumption | grind | (simp [pt_r, upd_r] <;> grind)) (by first | assumption | grind | (simp [pt_r, upd_r] <;> grind)), ?_⟩
        refine s_X11_isOf (fun r211 hb211 => ?_)
        refine ⟨vI (c := 64) rfl (by first | assumption | grind | (simp [pt_r, upd_r] <;> grind)) (by first | assumption | grind | (simp [pt_r, upd_r] <;> grind)), ?_⟩
        unfold wpX11_works_b215
        exact ih _ _ _ _ _ _ (Vg (k := 65) rfl hV) (by first | assumption | grind | (simp [pt_r, upd_r] <;> grind)) (by first | assumption | grind | (simp [pt_r, upd_r] <;> grind)) (lt1 (mu_lt c0) hm)
