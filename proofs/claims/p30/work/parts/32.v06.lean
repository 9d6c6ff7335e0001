/-- one bit of one square's walls, by a side that isn't around -/
theorem RM.set {w h : Nat} {wl : Nat → Int32} {s d : Nat} {v : Int32} (hr : RM w h wl) (hd : d < 4) (ha : arB w h s d = false) (hv : ∀ j, j < 4 → j ≠ d → bt v j = bt (wl s) j) : RM w h (upd wl s v) := by
  intro t ht
  obtain ⟨h0, h1, h2, h3⟩ := hr t ht
  rw [upd_r]
  by_cases e : t = s
  · subst e
    rw [if_pos rfl]
    have q : ∀ j, j < 4 → arB w h t j = true → bt v j = bt (wl t) j := fun j hj hq => hv j hj (fun e => by rw [e, ha] at hq; cases hq)
    refine ⟨fun z => by rw [q 0 (by omega) (by simp [arB, z])]; exact h0 z, fun z => by rw [q 1 (by omega) (by simp [arB, z])]; exact h1 z, fun z => by rw [q 2 (by omega) (by simp [arB, z])]; exact h2 z, fun z => by rw [q 3 (by omega) (by simp [arB, z])]; exact h3 z⟩
  · rw [if_neg e]; exact ⟨h0, h1, h2, h3⟩
theorem bt_on {x : Int32} {d j : Nat} (hd : d < 4) (hj : j < 4) (h : j ≠ d) : bt (x ||| jshl 1 (nI d)) j = bt x j := by
  rw [b_or, bt_shl (by omega) (by omega)]
  simp [h]
theorem bt_off {x : Int32} {d j : Nat} (hd : d < 4) (hj : j < 4) (h : j ≠ d) : bt (x &&& (jshl 1 (nI d) ^^^ -1)) j = bt x j := by
  rw [b_and, b_xor, bt_shl (by omega) (by omega), b_m1 j (by omega)]
  simp [h]
theorem m_putWall {w h : Nat} {f : Nat → Int32} {g : Nat → Nat → Int32} {x1 x2 x3 : Int32} {K : mS → Prop} (hx : GX w h f g) (hn : na w h x1 x2) (hK : ∀ g' : Nat → Nat → Int32, (∀ j, j ≠ 46 → g' j = g j) → RM w h (g' 46) → K (f, g')) : wpX11_putWall f g x1 x2 x3 K := by
  have e := hx.1
  have h36 := (wh36 e.2).2
  obtain ⟨s, d, rfl, rfl, hs, hd, ha⟩ := id hn
  obtain ⟨k1, k2, k3, k4⟩ := ah_ok w (by have := e.2; omega) h (by have := e.2; omega) s (by omega) d hd ⟨e.2.1.1, e.2.2.1, hs, ha⟩
  have eb : jrem (nI d + 2) 4 = nI ((d + 2) % 4) := by
    unfold jrem
    rw [show (2 : Int32) = nI 2 from rfl, show (4 : Int32) = nI 4 from rfl, nI_add, pk_rem (by omega) (by omega) (by omega)]
  have vs : vp_in (nI s) 36 := vin (by omega) (by decide)
  have es : ix (nI s) = s := ix_nI (by omega)
  have et : ix (nI (ahN w s d)) = ahN w s d := ix_nI (by omega)
  have vt : vp_in (nI (ahN w s d)) 36 := vin (by omega) (by decide)
  have fin : ∀ v1 v2 : Int32, (∀ j, j < 4 → j ≠ d → bt v1 j = bt (g 46 s) j) → (∀ j, j < 4 → j ≠ (d + 2) % 4 → bt v2 j = bt ((pt g 46 s v1) 46 (ahN w s d)) j) → K (f, pt (pt g 46 s v1) 46 (ahN w s d) v2) := fun v1 v2 h1 h2 => by
    refine hK _ (fun j hj => by rw [pt_ne hj, pt_ne hj]) ?_
    rw [pt_at]
    refine RM.set ?_ (by omega) k2 h2
    rw [pt_at]
    exact RM.set hx.2 hd ha h1
  have b49 : ∀ v1, (∀ j, j < 4 → j ≠ d → bt v1 j = bt (g 46 s) j) → wpX11_putWall_b49 f g (nI s) v1 x3 (nI (ahN w s d)) (nI ((d + 2) % 4)) K := fun v1 h1 => by
    unfold wpX11_putWall_b49 wpX11_putWall_b89
    rw [es, et]
    refine ⟨vs, fun _ => ⟨vt, vt, fin _ _ h1 (fun j hj hne => bt_off (by omega) hj hne)⟩, fun _ => ⟨vt, vt, fin _ _ h1 (fun j hj hne => bt_on (by omega) hj hne)⟩⟩
  have tail : ∀ r3 : Int32, r3 = nI (ahN w s d) → ((x3 = 0 → vp_in (nI s) 36 ∧ wpX11_putWall_b49 f g (nI s) (g 46 (ix (nI s)) &&& (jshl 1 (nI d) ^^^ -1)) x3 r3 (jrem (nI d + 2) 4) K) ∧ (¬ x3 = 0 → vp_in (nI s) 36 ∧ wpX11_putWall_b49 f g (nI s) (g 46 (ix (nI s)) ||| jshl 1 (nI d)) x3 r3 (jrem (nI d + 2) 4) K)) := fun r3 hr => by
    subst hr
    rw [es, eb]
    exact ⟨fun _ => ⟨vs, b49 _ (fun j hj hne => bt_off hd hj hne)⟩, fun _ => ⟨vs, b49 _ (fun j hj hne => bt_on hd hj hne)⟩⟩
  unfold wpX11_putWall wpX11_putWall_b0 wpX11_ahead wpX11_ahead_b0 wpX11_ahead_b41
  have hc : d = 0 ∨ d = 1 ∨ d = 2 ∨ d = 3 := by omega
  refine ⟨fun c => ⟨fun c1 => ⟨fun c2 => tail _ ?_, fun c2 => tail _ ?_⟩, fun c1 => tail _ ?_⟩, fun c => tail _ ?_⟩
  · have h3 : d = 3 := by
      rcases hc with rfl | rfl | rfl | rfl
      · exact absurd rfl c
      · exact absurd rfl c1
      · exact absurd rfl c2
      · rfl
    subst h3
    rw [show (1 : Int32) = nI 1 from rfl, pk_sub (k4 rfl)]; rfl
  · have h2 : d = 2 := (nI_eq (b := 2) (by omega) (by omega)).mp c2
    subst h2
    rw [e.1.1, nI_add]; rfl
  · have h1 : d = 1 := (nI_eq (b := 1) (by omega) (by omega)).mp c1
    subst h1
    rw [nI_1]; rfl
  · have h0 : d = 0 := (nI_eq (b := 0) (by omega) (by omega)).mp c
    subst h0
    rw [e.1.1, pk_sub (k3 rfl)]; rfl
theorem m_isIn0 {x lo hi : Int32} {K : Int32 → Unit → Prop} (h1 : lo ≤ x → x ≤ hi → K 1 ()) (h0 : (x < lo ∨ hi < x) → K 0 ()) : wpX11_isIn x lo hi K := by
  unfold wpX11_isIn wpX11_isIn_b0 wpX11_isIn_b14 wpX11_isIn_b15
  exact ⟨fun h => ⟨Or.inl rfl, h0 (Or.inl h)⟩, fun h => ⟨fun h' => ⟨Or.inl rfl, h0 (Or.inr h')⟩, fun h' => ⟨Or.inr rfl, h1 (i_nlt h) (i_nlt h')⟩⟩⟩
theorem in26 {x : Int32} (h1 : 2 ≤ x) (h2 : x ≤ 6) : ∃ w, (2 ≤ w ∧ w ≤ 6) ∧ x = nI w := by
  obtain ⟨w, hw, rfl⟩ := i_mid (n := 6) (hi := 6) rfl (by grind) h2
  refine ⟨w, ⟨?_, hw⟩, rfl⟩
  exact (nI_leI (a := 2) (by omega) (by omega)).mp h1
theorem q_floor {w h : Nat} {f : Nat → Int32} {g : Nat → Nat → Int32} {x1 x2 : Int32} {K : Int32 → mS → Prop} (hV : V w h f g f g) (h1 : ∀ w' h' : Nat, x1 = nI w' → x2 = nI h' → (2 ≤ w' ∧ w' ≤ 6) ∧ 2 ≤ h' ∧ h' ≤ 6 → ∀ u : mS, V w' h' u.1 u.2 u.1 u.2 → (∀ k, k < 4 → u.2 56 k = 0) → K 1 u) (h0 : ((x1 < 2 ∨ 6 < x1) ∨ (x2 < 2 ∨ 6 < x2)) → ∀ u : mS, V w h f g u.1 u.2 → K 0 u) : wpX11_floor f g x1 x2 K := by
  have hV2 : V w h f g (upd f 2 0) g := Vf (k := 2) rfl hV
  unfold wpX11_floor wpX11_floor_b0 wpX11_floor_b25
  refine m_isIn0 (fun a b => ⟨fun c => absurd c (by decide), fun _ => m_isIn0 (fun a' b' => ⟨fun _ => ?_, fun c => absurd c (by decide)⟩) (fun c' => ⟨fun c => absurd rfl c, fun _ => h0 (Or.inr c') _ hV2⟩)⟩) (fun c' => ⟨fun _ => h0 (Or.inl c') _ hV2, fun c => absurd rfl c⟩)
  obtain ⟨w', hw, rfl⟩ := in26 a b
  obtain ⟨h', hh, rfl⟩ := in26 a' b'
  exact m_begins hV2.1 ⟨hw, hh⟩ (fun u hu hz => h1 w' h' rfl rfl ⟨hw, hh⟩ _ hu hz)
theorem V_w {w h : Nat} {f : Nat → Int32} {g g' : Nat → Nat → Int32} {f0 : Nat → Int32} {g0 : Nat → Nat → Int32} (hV : V w h f0 g0 f g) (hg : ∀ j, j ≠ 46 → g' j = g j) (hr : RM w h (g' 46)) : V w h f g' f g' :=
  mkV (hV.1.g (fun j _ hj => hg j (fun e => by subst e; cases hj)) (fun i => by rw [hg 47 (by decide)]; exact hV.g47)) ⟨hV.ge, hr, hV.b40⟩ hV.b41
theorem q_wall {w h : Nat} {f : Nat → Int32} {g : Nat → Nat → Int32} {x1 x2 x3 : Int32} {K : Int32 → mS → Prop} (hV : V w h f g f g) (hK : ∀ v : Int32, ∀ u : mS, V w h u.1 u.2 u.1 u.2 → u.2 56 = g 56 → u.2 57 = g 57 → K v u) : wpX11_wall f g x1 x2 x3 K := by
  have hV2 : V w h f g (upd f 2 0) g := Vf (k := 2) rfl hV
  have z : wpX11_wall_b41 (upd f 2 0) g K := by unfold wpX11_wall_b41; exact hK _ _ hV2.re rfl rfl
  unfold wpX11_wall wpX11_wall_b0
  refine s_X11_isSquare hV2 (fun r7 _ hp7 => ⟨fun _ => z, fun c7 => ?_⟩)
  refine s_X11_isIn (fun r16 _ hp16 => ⟨fun _ => z, fun c16 => ?_⟩)
  have hs := hp7.resolve_left c7
  have hd := hp16.resolve_left c16
  refine s_X11_isAround hV2.gx hs hd (fun r25 _ hp25 => ⟨fun _ => z, fun c25 => ?_⟩)
  refine s_X11_isWall hV2.gx hs hd (fun r34 _ _ => ⟨fun _ => ?_, fun _ => z⟩)
  refine m_putWall hV2.gx (hp25 c25) (fun g' hg hr => hK _ _ (V_w hV2 hg hr) (hg 56 (by decide)) (hg 57 (by decide)))
theorem m_isSquare {w h : Nat} {f : Nat → Int32} {g : Nat → Nat → Int32} {x1 : Int32} {K : Int32 → mS → Prop} (e : GE w h f) (h1 : ¬ x1 < 0 → ¬ nI (w * h) ≤ x1 → K 1 (f, g)) (h0 : (x1 < 0 ∨ nI (w * h) ≤ x1) → K 0 (f, g)) : wpX11_isSquare f g x1 K := by
  unfold wpX11_isSquare wpX11_isSquare_b0 wpX11_isSquare_b16 wpX11_isSquare_b17 wpX11_squares wpX11_squares_b0
  rw [e.sq]
  exact ⟨fun h => ⟨Or.inl rfl, h0 (Or.inl h)⟩, fun h => ⟨fun h' => ⟨Or.inl rfl, h0 (Or.inr h')⟩, fun h' => ⟨Or.inr rfl, h1 h h'⟩⟩⟩
theorem q_bell {w h : Nat} {f : Nat → Int32} {g : Nat → Nat → Int32} {x1 : Int32} {K : Int32 → mS → Prop} (hV : V w h f g f g) (h1 : ¬ x1 < 0 → ¬ nI (w * h) ≤ x1 → ∀ u : mS, V w h u.1 u.2 u.1 u.2 → u.2 = g → K 1 u) (h0 : (x1 < 0 ∨ nI (w * h) ≤ x1) → ∀ u : mS, V w h u.1 u.2 u.1 u.2 → u.2 = g → K 0 u) : wpX11_bell f g x1 K := by
  have hV2 : V w h f g (upd f 2 0) g := Vf (k := 2) rfl hV
  unfold wpX11_bell wpX11_bell_b0
  refine m_isSquare hV2.ge (fun a b => ⟨fun _ => h1 a b _ ?_ rfl, fun c => absurd c (by decide)⟩) (fun a => ⟨fun c => absurd rfl c, fun _ => h0 a _ hV2.re rfl⟩)
  refine mkV (hV2.1.f (fun j hj => ?_) hV2.b42) ⟨hV2.ge, hV2.rm, ?_⟩ hV2.b41
  · have q : j ≠ 40 := fun e => by rw [e] at hj; cases hj
    show upd (upd f 2 0) 40 x1 j = _
    rw [upd_r, if_neg q]
  · exact ⟨Int32.not_lt.mp a, Int32.not_le.mp b⟩
theorem q_lift {w h : Nat} {f : Nat → Int32} {g : Nat → Nat → Int32} {x1 x2 : Int32} {K : Int32 → mS → Prop} (hV : V w h f g f g) (h1 : ¬ x1 < 0 → ¬ nI (w * h) ≤ x1 → 0 ≤ x2 → x2 ≤ 3 → ∀ u : mS, V w h f g u.1 u.2 → K 1 u) (h0 : ((x1 < 0 ∨ nI (w * h) ≤ x1) ∨ (x2 < 0 ∨ 3 < x2)) → ∀ u : mS, V w h f g u.1 u.2 → K 0 u) : wpX11_lift f g x1 x2 K := by
  have hV2 : V w h f g (upd f 2 0) g := Vf (k := 2) rfl hV
  unfold wpX11_lift wpX11_lift_b0 wpX11_lift_b22
  refine m_isSquare hV2.ge (fun a b => ⟨fun c => absurd c (by decide), fun _ => m_isIn0 (fun a' b' => ⟨fun _ => ?_, fun c => absurd c (by decide)⟩) (fun c' => ⟨fun c => absurd rfl c, fun _ => h0 (Or.inr c') _ hV2⟩)⟩) (fun a => ⟨fun _ => h0 (Or.inl a) _ hV2, fun c => absurd rfl c⟩)
  exact h1 a b a' b' _ (Vu42 ⟨a', b'⟩ (Vu41 ⟨Int32.not_lt.mp a, Int32.not_le.mp b⟩ hV2))
set_option maxHeartbeats 1000000 in
theorem l_X11_wipes_b2 {w h : Nat} {f0 : Nat → Int32} {g0 : Nat → Nat → Int32} {K : ((Nat → Int32) × (Nat → Nat → Int32)) → Prop} (hK : ∀ u : mS, V w h f0 g0 u.1 u.2 → K u) (n : Nat) : ∀ (f : Nat → Int32) (g : Nat → Nat → Int32) (x1 : Int32), V w h f0 g0 f g → 0 ≤ x1 → mu (x1) < n → wpX11_wipes_b2 n f g x1 K := by
  induction n with
  | zero => intro f g x1 hV hi0 hm; exact absurd hm (Nat.not_lt_zero _)
  | succ n ih =>
    intro f g x1 hV hi0 hm
    have b41_i := hV.b41
    have b42_i := hV.b42
    have n_i := hV.n
    unfold wpX11_wipes_b2 wpX11_wipes_b2_body
    refine s_X11_squares (hV).gx (fun r4 hp4 => ?_)
    try dsimp only
    refine ⟨fun c0 => ?_, fun c0 => ?_⟩
    · exact hK _ hV
    · refine ⟨vI (c := 36) rfl (by first | assumption | grind | (simp [pt_r, upd_r] <;> grind)) (by first | assumption | grind | (simp [pt_r, upd_r] <;> grind)), ?_⟩
      refine ⟨vI (c := 36) rfl (by first | assumption | grind | (simp [pt_r, upd_r] <;> grind)) (by first | assumption | grind | (simp [pt_r, upd_r] <;> grind)), ?_⟩
      exact ih _ _ _ (Vg (k := 48) rfl (Vg47 (by first | assumption | grind | (simp [pt_r, upd_r] <;> grind)) hV)) (by first | assumption | grind | (simp [pt_r, upd_r] <;> grind)) (lt1 (mu_lt c0) hm)
set_option maxHeartbeats 1000000 in
theorem s_X11_wipes {w h : Nat} {f0 : Nat → Int32} {g0 : Nat → Nat → Int32} {f : Nat → Int32} {g : Nat → Nat → Int32} {K : ((Nat → Int32) × (Nat → Nat → Int32)) → Prop} (hV : V w h f0 g0 f g) (hK : ∀ u : mS, V w h f0 g0 u.1 u.2 → K u) : wpX11_wipes f g K := by
  have b41_i := hV.b41
  have b42_i := hV.b42
  have n_i := hV.n
  unfold wpX11_wipes
  unfold wpX11_wipes_b0
  exact ⟨_, l_X11_wipes_b2 hK _ _ _ _ hV (by first | assumption | grind | (simp [pt_r, upd_r] <;> grind)) (Nat.lt_succ_self _)⟩
set_option maxHeartbeats 1000000 in
theorem l_X11_wipe_b9 {w h : Nat} {f0 : Nat → Int32} {g0 : Nat → Nat → Int32} {K : Int32 → ((Nat → Int32) × (Nat → Nat → Int32)) → Prop} (hK : ∀ v : Int32, ∀ u : mS, V w h f0 g0 u.1 u.2 → K v u) (n : Nat) : ∀ (f : Nat → Int32) (g : Nat → Nat → Int32) (x1 : Int32) (x2 : Int32), V w h f0 g0 f g → 0 ≤ x2 → mu (x2) < n → wpX11_wipe_b9 n f g x1 x2 K := by
  induction n with
  | zero => intro f g x1 x2 hV hi0 hm; exact absurd hm (Nat.not_lt_zero _)
  | succ n ih =>
    intro f g x1 x2 hV hi0 hm
    have b41_i := hV.b41
    have b42_i := hV.b42
    have n_i := hV.n
    unfold wpX11_wipe_b9 wpX11_wipe_b9_body
    refine s_X11_squares (hV).gx (fun r11 hp11 => ?_)
    try dsimp only
    refine ⟨fun c0 => ?_, fun c0 => ?_⟩
    · refine s_X11_wipes hV (fun u50 hV50 => ?_)
      have b41_50 := hV50.b41
      have b42_50 := hV50.b42
      have n_50 := hV50.n
      exact hK _ _ (Vf (k := 45) rfl (Vf (k := 44) rfl (Vf (k := 43) rfl hV50)))
    · refine ⟨vI (c := 36) rfl (by first | assumption | grind | (simp [pt_r, upd_r] <;> grind)) (by first | assumption | grind | (simp [pt_r, upd_r] <;> grind)), ?_⟩
      refine ⟨fun c1 => ?_, fun c1 => ?_⟩
      · unfold wpX11_wipe_b36
        unfold wpX11_wipe_b41
        exact ih _ _ _ _ hV (by first | assumption | grind | (simp [pt_r, upd_r] <;> grind)) (lt1 (mu_lt c0) hm)
      · refine ⟨vI (c := 36) rfl (by first | assumption | grind | (simp [pt_r, upd_r] <;> grind)) (by first | assumption | grind | (simp [pt_r, upd_r] <;> grind)), ?_⟩
        refine ⟨fun c2 => ?_, fun c2 => ?_⟩
        · unfold wpX11_wipe_b41
          exact ih _ _ _ _ hV (by first | assumption | grind | (simp [pt_r, upd_r] <;> grind)) (lt1 (mu_lt c0) hm)
        · unfold wpX11_wipe_b36
          unfold wpX11_wipe_b41
          exact ih _ _ _ _ hV (by first | assumption | grind | (simp [pt_r, upd_r] <;> grind)) (lt1 (mu_lt c0) hm)
set_option maxHeartbeats 1000000 in
theorem s_X11_wipe {w h : Nat} {f0 : Nat → Int32} {g0 : Nat → Nat → Int32} {f : Nat → Int32} {g : Nat → Nat → Int32} {K : Int32 → ((Nat → Int32) × (Nat → Nat → Int32)) → Prop} (hV : V w h f0 g0 f g) (hK : ∀ v : Int32, ∀ u : mS, V w h f0 g0 u.1 u.2 → K v u) : wpX11_wipe f g K := by
  have b41_i := hV.b41
  have b42_i := hV.b42
  have n_i := hV.n
  unfold wpX11_wipe
  unfold wpX11_wipe_b0
  exact ⟨_, l_X11_wipe_b9 hK _ _ _ _ _ (Vf (k := 2) rfl hV) (by first | assumption | grind | (simp [pt_r, upd_r] <;> grind)) (Nat.lt_succ_self _)⟩
set_option maxHeartbeats 1000000 in
theorem s_X11_goes {w h : Nat} {f0 : Nat → Int32} {g0 : Nat → Nat → Int32} {f : Nat → Int32} {g : Nat → Nat → Int32} {K : ((Nat → Int32) × (Nat → Nat → Int32)) → Prop} (hV : V w h f0 g0 f g) (hK : ∀ u : mS, V w h f0 g0 u.1 u.2 → K u) : wpX11_goes f g K := by
  have b41_i := hV.b41
  have b42_i := hV.b42
  have n_i := hV.n
  unfold wpX11_goes
  unfold wpX11_goes_b0
  refine s_X11_isWall (hV).gx (by first | assumption | grind | (simp [pt_r, upd_r] <;> grind)) (by first | assumption | grind | (simp [pt_r, upd_r] <;> grind)) (fun r9 hb9 hp9 => ?_)
  try dsimp only
  refine ⟨fun c0 => ?_, fun c0 => ?_⟩
  · refine s_X11_ahead (hV).gx (by first | assumption | grind | (simp [pt_r, upd_r] <;> grind)) (fun r26 hp26 => ?_)
    try dsimp only
    exact hK _ (Vf (k := 53) rfl (Vu41 (by first | assumption | grind | (simp [pt_r, upd_r] <;> grind)) hV))
  · exact hK _ hV
set_option maxHeartbeats 1000000 in
theorem s_X11_holds {w h : Nat} {f0 : Nat → Int32} {g0 : Nat → Nat → Int32} {f : Nat → Int32} {g : Nat → Nat → Int32} {x1 : Int32} {K : Int32 → ((Nat → Int32) × (Nat → Nat → Int32)) → Prop} (hV : V w h f0 g0 f g) (hp : 0 ≤ x1 ∧ x1 < 720) (hK : ∀ v : Int32, isB v → K v (f, g)) : wpX11_holds f g x1 K := by
  have b41_i := hV.b41
  have b42_i := hV.b42
  have n_i := hV.n
  have w_i := fun i => hV.g47 (i := i)
  unfold wpX11_holds
  unfold wpX11_holds_b0
  refine ⟨vI (c := 720) rfl (by first | assumption | grind | (simp [pt_r, upd_r] <;> grind)) (by first | assumption | grind | (simp [pt_r, upd_r] <;> grind)), ?_⟩
  refine ⟨fun c0 => ?_, fun c0 => ?_, fun c0 => ?_, fun c0 => ?_, fun c0 => ?_, fun c0 => ?_⟩
  · refine s_X11_isWall (hV).gx (by first | assumption | grind | (simp [pt_r, upd_r] <;> grind)) (by first | assumption | grind | (simp [pt_r, upd_r] <;> grind)) (fun r49 hb49 hp49 => ?_)
    try dsimp only
    unfold wpX11_holds_b164
    refine ⟨vI (c := 720) rfl (by first | assumption | grind | (simp [pt_r, upd_r] <;> grind)) (by first | assumption | grind | (simp [pt_r, upd_r] <;> grind)), ?_⟩
    refine ⟨fun c1 => ?_, fun c1 => ?_⟩
    · unfold wpX11_holds_b179
      refine ⟨(by first | exact Or.inl rfl | exact Or.inr rfl | assumption), ?_⟩
      exact hK _ (by first | exact Or.inl rfl | exact Or.inr rfl | assumption)
    · unfold wpX11_holds_b179
      refine ⟨(by first | exact Or.inl rfl | exact Or.inr rfl | assumption), ?_⟩
      exact hK _ (by first | exact Or.inl rfl | exact Or.inr rfl | assumption)
  · refine ⟨fun c1 => ?_, fun c1 => ?_⟩
    · unfold wpX11_holds_b72
      unfold wpX11_holds_b164
      refine ⟨vI (c := 720) rfl (by first | assumption | grind | (simp [pt_r, upd_r] <;> grind)) (by first | assumption | grind | (simp [pt_r, upd_r] <;> grind)), ?_⟩
      refine ⟨fun c2 => ?_, fun c2 => ?_⟩
      · unfold wpX11_holds_b179
        refine ⟨(by first | exact Or.inl rfl | exact Or.inr rfl | assumption), ?_⟩
        exact hK _ (by first | exact Or.inl rfl | exact Or.inr rfl | assumption)
      · unfold wpX11_holds_b179
        refine ⟨(by first | exact Or.inl rfl | exact Or.inr rfl | assumption), ?_⟩
        exact hK _ (by first | exact Or.inl rfl | exact Or.inr rfl | assumption)
    · unfold wpX11_holds_b72
      unfold wpX11_holds_b164
      refine ⟨vI (c := 720) rfl (by first | assumption | grind | (simp [pt_r, upd_r] <;> grind)) (by first | assumption | grind | (simp [pt_r, upd_r] <;> grind)), ?_⟩
      refine ⟨fun c2 => ?_, fun c2 => ?_⟩
      · unfold wpX11_holds_b179
        refine ⟨(by first | exact Or.inl rfl | exact Or.inr rfl | assumption), ?_⟩
        exact hK _ (by first | exact Or.inl rfl | exact Or.inr rfl | assumption)
      · unfold wpX11_holds_b179
        refine ⟨(by first | exact Or.inl rfl | exact Or.inr rfl | assumption), ?_⟩
        exact hK _ (by first | exact Or.inl rfl | exact Or.inr rfl | assumption)
  · refine ⟨vI (c := 36) rfl (by first | assumption | grind | (simp [pt_r, upd_r] <;> grind)) (by first | assumption | grind | (simp [pt_r, upd_r] <;> grind)), ?_⟩
    refine ⟨fun c1 => ?_, fun c1 => ?_⟩
    · unfold wpX11_holds_b97
      unfold wpX11_holds_b164
      refine ⟨vI (c := 720) rfl (by first | assumption | grind | (simp [pt_r, upd_r] <;> grind)) (by first | assumption | grind | (simp [pt_r, upd_r] <;> grind)), ?_⟩
      refine ⟨fun c2 => ?_, fun c2 => ?_⟩
      · unfold wpX11_holds_b179
        refine ⟨(by first | exact Or.inl rfl | exact Or.inr rfl | assumption), ?_⟩
        exact hK _ (by first | exact Or.inl rfl | exact Or.inr rfl | assumption)
      · unfold wpX11_holds_b179
        refine ⟨(by first | exact Or.inl rfl | exact Or.inr rfl | assumption), ?_⟩
        exact hK _ (by first | exact Or.inl rfl | exact Or.inr rfl | assumption)
    · unfold wpX11_holds_b97
      unfold wpX11_holds_b164
      refine ⟨vI (c := 720) rfl (by first | assumption | grind | (simp [pt_r, upd_r] <;> grind)) (by first | assumption | grind | (simp [pt_r, upd_r] <;> grind)), ?_⟩
      refine ⟨fun c2 => ?_, fun c2 => ?_⟩
      · unfold wpX11_holds_b179
        refine ⟨(by first | exact Or.inl rfl | exact Or.inr rfl | assumption), ?_⟩
        exact hK _ (by first | exact Or.inl rfl | exact Or.inr rfl | assumption)
      · unfold wpX11_holds_b179
        refine ⟨(by first | exact Or.inl rfl | exact Or.inr rfl | assumption), ?_⟩
        exact hK _ (by first | exact Or.inl rfl | exact Or.inr rfl | assumption)
  · refine ⟨vI (c := 720) rfl (by first | assumption | grind | (simp [pt_r, upd_r] <;> grind)) (by first | assumption | grind | (simp [pt_r, upd_r] <;> grind)), ?_⟩
    refine ⟨fun c1 => ?_, fun c1 => ?_⟩
    · unfold wpX11_holds_b119
      unfold wpX11_holds_b164
      refine ⟨vI (c := 720) rfl (by first | assumption | grind | (simp [pt_r, upd_r] <;> grind)) (by first | assumption | grind | (simp [pt_r, upd_r] <;> grind)), ?_⟩
      refine ⟨fun c2 => ?_, fun c2 => ?_⟩
      · unfold wpX11_holds_b179
        refine ⟨(by first | exact Or.inl rfl | exact Or.inr rfl | assumption), ?_⟩
        exact hK _ (by first | exact Or.inl rfl | exact Or.inr rfl | assumption)
      · unfold wpX11_holds_b179
        refine ⟨(by first | exact Or.inl rfl | exact Or.inr rfl | assumption), ?_⟩
        exact hK _ (by first | exact Or.inl rfl | exact Or.inr rfl | assumption)
    · unfold wpX11_holds_b119
      unfold wpX11_holds_b164
      refine ⟨vI (c := 720) rfl (by first | assumption | grind | (simp [pt_r, upd_r] <;> grind)) (by first | assumption | grind | (simp [pt_r, upd_r] <;> grind)), ?_⟩
      refine ⟨fun c2 => ?_, fun c2 => ?_⟩
      · unfold wpX11_holds_b179
        refine ⟨(by first | exact Or.inl rfl | exact Or.inr rfl | assumption), ?_⟩
        exact hK _ (by first | exact Or.inl rfl | exact Or.inr rfl | assumption)
      · unfold wpX11_holds_b179
        refine ⟨(by first | exact Or.inl rfl | exact Or.inr rfl | assumption), ?_⟩
        exact hK _ (by first | exact Or.inl rfl | exact Or.inr rfl | assumption)
  · refine ⟨vI (c := 720) rfl (by first | assumption | grind | (simp [pt_r, upd_r] <;> grind)) (by first | assumption | grind | (simp [pt_r, upd_r] <;> grind)), ?_⟩
    refine ⟨fun c1 => ?_, fun c1 => ?_⟩
    · unfold wpX11_holds_b141
      unfold wpX11_holds_b164
      refine ⟨vI (c := 720) rfl (by first | assumption | grind | (simp [pt_r, upd_r] <;> grind)) (by first | assumption | grind | (simp [pt_r, upd_r] <;> grind)), ?_⟩
      refine ⟨fun c2 => ?_, fun c2 => ?_⟩
      · unfold wpX11_holds_b179
        refine ⟨(by first | exact Or.inl rfl | exact Or.inr rfl | assumption), ?_⟩
        exact hK _ (by first | exact Or.inl rfl | exact Or.inr rfl | assumption)
      · unfold wpX11_holds_b179
        refine ⟨(by first | exact Or.inl rfl | exact Or.inr rfl | assumption), ?_⟩
        exact hK _ (by first | exact Or.inl rfl | exact Or.inr rfl | assumption)
    · unfold wpX11_holds_b141
      unfold wpX11_holds_b164
      refine ⟨vI (c := 720) rfl (by first | assumption | grind | (simp [pt_r, upd_r] <;> grind)) (by first | assumption | grind | (simp [pt_r, upd_r] <;> grind)), ?_⟩
      refine ⟨fun c2 => ?_, fun c2 => ?_⟩
      · unfold wpX11_holds_b179
        refine ⟨(by first | exact Or.inl rfl | exact Or.inr rfl | assumption), ?_⟩
        exact hK _ (by first | exact Or.inl rfl | exact Or.inr rfl | assumption)
      · unfold wpX11_holds_b179
        refine ⟨(by first | exact Or.inl rfl | exact Or.inr rfl | assumption), ?_⟩
        exact hK _ (by first | exact Or.inl rfl | exact Or.inr rfl | assumption)
  · refine ⟨vI (c := 36) rfl (by first | assumption | grind | (simp [pt_r, upd_r] <;> grind)) (by first | assumption | grind | (simp [pt_r, upd_r] <;> grind)), ?_⟩
    refine ⟨vI (c := 720) rfl (by first | assumption | grind | (simp [pt_r, upd_r] <;> grind)) (by first | assumption | grind | (simp [pt_r, upd_r] <;> grind)), ?_⟩
    refine s_X11_isOf (fun r160 hb160 => ?_)
    unfold wpX11_holds_b164
    refine ⟨vI (c := 720) rfl (by first | assumption | grind | (simp [pt_r, upd_r] <;> grind)) (by first | assumption | grind | (simp [pt_r, upd_r] <;> grind)), ?_⟩
    refine ⟨fun c1 => ?_, fun c1 => ?_⟩
    · unfold wpX11_holds_b179
      refine ⟨(by first | exact Or.inl rfl | exact Or.inr rfl | assumption), ?_⟩
      exact hK _ (by first | exact Or.inl rfl | exact Or.inr rfl | assumption)
    · unfold wpX11_holds_b179
      refine ⟨(by first | exact Or.inl rfl | exact Or.inr rfl | assumption), ?_⟩
      exact hK _ (by first | exact Or.inl rfl | exact Or.inr rfl | assumption)
set_option maxHeartbeats 1000000 in
theorem s_X11_does {w h : Nat} {f0 : Nat → Int32} {g0 : Nat → Nat → Int32} {f : Nat → Int32} {g : Nat → Nat → Int32} {x1 : Int32} {K : ((Nat → Int32) × (Nat → Nat → Int32)) → Prop} (hV : V w h f0 g0 f g) (hp : 0 ≤ x1 ∧ x1 < 720) (hK : ∀ u : mS, V w h f0 g0 u.1 u.2 → K u) : wpX11_does f g x1 K := by
  have b41_i := hV.b41
  have b42_i := hV.b42
  have n_i := hV.n
  have w_i := fun i => hV.g47 (i := i)
  unfold wpX11_does
  unfold wpX11_does_b0
  refine ⟨vI (c := 720) rfl (by first | assumption | grind | (simp [pt_r, upd_r] <;> grind)) (by first | assumption | grind | (simp [pt_r, upd_r] <;> grind)), ?_⟩
  refine ⟨fun c0 => ?_, fun c0 => ?_, fun c0 => ?_, fun c0 => ?_, fun c0 => ?_, fun c0 => ?_, fun c0 => ?_, fun c0 => ?_, fun c0 => ?_, fun c0 => ?_, fun c0 => ?_, fun c0 => ?_, fun c0 => ?_, fun c0 => ?_⟩
  · refine ⟨vI (c := 720) rfl (by first | assumption | grind | (simp [pt_r, upd_r] <;> grind)) (by first | assumption | grind | (simp [pt_r, upd_r] <;> grind)), ?_⟩
    unfold wpX11_does_b272
    exact hK _ (Vf (k := 43) rfl hV)
  · refine s_X11_wipes hV (fun u269 hV269 => ?_)
    have b41_269 := hV269.b41
    have b42_269 := hV269.b42
    have n_269 := hV269.n
    have w_269 := fun i => hV269.g47 (i := i)
    unfold wpX11_does_b272
    exact hK _ hV269
  · refine s_X11_wipes hV (fun u269 hV269 => ?_)
    have b41_269 := hV269.b41
    have b42_269 := hV269.b42
    have n_269 := hV269.n
    have w_269 := fun i => hV269.g47 (i := i)
    unfold wpX11_does_b272
    exact hK _ hV269
  · unfold wpX11_does_b272
    exact hK _ (Vu42 (by first | assumption | exact jr4 (by grind) | grind) hV)
  · unfold wpX11_does_b272
    exact hK _ (Vu42 (by first | assumption | exact jr4 (by grind) | grind) hV)
  · unfold wpX11_does_b272
    exact hK _ (Vu42 (by first | assumption | exact jr4 (by grind) | grind) hV)
  · refine ⟨vI (c := 36) rfl (by first | assumption | grind | (simp [pt_r, upd_r] <;> grind)) (by first | assumption | grind | (simp [pt_r, upd_r] <;> grind)), ?_⟩
    unfold wpX11_does_b272
    exact hK _ (Vu42 (by first | assumption | exact jr4 (by grind) | grind) hV)
  · refine ⟨vI (c := 36) rfl (by first | assumption | grind | (simp [pt_r, upd_r] <;> grind)) (by first | assumption | grind | (simp [pt_r, upd_r] <;> grind)), ?_⟩
    unfold wpX11_does_b272
    exact hK _ (Vg47 (by first | assumption | grind | (simp [pt_r, upd_r] <;> grind)) hV)
  · refine s_X11_goes hV (fun u150 hV150 => ?_)
    have b41_150 := hV150.b41
    have b42_150 := hV150.b42
    have n_150 := hV150.n
    have w_150 := fun i => hV150.g47 (i := i)
    unfold wpX11_does_b272
    exact hK _ hV150
  · refine ⟨vI (c := 36) rfl (by first | assumption | grind | (simp [pt_r, upd_r] <;> grind)) (by first | assumption | grind | (simp [pt_r, upd_r] <;> grind)), ?_⟩
    refine ⟨vI (c := 720) rfl (by first | assumption | grind | (simp [pt_r, upd_r] <;> grind)) (by first | assumption | grind | (simp [pt_r, upd_r] <;> grind)), ?_⟩
    refine ⟨fun c1 => ?_, fun c1 => ?_⟩
    · refine ⟨vI (c := 720) rfl (by first | assumption | grind | (simp [pt_r, upd_r] <;> grind)) (by first | assumption | grind | (simp [pt_r, upd_r] <;> grind)), ?_⟩
      unfold wpX11_does_b191
      refine ⟨vI (c := 36) rfl (by first | assumption | grind | (simp [pt_r, upd_r] <;> grind)) (by first | assumption | grind | (simp [pt_r, upd_r] <;> grind)), ?_⟩
      unfold wpX11_does_b272
      exact hK _ (Vg (k := 48) rfl hV)
    · unfold wpX11_does_b191
      refine ⟨vI (c := 36) rfl (by first | assumption | grind | (simp [pt_r, upd_r] <;> grind)) (by first | assumption | grind | (simp [pt_r, upd_r] <;> grind)), ?_⟩
      unfold wpX11_does_b272
      exact hK _ (Vg (k := 48) rfl hV)
  · refine ⟨vI (c := 36) rfl (by first | assumption | grind | (simp [pt_r, upd_r] <;> grind)) (by first | assumption | grind | (simp [pt_r, upd_r] <;> grind)), ?_⟩
    refine ⟨vI (c := 720) rfl (by first | assumption | grind | (simp [pt_r, upd_r] <;> grind)) (by first | assumption | grind | (simp [pt_r, upd_r] <;> grind)), ?_⟩
    refine ⟨vI (c := 36) rfl (by first | assumption | grind | (simp [pt_r, upd_r] <;> grind)) (by first | assumption | grind | (simp [pt_r, upd_r] <;> grind)), ?_⟩
    unfold wpX11_does_b272
    exact hK _ (Vg (k := 48) rfl hV)
  · refine ⟨fun c1 => ?_, fun c1 => ?_⟩
    · unfold wpX11_does_b253
      unfold wpX11_does_b272
      exact hK _ (Vf (k := 44) rfl hV)
    · unfold wpX11_does_b253
      unfold wpX11_does_b272
      exact hK _ (Vf (k := 44) rfl hV)
  · unfold wpX11_does_b272
    exact hK _ (Vf (k := 44) rfl hV)
  · refine s_X11_wipes hV (fun u269 hV269 => ?_)
    have b41_269 := hV269.b41
    have b42_269 := hV269.b42
    have n_269 := hV269.n
    have w_269 := fun i => hV269.g47 (i := i)
    unfold wpX11_does_b272
    exact hK _ hV269
