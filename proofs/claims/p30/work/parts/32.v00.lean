set_option maxHeartbeats 1000000 in
theorem l_X11_feed_b23 {w h : Nat} {f0 : Nat → Int32} {g0 : Nat → Nat → Int32} {K : Int32 → ((Nat → Int32) × (Nat → Nat → Int32)) → Prop} (hK : ∀ v : Int32, ∀ u : mS, V w h f0 g0 u.1 u.2 → K v u) (n : Nat) : ∀ (f : Nat → Int32) (g : Nat → Nat → Int32) (x1 : Int32) (x2 : Int32) (x3 : Int32) (x4 : Int32) (x5 : Int32) (x6 : Int32), V w h f0 g0 f g → 0 ≤ x6 → f 1 + 20 ≤ 500 → mu (x6) < n → wpX11_feed_b23 n f g x1 x2 x3 x4 x5 x6 K := by
  induction n with
  | zero => intro f g x1 x2 x3 x4 x5 x6 hV hi0 hi1 hm; exact absurd hm (Nat.not_lt_zero _)
  | succ n ih =>
    intro f g x1 x2 x3 x4 x5 x6 hV hi0 hi1 hm
    have b1_i := hV.b1
    unfold wpX11_feed_b23 wpX11_feed_b23_body
    refine ⟨fun c0 => ?_, fun c0 => ?_⟩
    · exact hK _ _ (Vu1 (by first | assumption | grind | (simp [pt_r, upd_r] <;> grind)) hV)
    · refine ⟨fun c1 => ?_, fun c1 => ?_⟩
      · refine ⟨fun c2 => ?_, fun c2 => ?_⟩
        · refine ⟨fun c3 => ?_, fun c3 => ?_⟩
          · refine ⟨fun c4 => ?_, fun c4 => ?_⟩
            · unfold wpX11_feed_b76
              refine ⟨vI (c := 500) rfl (by first | assumption | grind | (simp [pt_r, upd_r] <;> grind)) (by first | assumption | grind | (simp [pt_r, upd_r] <;> grind)), ?_⟩
              exact ih _ _ _ _ _ _ _ _ (Vg (k := 0) rfl hV) (by first | assumption | grind | (simp [pt_r, upd_r] <;> grind)) (by first | assumption | grind | (simp [pt_r, upd_r] <;> grind)) (lt1 (mu_lt c0) hm)
            · unfold wpX11_feed_b76
              refine ⟨vI (c := 500) rfl (by first | assumption | grind | (simp [pt_r, upd_r] <;> grind)) (by first | assumption | grind | (simp [pt_r, upd_r] <;> grind)), ?_⟩
              exact ih _ _ _ _ _ _ _ _ (Vg (k := 0) rfl hV) (by first | assumption | grind | (simp [pt_r, upd_r] <;> grind)) (by first | assumption | grind | (simp [pt_r, upd_r] <;> grind)) (lt1 (mu_lt c4) hm)
          · unfold wpX11_feed_b76
            refine ⟨vI (c := 500) rfl (by first | assumption | grind | (simp [pt_r, upd_r] <;> grind)) (by first | assumption | grind | (simp [pt_r, upd_r] <;> grind)), ?_⟩
            exact ih _ _ _ _ _ _ _ _ (Vg (k := 0) rfl hV) (by first | assumption | grind | (simp [pt_r, upd_r] <;> grind)) (by first | assumption | grind | (simp [pt_r, upd_r] <;> grind)) (lt1 (mu_lt c3) hm)
        · unfold wpX11_feed_b76
          refine ⟨vI (c := 500) rfl (by first | assumption | grind | (simp [pt_r, upd_r] <;> grind)) (by first | assumption | grind | (simp [pt_r, upd_r] <;> grind)), ?_⟩
          exact ih _ _ _ _ _ _ _ _ (Vg (k := 0) rfl hV) (by first | assumption | grind | (simp [pt_r, upd_r] <;> grind)) (by first | assumption | grind | (simp [pt_r, upd_r] <;> grind)) (lt1 (mu_lt c2) hm)
      · unfold wpX11_feed_b76
        refine ⟨vI (c := 500) rfl (by first | assumption | grind | (simp [pt_r, upd_r] <;> grind)) (by first | assumption | grind | (simp [pt_r, upd_r] <;> grind)), ?_⟩
        exact ih _ _ _ _ _ _ _ _ (Vg (k := 0) rfl hV) (by first | assumption | grind | (simp [pt_r, upd_r] <;> grind)) (by first | assumption | grind | (simp [pt_r, upd_r] <;> grind)) (lt1 (mu_lt c1) hm)
set_option maxHeartbeats 1000000 in
theorem s_X11_feed {w h : Nat} {f0 : Nat → Int32} {g0 : Nat → Nat → Int32} {f : Nat → Int32} {g : Nat → Nat → Int32} {x1 : Int32} {x2 : Int32} {x3 : Int32} {x4 : Int32} {x5 : Int32} {K : Int32 → ((Nat → Int32) × (Nat → Nat → Int32)) → Prop} (hV : V w h f0 g0 f g) (hK : ∀ v : Int32, ∀ u : mS, V w h f0 g0 u.1 u.2 → K v u) : wpX11_feed f g x1 x2 x3 x4 x5 K := by
  have b1_i := hV.b1
  unfold wpX11_feed
  unfold wpX11_feed_b0
  refine ⟨fun c0 => ?_, fun c0 => ?_⟩
  · exact ⟨_, l_X11_feed_b23 hK _ _ _ _ _ _ _ _ _ (Vf (k := 2) rfl hV) (by first | assumption | grind | (simp [pt_r, upd_r] <;> grind)) (by first | assumption | grind | (simp [pt_r, upd_r] <;> grind)) (Nat.lt_succ_self _)⟩
  · exact hK _ _ (Vf (k := 2) rfl hV)
set_option maxHeartbeats 1000000 in
theorem s_X11_isIn {x0 : Int32} {x1 : Int32} {x2 : Int32} {K : Int32 → Unit → Prop} (hK : ∀ v : Int32, isB v → (v = 0 ∨ (x1 ≤ x0 ∧ x0 ≤ x2)) → K v ()) : wpX11_isIn x0 x1 x2 K := by
  unfold wpX11_isIn
  unfold wpX11_isIn_b0
  refine ⟨fun c0 => ?_, fun c0 => ?_⟩
  · unfold wpX11_isIn_b14
    unfold wpX11_isIn_b15
    refine ⟨(by first | exact Or.inl rfl | exact Or.inr rfl | assumption), ?_⟩
    exact hK _ (by first | exact Or.inl rfl | exact Or.inr rfl | assumption) (by first | assumption | grind | (simp [pt_r, upd_r] <;> grind))
  · refine ⟨fun c1 => ?_, fun c1 => ?_⟩
    · unfold wpX11_isIn_b14
      unfold wpX11_isIn_b15
      refine ⟨(by first | exact Or.inl rfl | exact Or.inr rfl | assumption), ?_⟩
      exact hK _ (by first | exact Or.inl rfl | exact Or.inr rfl | assumption) (by first | assumption | grind | (simp [pt_r, upd_r] <;> grind))
    · unfold wpX11_isIn_b15
      refine ⟨(by first | exact Or.inl rfl | exact Or.inr rfl | assumption), ?_⟩
      exact hK _ (by first | exact Or.inl rfl | exact Or.inr rfl | assumption) (by first | assumption | grind | (simp [pt_r, upd_r] <;> grind))
set_option maxHeartbeats 1000000 in
theorem s_X11_isOf {x0 : Int32} {x1 : Int32} {K : Int32 → Unit → Prop} (hK : ∀ v : Int32, isB v → K v ()) : wpX11_isOf x0 x1 K := by
  unfold wpX11_isOf
  unfold wpX11_isOf_b0
  refine ⟨fun c0 => ?_, fun c0 => ?_⟩
  · unfold wpX11_isOf_b14
    refine ⟨(by first | exact Or.inl rfl | exact Or.inr rfl | assumption), ?_⟩
    exact hK _ (by first | exact Or.inl rfl | exact Or.inr rfl | assumption)
  · unfold wpX11_isOf_b14
    refine ⟨(by first | exact Or.inl rfl | exact Or.inr rfl | assumption), ?_⟩
    exact hK _ (by first | exact Or.inl rfl | exact Or.inr rfl | assumption)
set_option maxHeartbeats 1000000 in
theorem s_X11_wrong {w h : Nat} {f0 : Nat → Int32} {g0 : Nat → Nat → Int32} {f : Nat → Int32} {g : Nat → Nat → Int32} {x1 : Int32} {K : Int32 → ((Nat → Int32) × (Nat → Nat → Int32)) → Prop} (hV : V w h f0 g0 f g) (hK : ∀ v : Int32, ∀ f' : Nat → Int32, V w h f0 g0 f' g → isB v → (v = 0) → (∀ k, k ≠ 4 → k ≠ 5 → f' k = f k) → K v (f', g)) : wpX11_wrong f g x1 K := by
  unfold wpX11_wrong
  unfold wpX11_wrong_b0
  exact hK _ _ (Vf (k := 5) rfl (Vf (k := 4) rfl hV)) (by first | exact Or.inl rfl | exact Or.inr rfl | assumption) (by first | assumption | grind | (simp [pt_r, upd_r] <;> grind)) (by intro k h4 h5; first | rfl | (simp only [upd_r, h4, h5, if_false]; done) | (simp [upd_r, *]; done) | grind)
theorem mu_gt {x y : Int32} (h : x < y) : mu y < mu x := by
  unfold mu
  rw [Int32.lt_iff_toInt_lt] at h
  have h1 := Int32.toInt_lt y
  omega
theorem l_X11_wordAt_b57 {f : Nat → Int32} {g : Nat → Nat → Int32} {K : Int32 → mS → Prop} {B5 : (Nat → Int32) → (Nat → Nat → Int32) → Int32 → Int32 → Int32 → Int32 → Prop} {m5 : Nat} {x1 x2 : Int32} (hx : 0 ≤ x1 ∧ x1 ≤ x2 ∧ x2 ≤ 500) (hK : ∀ v : Int32, K v (f, g)) (hB5 : ∀ x3 x4 : Int32, 0 ≤ x4 → x4 ≤ 112 → mu x4 < m5 → B5 f g x1 x2 x3 x4) (n : Nat) : ∀ x3 x4 x5 x6 x7 : Int32, 0 ≤ x7 → (0 ≤ x4 ∧ x4 ≤ 111) → (0 ≤ x5 ∧ x5 ≤ 111) → x4 + x5 ≤ 111 → (x6 = 0 ∨ x5 = x2 - x1) → mu (x4 + (x5 + 1)) < m5 → mu x7 < n → wpX11_wordAt_b57 B5 n f g x1 x2 x3 x4 x5 x6 x7 K := by
  induction n with
  | zero => intro x3 x4 x5 x6 x7 _ _ _ _ _ _ hm; exact absurd hm (Nat.not_lt_zero _)
  | succ n ih =>
    intro x3 x4 x5 x6 x7 i0 i1 i2 i3 i4 i5 hm
    unfold wpX11_wordAt_b57 wpX11_wordAt_b57_body
    have hb : wpX11_wordAt_b104 B5 f g x1 x2 x3 x4 x5 x6 K := by
      unfold wpX11_wordAt_b104
      exact ⟨fun _ => hB5 _ _ (by grind) (by grind) i5, fun _ => hK _⟩
    refine ⟨fun _ => hb, fun c => ⟨fun _ => hb, fun c1 => ⟨vI (c := 112) rfl (by grind) (by grind), vI (c := 500) rfl (by grind) (by grind), fun _ => ?_, fun _ => ?_⟩⟩⟩
    · unfold wpX11_wordAt_b96
      exact ih _ _ _ _ _ (by grind) i1 i2 i3 (Or.inl rfl) i5 (lt1 (mu_lt c) hm)
    · unfold wpX11_wordAt_b96
      exact ih _ _ _ _ _ (by grind) i1 i2 i3 (Or.inr (i4.resolve_left c1)) i5 (lt1 (mu_lt c) hm)
theorem l_X11_wordAt_b18 {f : Nat → Int32} {g : Nat → Nat → Int32} {K : Int32 → mS → Prop} {B5 : (Nat → Int32) → (Nat → Nat → Int32) → Int32 → Int32 → Int32 → Int32 → Prop} {m5 : Nat} {x1 x2 : Int32} (h3 : g 3 111 = 32) (hx : 0 ≤ x1 ∧ x1 ≤ x2 ∧ x2 ≤ 500) (hK : ∀ v : Int32, K v (f, g)) (hB5 : ∀ x3 x4 : Int32, 0 ≤ x4 → x4 ≤ 112 → mu x4 < m5 → B5 f g x1 x2 x3 x4) (n : Nat) : ∀ x3 x4 x5 : Int32, (0 ≤ x4 ∧ x4 ≤ 111) → (0 ≤ x5 ∧ x5 ≤ 111) → x4 + x5 ≤ 111 → mu x4 < m5 + 1 → mu x5 < n → wpX11_wordAt_b18 B5 n f g x1 x2 x3 x4 x5 K := by
  induction n with
  | zero => intro x3 x4 x5 _ _ _ _ hm; exact absurd hm (Nat.not_lt_zero _)
  | succ n ih =>
    intro x3 x4 x5 i1 i2 i3 i5 hm
    unfold wpX11_wordAt_b18 wpX11_wordAt_b18_body
    have hmu : mu (x4 + (x5 + 1)) < m5 := lt1 (mu_gt (by grind)) i5
    refine ⟨vI (c := 112) rfl (by grind) (by grind), fun _ => ⟨fun _ => ?_, fun c => ?_⟩, fun c => ?_⟩
    · unfold wpX11_wordAt_b52
      exact ⟨_, l_X11_wordAt_b57 hx hK hB5 _ _ _ _ _ _ (by decide) i1 i2 i3 (Or.inl rfl) hmu (Nat.lt_succ_self _)⟩
    · unfold wpX11_wordAt_b52
      exact ⟨_, l_X11_wordAt_b57 hx hK hB5 _ _ _ _ _ _ (by decide) i1 i2 i3 (Or.inr c) hmu (Nat.lt_succ_self _)⟩
    · have hne : ¬ x4 + x5 = 111 := fun e => c (by rw [e]; exact h3)
      exact ih _ _ _ i1 (by grind) (by grind) i5 (lt1 (mu_gt (by grind)) hm)
theorem l_X11_wordAt_b5 {f : Nat → Int32} {g : Nat → Nat → Int32} {K : Int32 → mS → Prop} {x1 x2 : Int32} (h3 : g 3 111 = 32) (hx : 0 ≤ x1 ∧ x1 ≤ x2 ∧ x2 ≤ 500) (hK : ∀ v : Int32, K v (f, g)) (n : Nat) : ∀ x3 x4 : Int32, 0 ≤ x4 → x4 ≤ 112 → mu x4 < n → wpX11_wordAt_b5 n f g x1 x2 x3 x4 K := by
  induction n with
  | zero => intro x3 x4 _ _ hm; exact absurd hm (Nat.not_lt_zero _)
  | succ n ih =>
    intro x3 x4 i0 i1 hm
    unfold wpX11_wordAt_b5 wpX11_wordAt_b5_body
    refine ⟨fun _ => hK _, fun c => ?_⟩
    exact ⟨_, l_X11_wordAt_b18 h3 hx hK ih _ _ _ _ (by grind) (by decide) (by grind) hm (Nat.lt_succ_self _)⟩
theorem s_X11_wordAt {w h : Nat} {f0 : Nat → Int32} {g0 : Nat → Nat → Int32} {f : Nat → Int32} {g : Nat → Nat → Int32} {x1 x2 : Int32} {K : Int32 → mS → Prop} (hV : V w h f0 g0 f g) (hx : 0 ≤ x1 ∧ x1 ≤ x2 ∧ x2 ≤ 500) (hK : ∀ v : Int32, K v (f, g)) : wpX11_wordAt f g x1 x2 K := by
  unfold wpX11_wordAt wpX11_wordAt_b0
  exact ⟨_, l_X11_wordAt_b5 hV.g3 hx hK _ _ _ (by decide) (by decide) (Nat.lt_succ_self _)⟩
/-- a small letter there -/
def SM (f : Nat → Int32) (g : Nat → Nat → Int32) (x : Int32) : Prop := x < f 6 ∧ 97 ≤ g 0 (ix x) ∧ g 0 (ix x) ≤ 122
def DG (f : Nat → Int32) (g : Nat → Nat → Int32) (x : Int32) : Prop := x < f 6 ∧ 48 ≤ g 0 (ix x) ∧ g 0 (ix x) ≤ 57
theorem s_X11_isSmall {w h : Nat} {f0 : Nat → Int32} {g0 : Nat → Nat → Int32} {f : Nat → Int32} {g : Nat → Nat → Int32} {x1 : Int32} {K : Int32 → mS → Prop} (hV : V w h f0 g0 f g) (hp : 0 ≤ x1) (hK : ∀ v : Int32, isB v → (v = 0 → ¬ SM f g x1) → (¬ v = 0 → SM f g x1) → K v (f, g)) : wpX11_isSmall f g x1 K := by
  have b6 := hV.b6
  unfold wpX11_isSmall wpX11_isSmall_b0 wpX11_isSmall_b34 wpX11_isSmall_b35
  refine ⟨fun c => ⟨Or.inl rfl, hK _ (Or.inl rfl) (fun _ q => ?_) (fun q => absurd rfl q)⟩, fun c => ?_⟩
  · have := q.1; grind
  have v : vp_in x1 500 := vI (c := 500) rfl hp (by grind)
  refine ⟨v, fun c1 => ⟨Or.inl rfl, hK _ (Or.inl rfl) (fun _ q => ?_) (fun q => absurd rfl q)⟩, fun c1 => ⟨v, fun c2 => ⟨Or.inl rfl, hK _ (Or.inl rfl) (fun _ q => ?_) (fun q => absurd rfl q)⟩, fun c2 => ⟨Or.inr rfl, hK _ (Or.inr rfl) (fun q => absurd q (by decide)) (fun _ => ⟨Int32.not_le.mp c, Int32.not_lt.mp c1, Int32.not_lt.mp c2⟩)⟩⟩⟩
  · have := q.2.1; grind
  · have := q.2.2; grind
theorem s_X11_isDigit {w h : Nat} {f0 : Nat → Int32} {g0 : Nat → Nat → Int32} {f : Nat → Int32} {g : Nat → Nat → Int32} {x1 : Int32} {K : Int32 → mS → Prop} (hV : V w h f0 g0 f g) (hp : 0 ≤ x1) (hK : ∀ v : Int32, isB v → (v = 0 → ¬ DG f g x1) → (¬ v = 0 → DG f g x1) → K v (f, g)) : wpX11_isDigit f g x1 K := by
  have b6 := hV.b6
  unfold wpX11_isDigit wpX11_isDigit_b0 wpX11_isDigit_b34 wpX11_isDigit_b35
  refine ⟨fun c => ⟨Or.inl rfl, hK _ (Or.inl rfl) (fun _ q => ?_) (fun q => absurd rfl q)⟩, fun c => ?_⟩
  · have := q.1; grind
  have v : vp_in x1 500 := vI (c := 500) rfl hp (by grind)
  refine ⟨v, fun c1 => ⟨Or.inl rfl, hK _ (Or.inl rfl) (fun _ q => ?_) (fun q => absurd rfl q)⟩, fun c1 => ⟨v, fun c2 => ⟨Or.inl rfl, hK _ (Or.inl rfl) (fun _ q => ?_) (fun q => absurd rfl q)⟩, fun c2 => ⟨Or.inr rfl, hK _ (Or.inr rfl) (fun q => absurd q (by decide)) (fun _ => ⟨Int32.not_le.mp c, Int32.not_lt.mp c1, Int32.not_lt.mp c2⟩)⟩⟩⟩
  · have := q.2.1; grind
  · have := q.2.2; grind
set_option maxHeartbeats 1000000 in
theorem s_X11_isOfNet {x0 : Int32} {K : Int32 → Unit → Prop} (hK : ∀ v : Int32, isB v → K v ()) : wpX11_isOfNet x0 K := by
  unfold wpX11_isOfNet
  unfold wpX11_isOfNet_b0
  refine ⟨fun c0 => ?_, fun c0 => ?_⟩
  · unfold wpX11_isOfNet_b45
    unfold wpX11_isOfNet_b50
    refine ⟨(by first | exact Or.inl rfl | exact Or.inr rfl | assumption), ?_⟩
    exact hK _ (by first | exact Or.inl rfl | exact Or.inr rfl | assumption)
  · refine ⟨fun c1 => ?_, fun c1 => ?_⟩
    · unfold wpX11_isOfNet_b45
      unfold wpX11_isOfNet_b50
      refine ⟨(by first | exact Or.inl rfl | exact Or.inr rfl | assumption), ?_⟩
      exact hK _ (by first | exact Or.inl rfl | exact Or.inr rfl | assumption)
    · refine ⟨fun c2 => ?_, fun c2 => ?_⟩
      · unfold wpX11_isOfNet_b45
        unfold wpX11_isOfNet_b50
        refine ⟨(by first | exact Or.inl rfl | exact Or.inr rfl | assumption), ?_⟩
        exact hK _ (by first | exact Or.inl rfl | exact Or.inr rfl | assumption)
      · refine ⟨fun c3 => ?_, fun c3 => ?_⟩
        · unfold wpX11_isOfNet_b45
          unfold wpX11_isOfNet_b50
          refine ⟨(by first | exact Or.inl rfl | exact Or.inr rfl | assumption), ?_⟩
          exact hK _ (by first | exact Or.inl rfl | exact Or.inr rfl | assumption)
        · refine ⟨fun c4 => ?_, fun c4 => ?_⟩
          · unfold wpX11_isOfNet_b45
            unfold wpX11_isOfNet_b50
            refine ⟨(by first | exact Or.inl rfl | exact Or.inr rfl | assumption), ?_⟩
            exact hK _ (by first | exact Or.inl rfl | exact Or.inr rfl | assumption)
          · refine ⟨fun c5 => ?_, fun c5 => ?_⟩
            · unfold wpX11_isOfNet_b45
              unfold wpX11_isOfNet_b50
              refine ⟨(by first | exact Or.inl rfl | exact Or.inr rfl | assumption), ?_⟩
              exact hK _ (by first | exact Or.inl rfl | exact Or.inr rfl | assumption)
            · refine ⟨fun c6 => ?_, fun c6 => ?_⟩
              · unfold wpX11_isOfNet_b45
                unfold wpX11_isOfNet_b50
                refine ⟨(by first | exact Or.inl rfl | exact Or.inr rfl | assumption), ?_⟩
                exact hK _ (by first | exact Or.inl rfl | exact Or.inr rfl | assumption)
              · refine ⟨fun c7 => ?_, fun c7 => ?_⟩
                · unfold wpX11_isOfNet_b50
                  refine ⟨(by first | exact Or.inl rfl | exact Or.inr rfl | assumption), ?_⟩
                  exact hK _ (by first | exact Or.inl rfl | exact Or.inr rfl | assumption)
                · unfold wpX11_isOfNet_b45
                  unfold wpX11_isOfNet_b50
                  refine ⟨(by first | exact Or.inl rfl | exact Or.inr rfl | assumption), ?_⟩
                  exact hK _ (by first | exact Or.inl rfl | exact Or.inr rfl | assumption)
set_option maxHeartbeats 1000000 in
theorem l_X11_packed_b5 {w h : Nat} {f0 : Nat → Int32} {g0 : Nat → Nat → Int32} {f : Nat → Int32} {g : Nat → Nat → Int32} {K : Int32 → ((Nat → Int32) × (Nat → Nat → Int32)) → Prop} (hV : V w h f0 g0 f g) (hK : ∀ v : Int32, K v (f, g)) (n : Nat) : ∀ (x1 : Int32) (x2 : Int32) (x3 : Int32) (x4 : Int32), 0 ≤ x4 → x2 ≤ 500 → mu (x4) < n → wpX11_packed_b5 n f g x1 x2 x3 x4 K := by
  induction n with
  | zero => intro x1 x2 x3 x4 hi0 hi1 hm; exact absurd hm (Nat.not_lt_zero _)
  | succ n ih =>
    intro x1 x2 x3 x4 hi0 hi1 hm
    have b6_i := hV.b6
    have b7_i := hV.b7
    unfold wpX11_packed_b5 wpX11_packed_b5_body
    refine ⟨fun c0 => ?_, fun c0 => ?_⟩
    · exact hK _
    · refine ⟨fun c1 => ?_, fun c1 => ?_⟩
      · unfold wpX11_packed_b37
        exact ih _ _ _ _ (by first | assumption | grind | (simp [pt_r, upd_r] <;> grind)) (by first | assumption | grind | (simp [pt_r, upd_r] <;> grind)) (lt1 (mu_lt c0) hm)
      · refine ⟨vI (c := 500) rfl (by first | assumption | grind | (simp [pt_r, upd_r] <;> grind)) (by first | assumption | grind | (simp [pt_r, upd_r] <;> grind)), ?_⟩
        unfold wpX11_packed_b37
        exact ih _ _ _ _ (by first | assumption | grind | (simp [pt_r, upd_r] <;> grind)) (by first | assumption | grind | (simp [pt_r, upd_r] <;> grind)) (lt1 (mu_lt c1) hm)
set_option maxHeartbeats 1000000 in
theorem s_X11_packed {w h : Nat} {f0 : Nat → Int32} {g0 : Nat → Nat → Int32} {f : Nat → Int32} {g : Nat → Nat → Int32} {x1 : Int32} {x2 : Int32} {K : Int32 → ((Nat → Int32) × (Nat → Nat → Int32)) → Prop} (hV : V w h f0 g0 f g) (hp : 0 ≤ x1 ∧ x1 ≤ 500) (hq : x2 ≤ 500) (hK : ∀ v : Int32, K v (f, g)) : wpX11_packed f g x1 x2 K := by
  have b6_i := hV.b6
  have b7_i := hV.b7
  unfold wpX11_packed
  unfold wpX11_packed_b0
  exact ⟨_, l_X11_packed_b5 hV hK _ _ _ _ _ (by first | assumption | grind | (simp [pt_r, upd_r] <;> grind)) (by first | assumption | grind | (simp [pt_r, upd_r] <;> grind)) (Nat.lt_succ_self _)⟩
/-- what reading a token changes -/
def TK (f f' : Nat → Int32) : Prop := (∀ k, k ≠ 7 → k ≠ 8 → k ≠ 9 → k ≠ 10 → f' k = f k) ∧ f 7 ≤ f' 7 ∧ (f' 8 = 0 ∨ f 7 < f' 7)
/-- the same, not yet its kind -/
def TA (a : Nat → Int32) (f : Nat → Int32) : Prop := (∀ k, k ≠ 7 → k ≠ 8 → k ≠ 9 → k ≠ 10 → f k = a k) ∧ a 7 ≤ f 7
theorem TA.u {a f : Nat → Int32} {k : Nat} {v : Int32} (h : TA a f) (hk : k = 8 ∨ k = 9 ∨ k = 10) : TA a (upd f k v) := by
  refine ⟨fun j h7 h8 h9 h0 => ?_, ?_⟩
  · rw [upd_r, if_neg (by omega)]; exact h.1 j h7 h8 h9 h0
  · rw [upd_r, if_neg (by omega)]; exact h.2
theorem TA.u7 {a f : Nat → Int32} {v : Int32} (h : TA a f) (hv : a 7 ≤ v) : TA a (upd f 7 v) := by
  refine ⟨fun j h7 h8 h9 h0 => ?_, ?_⟩
  · rw [upd_r, if_neg h7]; exact h.1 j h7 h8 h9 h0
  · rw [upd_r, if_pos rfl]; exact hv
section TKS
variable {w h : Nat} {f0 : Nat → Int32} {g0 : Nat → Nat → Int32} {a : Nat → Int32} {g : Nat → Nat → Int32} {K : mS → Prop}
theorem tk_407 (hK : ∀ f' : Nat → Int32, V w h f0 g0 f' g → TK a f' → K (f', g)) {f : Nat → Int32} (hV : V w h f0 g0 f g) (hT : TA a f) (h7 : a 7 < f 7) : wpX11_take_b407 f g K := by
  unfold wpX11_take_b407
  exact hK f hV ⟨hT.1, hT.2, Or.inr h7⟩
theorem tk_258 (hK : ∀ f' : Nat → Int32, V w h f0 g0 f' g → TK a f' → K (f', g)) (n : Nat) : ∀ f : Nat → Int32, V w h f0 g0 f g → TA a f → (a 7 < f 7 ∨ DG f g (f 7)) → mu (f 7) < n → wpX11_take_b258 n f g K := by
  induction n with
  | zero => intro f _ _ _ hm; exact absurd hm (Nat.not_lt_zero _)
  | succ n ih =>
    intro f hV hT h7 hm
    have b7 := hV.b7
    have b6 := hV.b6
    unfold wpX11_take_b258 wpX11_take_b258_body
    refine s_X11_isDigit hV b7.1 (fun r hb h0 h1 => ⟨fun c => tk_407 hK hV hT (h7.resolve_right (h0 c)), fun c => ?_⟩)
    have hd := (h1 c).1
    have nx : ∀ v : Int32, wpX11_take_b306 (fun f g => wpX11_take_b258 n f g K) f g v K := fun v => by
      unfold wpX11_take_b306
      have hV2 : V w h f0 g0 (upd (upd f 9 v) 7 (f 7 + 1)) g := Vu7 (by rw [upd_r, if_neg (by decide)]; grind) (Vf (k := 9) rfl hV)
      refine ih _ hV2 ((hT.u (Or.inr (Or.inl rfl))).u7 (by have := hT.2; grind)) (Or.inl ?_) ?_
      · rw [upd_r, if_pos rfl]; have := hT.2; grind
      · rw [upd_r, if_pos rfl]; exact lt1 (mu_lt (Int32.not_le.mpr hd)) hm
    exact ⟨fun _ => ⟨vI (c := 500) rfl b7.1 (by grind), nx _⟩, fun _ => nx _⟩
theorem tk_234 (hK : ∀ f' : Nat → Int32, V w h f0 g0 f' g → TK a f' → K (f', g)) {f : Nat → Int32} {v : Int32} (hV : V w h f0 g0 f g) (hT : TA a f) (h7 : a 7 < f 7) (h10 : 0 ≤ f 10 ∧ f 10 ≤ 500) : wpX11_take_b207 f g v K := by
  have b7 := hV.b7
  have b6 := hV.b6
  unfold wpX11_take_b207 wpX11_take_b234
  refine ⟨fun _ => tk_407 hK (Vf (k := 8) rfl hV) (hT.u (Or.inl rfl)) ?_, fun _ => ?_⟩
  · rw [upd_r, if_neg (by decide)]; exact h7
  · refine s_X11_packed (Vf (k := 8) rfl hV) h10 (by grind) (fun r => ?_)
    refine tk_407 hK (Vf (k := 9) rfl (Vf (k := 8) rfl hV)) ((hT.u (Or.inl rfl)).u (Or.inr (Or.inl rfl))) ?_
    dsimp only
    rw [upd_r, if_neg (by decide), upd_r, if_neg (by decide)]; exact h7
theorem tk_171 (hK : ∀ f' : Nat → Int32, V w h f0 g0 f' g → TK a f' → K (f', g)) {f : Nat → Int32} {v : Int32} (hV : V w h f0 g0 f g) (hT : TA a f) (h7 : a 7 < f 7) (h10 : 0 ≤ f 10 ∧ f 10 ≤ 500) : wpX11_take_b171 f g v K := by
  unfold wpX11_take_b171 wpX11_take_b206
  have q : ∀ v, wpX11_take_b207 f g v K := fun v => tk_234 hK hV hT h7 h10
  exact ⟨fun _ => ⟨fun _ => q _, fun _ => ⟨fun _ => q _, fun _ => q _⟩⟩, fun _ => q _⟩
theorem tk_90 (hK : ∀ f' : Nat → Int32, V w h f0 g0 f' g → TK a f' → K (f', g)) (n : Nat) : ∀ f : Nat → Int32, V w h f0 g0 f g → TA a f → (a 7 < f 7 ∨ SM f g (f 7)) → (0 ≤ f 10 ∧ f 10 ≤ f 7) → mu (f 7) < n → wpX11_take_b90 n f g K := by
  induction n with
  | zero => intro f _ _ _ _ hm; exact absurd hm (Nat.not_lt_zero _)
  | succ n ih =>
    intro f hV hT h7 h10 hm
    have b7 := hV.b7
    have b6 := hV.b6
    unfold wpX11_take_b90 wpX11_take_b90_body
    refine s_X11_isSmall hV b7.1 (fun r hb h0 h1 => ⟨fun c => ?_, fun c => ?_⟩)
    · have hlt := h7.resolve_right (h0 c)
      refine s_X11_wordAt hV ⟨h10.1, h10.2, by dsimp only; grind⟩ (fun r1 => ?_)
      dsimp only
      have q : ∀ v, wpX11_take_b171 (upd f 9 r1) g v K := fun v => tk_171 hK (Vf (k := 9) rfl hV) (hT.u (Or.inr (Or.inl rfl))) (by rw [upd_r, if_neg (by decide)]; exact hlt) (by rw [upd_r, if_neg (by decide)]; grind)
      unfold wpX11_take_b170 wpX11_take_b166
      refine ⟨fun _ => q _, fun _ => ⟨fun _ => ⟨fun _ => q _, fun _ => q _⟩, fun _ => ?_⟩⟩
      exact s_X11_isOfNet (fun r2 _ => ⟨fun _ => q _, fun _ => q _⟩)
    · have hd := (h1 c).1
      dsimp only
      refine ih _ (Vu7 (by grind) hV) (hT.u7 (by have := hT.2; grind)) (Or.inl ?_) ?_ ?_
      · rw [upd_r, if_pos rfl]; have := hT.2; grind
      · rw [upd_r, if_neg (by decide), upd_r, if_pos rfl]; grind
      · rw [upd_r, if_pos rfl]; exact lt1 (mu_lt (Int32.not_le.mpr hd)) hm
theorem tk_52 (hK : ∀ f' : Nat → Int32, V w h f0 g0 f' g → TK a f' → K (f', g)) {f : Nat → Int32} (hV : V w h f0 g0 f g) (hT : TA a f) : wpX11_take_b52 f g K := by
  have b7 := hV.b7
  have b6 := hV.b6
  have hV1 : V w h f0 g0 (upd f 10 (f 7)) g := Vf (k := 10) rfl hV
  have hT1 : TA a (upd f 10 (f 7)) := hT.u (Or.inr (Or.inr rfl))
  have e7 : (upd f 10 (f 7)) 7 = f 7 := by rw [upd_r, if_neg (by decide)]
  have e6 : (upd f 10 (f 7)) 6 = f 6 := by rw [upd_r, if_neg (by decide)]
  have e10 : (upd f 10 (f 7)) 10 = f 7 := by rw [upd_r, if_pos rfl]
  unfold wpX11_take_b52
  refine ⟨fun c => ?_, fun c => ?_⟩
  · refine s_X11_isSmall hV1 b7.1 (fun r hb h0 h1 => ⟨fun c1 => ?_, fun c1 => ?_⟩)
    · refine s_X11_isDigit hV1 (by dsimp only; rw [e7]; exact b7.1) (fun r2 hb2 h2 h3 => ⟨fun c2 => ?_, fun c2 => ?_⟩)
      · dsimp only
        rw [e7]
        have fin : ∀ v1 v2 : Int32, wpX11_take_b394 (upd (upd f 10 (f 7)) 9 v1) g v2 K := fun v1 v2 => by
          unfold wpX11_take_b394
          have hV2 : V w h f0 g0 (upd (upd (upd f 10 (f 7)) 9 v1) 8 v2) g := Vf (k := 8) rfl (Vf (k := 9) rfl hV1)
          have e7' : (upd (upd f 10 (f 7)) 9 v1) 7 = f 7 := by rw [upd_r, if_neg (by decide), e7]
          rw [e7']
          refine tk_407 hK (Vu7 ?_ hV2) (((hT1.u (Or.inr (Or.inl rfl))).u (Or.inl rfl)).u7 (by have := hT.2; grind)) ?_
          · rw [upd_r, if_neg (by decide), upd_r, if_neg (by decide), e6]; grind
          · rw [upd_r, if_pos rfl]; have := hT.2; grind
        have q : ∀ v1 v2, wpX11_take_b374 (upd (upd f 10 (f 7)) 9 v1) g v2 K := fun v1 v2 => by
          unfold wpX11_take_b374 wpX11_take_b389
          exact ⟨fun _ => fin _ _, fun _ => ⟨fun _ => fin _ _, fun _ => fin _ _⟩⟩
        unfold wpX11_take_b373 wpX11_take_b369
        exact ⟨vI (c := 500) rfl b7.1 (by grind), fun _ => q _ _, fun _ => ⟨fun _ => q _ _, fun _ => ⟨fun _ => q _ _, fun _ => ⟨fun _ => q _ _, fun _ => q _ _⟩⟩⟩⟩
      · dsimp only
        have hd : DG (upd f 10 (f 7)) g (f 7) := by have := h3 c2; dsimp only at this; rw [e7] at this; exact this
        refine ⟨_, tk_258 hK _ _ (Vf (k := 9) rfl (Vf (k := 8) rfl hV1)) ((hT1.u (Or.inl rfl)).u (Or.inr (Or.inl rfl))) (Or.inr ?_) (Nat.lt_succ_self _)⟩
        have e : (upd (upd (upd f 10 (f 7)) 8 3) 9 0) 7 = f 7 := by rw [upd_r, if_neg (by decide), upd_r, if_neg (by decide), e7]
        rw [e]
        exact ⟨by rw [upd_r, if_neg (by decide), upd_r, if_neg (by decide)]; exact hd.1, hd.2⟩
    · dsimp only
      refine ⟨_, tk_90 hK _ _ hV1 hT1 (Or.inr ?_) ?_ (Nat.lt_succ_self _)⟩
      · rw [e7]; exact h1 c1
      · rw [e10, e7]; grind
  · unfold wpX11_take_b407
    refine hK _ (Vf (k := 8) rfl hV1) ⟨(hT1.u (Or.inl rfl)).1, (hT1.u (Or.inl rfl)).2, Or.inl ?_⟩
    rw [upd_r, if_pos rfl]
theorem tk_0 (hK : ∀ f' : Nat → Int32, V w h f0 g0 f' g → TK a f' → K (f', g)) (n : Nat) : ∀ f : Nat → Int32, V w h f0 g0 f g → TA a f → mu (f 7) < n → wpX11_take_b0 n f g K := by
  induction n with
  | zero => intro f _ _ hm; exact absurd hm (Nat.not_lt_zero _)
  | succ n ih =>
    intro f hV hT hm
    have b7 := hV.b7
    have b6 := hV.b6
    unfold wpX11_take_b0 wpX11_take_b0_body
    refine ⟨fun _ => tk_52 hK hV hT, fun c => ?_⟩
    have v : vp_in (f 7) 500 := vI (c := 500) rfl b7.1 (by grind)
    have nx : wpX11_take_b39 (fun f g => wpX11_take_b0 n f g K) f g K := by
      unfold wpX11_take_b39
      refine ih _ (Vu7 (by grind) hV) (hT.u7 (by have := hT.2; grind)) ?_
      rw [upd_r, if_pos rfl]; exact lt1 (mu_lt c) hm
    exact ⟨v, fun _ => nx, fun _ => ⟨v, fun _ => tk_52 hK hV hT, fun _ => nx⟩⟩
theorem s_X11_take {f : Nat → Int32} (hV : V w h f0 g0 f g) (hK : ∀ f' : Nat → Int32, V w h f0 g0 f' g → TK f f' → K (f', g)) : wpX11_take f g K := by
  unfold wpX11_take
  exact ⟨_, tk_0 hK _ _ hV ⟨fun _ _ _ _ _ => rfl, Int32.le_refl _⟩ (Nat.lt_succ_self _)⟩
end TKS
