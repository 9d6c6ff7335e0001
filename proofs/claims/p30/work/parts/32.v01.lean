set_option maxHeartbeats 1000000 in
theorem s_X11_isKey {w h : Nat} {f0 : Nat → Int32} {g0 : Nat → Nat → Int32} {f : Nat → Int32} {g : Nat → Nat → Int32} {x1 : Int32} {K : Int32 → ((Nat → Int32) × (Nat → Nat → Int32)) → Prop} (hV : V w h f0 g0 f g) (hK : ∀ v : Int32, isB v → (v = 0 ∨ (f 8 = 1 ∧ f 9 = x1)) → K v (f, g)) : wpX11_isKey f g x1 K := by
  unfold wpX11_isKey
  unfold wpX11_isKey_b0
  refine ⟨fun c0 => ?_, fun c0 => ?_⟩
  · unfold wpX11_isKey_b20
    unfold wpX11_isKey_b21
    refine ⟨(by first | exact Or.inl rfl | exact Or.inr rfl | assumption), ?_⟩
    exact hK _ (by first | exact Or.inl rfl | exact Or.inr rfl | assumption) (by first | assumption | grind | (simp [pt_r, upd_r] <;> grind))
  · refine ⟨fun c1 => ?_, fun c1 => ?_⟩
    · unfold wpX11_isKey_b20
      unfold wpX11_isKey_b21
      refine ⟨(by first | exact Or.inl rfl | exact Or.inr rfl | assumption), ?_⟩
      exact hK _ (by first | exact Or.inl rfl | exact Or.inr rfl | assumption) (by first | assumption | grind | (simp [pt_r, upd_r] <;> grind))
    · unfold wpX11_isKey_b21
      refine ⟨(by first | exact Or.inl rfl | exact Or.inr rfl | assumption), ?_⟩
      exact hK _ (by first | exact Or.inl rfl | exact Or.inr rfl | assumption) (by first | assumption | grind | (simp [pt_r, upd_r] <;> grind))
set_option maxHeartbeats 1000000 in
theorem s_X11_isSign {w h : Nat} {f0 : Nat → Int32} {g0 : Nat → Nat → Int32} {f : Nat → Int32} {g : Nat → Nat → Int32} {x1 : Int32} {K : Int32 → ((Nat → Int32) × (Nat → Nat → Int32)) → Prop} (hV : V w h f0 g0 f g) (hK : ∀ v : Int32, isB v → (v = 0 ∨ (f 8 = 4 ∧ f 9 = x1)) → K v (f, g)) : wpX11_isSign f g x1 K := by
  unfold wpX11_isSign
  unfold wpX11_isSign_b0
  refine ⟨fun c0 => ?_, fun c0 => ?_⟩
  · unfold wpX11_isSign_b20
    unfold wpX11_isSign_b21
    refine ⟨(by first | exact Or.inl rfl | exact Or.inr rfl | assumption), ?_⟩
    exact hK _ (by first | exact Or.inl rfl | exact Or.inr rfl | assumption) (by first | assumption | grind | (simp [pt_r, upd_r] <;> grind))
  · refine ⟨fun c1 => ?_, fun c1 => ?_⟩
    · unfold wpX11_isSign_b20
      unfold wpX11_isSign_b21
      refine ⟨(by first | exact Or.inl rfl | exact Or.inr rfl | assumption), ?_⟩
      exact hK _ (by first | exact Or.inl rfl | exact Or.inr rfl | assumption) (by first | assumption | grind | (simp [pt_r, upd_r] <;> grind))
    · unfold wpX11_isSign_b21
      refine ⟨(by first | exact Or.inl rfl | exact Or.inr rfl | assumption), ?_⟩
      exact hK _ (by first | exact Or.inl rfl | exact Or.inr rfl | assumption) (by first | assumption | grind | (simp [pt_r, upd_r] <;> grind))
theorem s_X11_signRead {w h : Nat} {f0 : Nat → Int32} {g0 : Nat → Nat → Int32} {f : Nat → Int32} {g : Nat → Nat → Int32} {x1 : Int32} {K : Int32 → mS → Prop} (hV : V w h f0 g0 f g) (h1 : ∀ f' : Nat → Int32, V w h f0 g0 f' g → TK f f' → K 1 (f', g)) (h0 : ∀ u : mS, V w h f0 g0 u.1 u.2 → K 0 u) : wpX11_signRead f g x1 K := by
  unfold wpX11_signRead wpX11_signRead_b0
  refine s_X11_isSign hV (fun r _ hp => ⟨fun _ => ?_, fun _ => s_X11_wrong hV (fun v f' hV' hb hv _ => ⟨hb, by rw [hv]; exact h0 _ hV'⟩)⟩)
  exact s_X11_take hV (fun f' hV' hT => h1 f' hV' hT)
theorem V_st {w h : Nat} {f0 : Nat → Int32} {g0 : Nat → Nat → Int32} {f : Nat → Int32} {g : Nat → Nat → Int32} {x1 x2 : Int32} (hV : V w h f0 g0 f g) (hx : 0 ≤ x1 ∧ x1 ≤ 500) : V w h f0 g0 (upd (upd (upd (upd (upd (upd f 6 x1) 1 0) 4 0) 5 (-1)) 7 0) 11 x2) g := by
  have ex : ∀ j, (upd (upd (upd (upd (upd (upd f 6 x1) 1 0) 4 0) 5 (-1)) 7 0) 11 x2) j = if j = 11 then x2 else if j = 7 then 0 else if j = 5 then -1 else if j = 4 then 0 else if j = 1 then 0 else if j = 6 then x1 else f j := fun j => by simp only [upd_r]
  refine ⟨⟨fun j => ?_, hV.1.2.1, ?_, hV.1.2.2.2⟩, ⟨⟨?_, ?_, ?_⟩, hV.2.1.2⟩, hV.2.2.1, ?_⟩
  · rw [ex]
    by_cases h11 : j = 11
    · subst h11; exact fb_f rfl
    · rw [if_neg h11]
      by_cases h7 : j = 7
      · subst h7; rw [if_pos rfl]; exact ⟨fun e => absurd e (by decide), fun e => absurd e (by decide), fun _ => by decide, fun e => absurd e (by decide), fun e => absurd e (by decide), fun e => absurd e (by decide), fun e => absurd e (by decide), fun e => absurd e (by decide), fun e => absurd e (by decide)⟩
      · rw [if_neg h7]
        by_cases h5 : j = 5
        · subst h5; exact fb_f rfl
        · rw [if_neg h5]
          by_cases h4 : j = 4
          · subst h4; exact fb_f rfl
          · rw [if_neg h4]
            by_cases h1 : j = 1
            · subst h1; rw [if_pos rfl]; exact ⟨fun _ => by decide, fun e => absurd e (by decide), fun e => absurd e (by decide), fun e => absurd e (by decide), fun e => absurd e (by decide), fun e => absurd e (by decide), fun e => absurd e (by decide), fun e => absurd e (by decide), fun e => absurd e (by decide)⟩
            · rw [if_neg h1]
              by_cases h6 : j = 6
              · subst h6; rw [if_pos rfl]; exact ⟨fun e => absurd e (by decide), fun _ => hx, fun e => absurd e (by decide), fun e => absurd e (by decide), fun e => absurd e (by decide), fun e => absurd e (by decide), fun e => absurd e (by decide), fun e => absurd e (by decide), fun e => absurd e (by decide)⟩
              · rw [if_neg h6]; exact hV.1.1 j
  · rw [ex, ex]; exact hx.1
  · rw [ex]; exact hV.2.1.1.1
  · rw [ex]; exact hV.2.1.1.2.1
  · rw [ex]; exact hV.2.1.1.2.2
  · rw [ex]; exact hV.2.2.2
theorem s_X11_starts {w h : Nat} {f0 : Nat → Int32} {g0 : Nat → Nat → Int32} {f : Nat → Int32} {g : Nat → Nat → Int32} {x1 x2 : Int32} {K : Int32 → mS → Prop} (hV : V w h f0 g0 f g) (h2 : isB x2) (hK : ∀ v : Int32, ∀ u : mS, V w h f0 g0 u.1 u.2 → isB v → K v u) : wpX11_starts f g x1 x2 K := by
  have b1 := hV.b1
  unfold wpX11_starts wpX11_starts_b0 wpX11_starts_b12
  refine ⟨fun _ => hK _ _ hV (Or.inl rfl), fun c => ⟨fun c1 => ⟨h2, ?_⟩, fun _ => hK _ _ hV (Or.inl rfl)⟩⟩
  exact s_X11_take (V_st hV (by grind)) (fun f' hV' _ => hK _ _ hV' (Or.inr rfl))
set_option maxHeartbeats 1000000 in
theorem s_X11_numberRead {w h : Nat} {f0 : Nat → Int32} {g0 : Nat → Nat → Int32} {f : Nat → Int32} {g : Nat → Nat → Int32} {x1 : Int32} {K : Int32 → ((Nat → Int32) × (Nat → Nat → Int32)) → Prop} (hV : V w h f0 g0 f g) (hK : ∀ v : Int32, ∀ f' : Nat → Int32, V w h f0 g0 f' g → isB v → (∀ k, k ≠ 4 → k ≠ 5 → f' k = f k) → K v (f', g)) : wpX11_numberRead f g x1 K := by
  unfold wpX11_numberRead
  unfold wpX11_numberRead_b0
  refine ⟨fun c0 => ?_, fun c0 => ?_⟩
  · refine ⟨fun c1 => ?_, fun c1 => ?_⟩
    · unfold wpX11_numberRead_b30
      unfold wpX11_numberRead_b35
      refine ⟨(by first | exact Or.inl rfl | exact Or.inr rfl | assumption), ?_⟩
      exact hK _ _ hV (by first | exact Or.inl rfl | exact Or.inr rfl | assumption) (by intro k h4 h5; first | rfl | (simp only [upd_r, h4, h5, if_false]; done) | (simp [upd_r, *]; done) | grind)
    · refine s_X11_wrong hV (fun r24 f24 hV24 hb24 hp24 hk24 => ?_)
      try dsimp only
      refine ⟨fun c2 => ?_, fun c2 => ?_⟩
      · unfold wpX11_numberRead_b35
        refine ⟨(by first | exact Or.inl rfl | exact Or.inr rfl | assumption), ?_⟩
        exact hK _ _ hV24 (by first | exact Or.inl rfl | exact Or.inr rfl | assumption) (by intro k h4 h5; first | rfl | (simp only [upd_r, h4, h5, if_false]; done) | (simp [upd_r, *]; done) | grind)
      · unfold wpX11_numberRead_b30
        unfold wpX11_numberRead_b35
        refine ⟨(by first | exact Or.inl rfl | exact Or.inr rfl | assumption), ?_⟩
        exact hK _ _ hV24 (by first | exact Or.inl rfl | exact Or.inr rfl | assumption) (by intro k h4 h5; first | rfl | (simp only [upd_r, h4, h5, if_false]; done) | (simp [upd_r, *]; done) | grind)
  · refine s_X11_wrong hV (fun r10 f10 hV10 hb10 hp10 hk10 => ?_)
    try dsimp only
    refine ⟨(by first | exact Or.inl rfl | exact Or.inr rfl | assumption), ?_⟩
    exact hK _ _ hV10 (by first | exact Or.inl rfl | exact Or.inr rfl | assumption) (by intro k h4 h5; first | rfl | (simp only [upd_r, h4, h5, if_false]; done) | (simp [upd_r, *]; done) | grind)
set_option maxHeartbeats 1000000 in
theorem l_X11_testRead_b208 {w h : Nat} {f0 : Nat → Int32} {g0 : Nat → Nat → Int32} {y1 t1 : Int32} {K : Int32 → ((Nat → Int32) × (Nat → Nat → Int32)) → Prop} (hK : ∀ v : Int32, ∀ u : mS, V w h f0 g0 u.1 u.2 → isB v → (v = 0 ∨ u.2 13 (ix y1) = t1 + 1) → K v u) (n : Nat) : ∀ (f : Nat → Int32) (g : Nat → Nat → Int32) (x1 : Int32) (x3 : Int32) (x4 : Int32) (x5 : Int32) (x6 : Int32), V w h f0 g0 f g → 0 ≤ x6 → 0 ≤ x1 ∧ x1 < 60 → 0 ≤ x3 ∧ x3 < 720 → 0 ≤ g 13 (ix x1) ∧ g 13 (ix x1) < 12 → x1 = y1 → g 13 (ix x1) = t1 → mu (x6) < n → wpX11_testRead_b208 n f g x1 x3 x4 x5 x6 K := by
  induction n with
  | zero => intro f g x1 x3 x4 x5 x6 hV hi0 hi1 hi2 hi3 hi4 hi5 hm; exact absurd hm (Nat.not_lt_zero _)
  | succ n ih =>
    intro f g x1 x3 x4 x5 x6 hV hi0 hi1 hi2 hi3 hi4 hi5 hm
    have e13_i := hV.g13 (i := ix x1)
    unfold wpX11_testRead_b208 wpX11_testRead_b208_body
    refine ⟨fun c0 => ?_, fun c0 => ?_⟩
    · refine ⟨vI (c := 60) rfl (by first | assumption | grind | (simp [pt_r, upd_r] <;> grind)) (by first | assumption | grind | (simp [pt_r, upd_r] <;> grind)), ?_⟩
      refine ⟨vI (c := 60) rfl (by first | assumption | grind | (simp [pt_r, upd_r] <;> grind)) (by first | assumption | grind | (simp [pt_r, upd_r] <;> grind)), ?_⟩
      exact hK _ _ (Vg13 (by first | assumption | grind | (simp [pt_r, upd_r] <;> grind)) hV) (by first | exact Or.inl rfl | exact Or.inr rfl | assumption) (by first | assumption | grind | (simp [pt_r, upd_r] <;> grind))
    · refine ⟨vI (c := 720) rfl (by first | assumption | grind | (simp [pt_r, upd_r] <;> grind)) (by first | assumption | grind | (simp [pt_r, upd_r] <;> grind)), ?_⟩
      refine ⟨fun c1 => ?_, fun c1 => ?_⟩
      · unfold wpX11_testRead_b257
        exact ih _ _ _ _ _ _ _ hV (by first | assumption | grind | (simp [pt_r, upd_r] <;> grind)) (by first | assumption | grind | (simp [pt_r, upd_r] <;> grind)) (by first | assumption | grind | (simp [pt_r, upd_r] <;> grind)) (by first | assumption | grind | (simp [pt_r, upd_r] <;> grind)) (by first | assumption | grind | (simp [pt_r, upd_r] <;> grind)) (by first | assumption | grind | (simp [pt_r, upd_r] <;> grind)) (lt1 (mu_lt c0) hm)
      · refine ⟨vI (c := 720) rfl (by first | assumption | grind | (simp [pt_r, upd_r] <;> grind)) (by first | assumption | grind | (simp [pt_r, upd_r] <;> grind)), ?_⟩
        refine ⟨vI (c := 720) rfl (by first | assumption | grind | (simp [pt_r, upd_r] <;> grind)) (by first | assumption | grind | (simp [pt_r, upd_r] <;> grind)), ?_⟩
        refine ⟨fun c2 => ?_, fun c2 => ?_⟩
        · refine s_X11_wrong (Vf (k := 10) rfl hV) (fun r253 f253 hV253 hb253 hp253 hk253 => ?_)
          try dsimp only
          have e13_253 := hV253.g13 (i := ix x1)
          refine ⟨(by first | exact Or.inl rfl | exact Or.inr rfl | assumption), ?_⟩
          exact hK _ _ hV253 (by first | exact Or.inl rfl | exact Or.inr rfl | assumption) (by first | assumption | grind | (simp [pt_r, upd_r] <;> grind))
        · unfold wpX11_testRead_b257
          exact ih _ _ _ _ _ _ _ hV (by first | assumption | grind | (simp [pt_r, upd_r] <;> grind)) (by first | assumption | grind | (simp [pt_r, upd_r] <;> grind)) (by first | assumption | grind | (simp [pt_r, upd_r] <;> grind)) (by first | assumption | grind | (simp [pt_r, upd_r] <;> grind)) (by first | assumption | grind | (simp [pt_r, upd_r] <;> grind)) (by first | assumption | grind | (simp [pt_r, upd_r] <;> grind)) (lt1 (mu_lt c0) hm)
set_option maxHeartbeats 1000000 in
theorem s_X11_testRead {w h : Nat} {f0 : Nat → Int32} {g0 : Nat → Nat → Int32} {f : Nat → Int32} {g : Nat → Nat → Int32} {x1 : Int32} {K : Int32 → ((Nat → Int32) × (Nat → Nat → Int32)) → Prop} (hV : V w h f0 g0 f g) (hp : 0 ≤ x1 ∧ x1 < 60) (hK : ∀ v : Int32, ∀ u : mS, V w h f0 g0 u.1 u.2 → isB v → (v = 0 ∨ u.2 13 (ix x1) = g 13 (ix x1) + 1) → K v u) : wpX11_testRead f g x1 K := by
  have e13_i := hV.g13 (i := ix x1)
  unfold wpX11_testRead
  unfold wpX11_testRead_b0
  refine s_X11_isKey hV (fun r2 hb2 hp2 => ?_)
  try dsimp only
  refine ⟨fun c0 => ?_, fun c0 => ?_⟩
  · unfold wpX11_testRead_b41
    refine ⟨vI (c := 60) rfl (by first | assumption | grind | (simp [pt_r, upd_r] <;> grind)) (by first | assumption | grind | (simp [pt_r, upd_r] <;> grind)), ?_⟩
    refine ⟨fun c1 => ?_, fun c1 => ?_⟩
    · refine ⟨fun c2 => ?_, fun c2 => ?_⟩
      · unfold wpX11_testRead_b66
        refine ⟨fun c3 => ?_, fun c3 => ?_⟩
        · unfold wpX11_testRead_b91
          refine s_X11_wrong hV (fun r93 f93 hV93 hb93 hp93 hk93 => ?_)
          try dsimp only
          have e13_93 := hV93.g13 (i := ix x1)
          refine ⟨(by first | exact Or.inl rfl | exact Or.inr rfl | assumption), ?_⟩
          exact hK _ _ hV93 (by first | exact Or.inl rfl | exact Or.inr rfl | assumption) (by first | assumption | grind | (simp [pt_r, upd_r] <;> grind))
        · refine ⟨fun c4 => ?_, fun c4 => ?_⟩
          · unfold wpX11_testRead_b91
            refine s_X11_wrong hV (fun r93 f93 hV93 hb93 hp93 hk93 => ?_)
            try dsimp only
            have e13_93 := hV93.g13 (i := ix x1)
            refine ⟨(by first | exact Or.inl rfl | exact Or.inr rfl | assumption), ?_⟩
            exact hK _ _ hV93 (by first | exact Or.inl rfl | exact Or.inr rfl | assumption) (by first | assumption | grind | (simp [pt_r, upd_r] <;> grind))
          · refine ⟨fun c5 => ?_, fun c5 => ?_⟩
            · refine ⟨vI (c := 60) rfl (by first | assumption | grind | (simp [pt_r, upd_r] <;> grind)) (by first | assumption | grind | (simp [pt_r, upd_r] <;> grind)), ?_⟩
              refine ⟨vI (c := 720) rfl (by first | assumption | grind | (simp [pt_r, upd_r] <;> grind)) (by first | assumption | grind | (simp [pt_r, upd_r] <;> grind)), ?_⟩
              refine ⟨vI (c := 720) rfl (by first | assumption | grind | (simp [pt_r, upd_r] <;> grind)) (by first | assumption | grind | (simp [pt_r, upd_r] <;> grind)), ?_⟩
              refine ⟨vI (c := 720) rfl (by first | assumption | grind | (simp [pt_r, upd_r] <;> grind)) (by first | assumption | grind | (simp [pt_r, upd_r] <;> grind)), ?_⟩
              refine s_X11_take (Vg (k := 16) rfl (Vg (k := 17) rfl (Vg (k := 15) rfl hV))) (fun f144 hV144 hk144 => ?_)
              try dsimp only
              have e13_144 := hV144.g13 (i := ix x1)
              refine ⟨fun c6 => ?_, fun c6 => ?_⟩
              · unfold wpX11_testRead_b202
                exact ⟨_, l_X11_testRead_b208 hK _ _ _ _ _ _ _ _ hV144 (by first | assumption | grind | (simp [pt_r, upd_r] <;> grind)) (by first | assumption | grind | (simp [pt_r, upd_r] <;> grind)) (by first | assumption | grind | (simp [pt_r, upd_r] <;> grind)) (by first | assumption | grind | (simp [pt_r, upd_r] <;> grind)) (by first | assumption | grind | (simp [pt_r, upd_r] <;> grind)) (by first | assumption | grind | (simp [pt_r, upd_r] <;> grind)) (Nat.lt_succ_self _)⟩
              · refine ⟨fun c7 => ?_, fun c7 => ?_⟩
                · refine ⟨fun c8 => ?_, fun c8 => ?_⟩
                  · unfold wpX11_testRead_b180
                    refine s_X11_numberRead hV144 (fun r180 f180 hV180 hb180 hk180 => ?_)
                    try dsimp only
                    have e13_180 := hV180.g13 (i := ix x1)
                    refine ⟨fun c9 => ?_, fun c9 => ?_⟩
                    · refine ⟨vI (c := 720) rfl (by first | assumption | grind | (simp [pt_r, upd_r] <;> grind)) (by first | assumption | grind | (simp [pt_r, upd_r] <;> grind)), ?_⟩
                      refine s_X11_take (Vg (k := 16) rfl hV180) (fun f199 hV199 hk199 => ?_)
                      try dsimp only
                      have e13_199 := hV199.g13 (i := ix x1)
                      unfold wpX11_testRead_b202
                      exact ⟨_, l_X11_testRead_b208 hK _ _ _ _ _ _ _ _ hV199 (by first | assumption | grind | (simp [pt_r, upd_r] <;> grind)) (by first | assumption | grind | (simp [pt_r, upd_r] <;> grind)) (by first | assumption | grind | (simp [pt_r, upd_r] <;> grind)) (by first | assumption | grind | (simp [pt_r, upd_r] <;> grind)) (by first | assumption | grind | (simp [pt_r, upd_r] <;> grind)) (by first | assumption | grind | (simp [pt_r, upd_r] <;> grind)) (Nat.lt_succ_self _)⟩
                    · exact hK _ _ hV180 (by first | exact Or.inl rfl | exact Or.inr rfl | assumption) (by first | assumption | grind | (simp [pt_r, upd_r] <;> grind))
                  · unfold wpX11_testRead_b180
                    refine s_X11_numberRead hV144 (fun r180 f180 hV180 hb180 hk180 => ?_)
                    try dsimp only
                    have e13_180 := hV180.g13 (i := ix x1)
                    refine ⟨fun c9 => ?_, fun c9 => ?_⟩
                    · refine ⟨vI (c := 720) rfl (by first | assumption | grind | (simp [pt_r, upd_r] <;> grind)) (by first | assumption | grind | (simp [pt_r, upd_r] <;> grind)), ?_⟩
                      refine s_X11_take (Vg (k := 16) rfl hV180) (fun f199 hV199 hk199 => ?_)
                      try dsimp only
                      have e13_199 := hV199.g13 (i := ix x1)
                      unfold wpX11_testRead_b202
                      exact ⟨_, l_X11_testRead_b208 hK _ _ _ _ _ _ _ _ hV199 (by first | assumption | grind | (simp [pt_r, upd_r] <;> grind)) (by first | assumption | grind | (simp [pt_r, upd_r] <;> grind)) (by first | assumption | grind | (simp [pt_r, upd_r] <;> grind)) (by first | assumption | grind | (simp [pt_r, upd_r] <;> grind)) (by first | assumption | grind | (simp [pt_r, upd_r] <;> grind)) (by first | assumption | grind | (simp [pt_r, upd_r] <;> grind)) (Nat.lt_succ_self _)⟩
                    · exact hK _ _ hV180 (by first | exact Or.inl rfl | exact Or.inr rfl | assumption) (by first | assumption | grind | (simp [pt_r, upd_r] <;> grind))
                · unfold wpX11_testRead_b180
                  refine s_X11_numberRead hV144 (fun r180 f180 hV180 hb180 hk180 => ?_)
                  try dsimp only
                  have e13_180 := hV180.g13 (i := ix x1)
                  refine ⟨fun c8 => ?_, fun c8 => ?_⟩
                  · refine ⟨vI (c := 720) rfl (by first | assumption | grind | (simp [pt_r, upd_r] <;> grind)) (by first | assumption | grind | (simp [pt_r, upd_r] <;> grind)), ?_⟩
                    refine s_X11_take (Vg (k := 16) rfl hV180) (fun f199 hV199 hk199 => ?_)
                    try dsimp only
                    have e13_199 := hV199.g13 (i := ix x1)
                    unfold wpX11_testRead_b202
                    exact ⟨_, l_X11_testRead_b208 hK _ _ _ _ _ _ _ _ hV199 (by first | assumption | grind | (simp [pt_r, upd_r] <;> grind)) (by first | assumption | grind | (simp [pt_r, upd_r] <;> grind)) (by first | assumption | grind | (simp [pt_r, upd_r] <;> grind)) (by first | assumption | grind | (simp [pt_r, upd_r] <;> grind)) (by first | assumption | grind | (simp [pt_r, upd_r] <;> grind)) (by first | assumption | grind | (simp [pt_r, upd_r] <;> grind)) (Nat.lt_succ_self _)⟩
                  · exact hK _ _ hV180 (by first | exact Or.inl rfl | exact Or.inr rfl | assumption) (by first | assumption | grind | (simp [pt_r, upd_r] <;> grind))
            · unfold wpX11_testRead_b91
              refine s_X11_wrong hV (fun r93 f93 hV93 hb93 hp93 hk93 => ?_)
              try dsimp only
              have e13_93 := hV93.g13 (i := ix x1)
              refine ⟨(by first | exact Or.inl rfl | exact Or.inr rfl | assumption), ?_⟩
              exact hK _ _ hV93 (by first | exact Or.inl rfl | exact Or.inr rfl | assumption) (by first | assumption | grind | (simp [pt_r, upd_r] <;> grind))
      · refine s_X11_take hV (fun f63 hV63 hk63 => ?_)
        try dsimp only
        have e13_63 := hV63.g13 (i := ix x1)
        unfold wpX11_testRead_b66
        refine ⟨fun c3 => ?_, fun c3 => ?_⟩
        · unfold wpX11_testRead_b91
          refine s_X11_wrong hV63 (fun r93 f93 hV93 hb93 hp93 hk93 => ?_)
          try dsimp only
          have e13_93 := hV93.g13 (i := ix x1)
          refine ⟨(by first | exact Or.inl rfl | exact Or.inr rfl | assumption), ?_⟩
          exact hK _ _ hV93 (by first | exact Or.inl rfl | exact Or.inr rfl | assumption) (by first | assumption | grind | (simp [pt_r, upd_r] <;> grind))
        · refine ⟨fun c4 => ?_, fun c4 => ?_⟩
          · unfold wpX11_testRead_b91
            refine s_X11_wrong hV63 (fun r93 f93 hV93 hb93 hp93 hk93 => ?_)
            try dsimp only
            have e13_93 := hV93.g13 (i := ix x1)
            refine ⟨(by first | exact Or.inl rfl | exact Or.inr rfl | assumption), ?_⟩
            exact hK _ _ hV93 (by first | exact Or.inl rfl | exact Or.inr rfl | assumption) (by first | assumption | grind | (simp [pt_r, upd_r] <;> grind))
          · refine ⟨fun c5 => ?_, fun c5 => ?_⟩
            · refine ⟨vI (c := 60) rfl (by first | assumption | grind | (simp [pt_r, upd_r] <;> grind)) (by first | assumption | grind | (simp [pt_r, upd_r] <;> grind)), ?_⟩
              refine ⟨vI (c := 720) rfl (by first | assumption | grind | (simp [pt_r, upd_r] <;> grind)) (by first | assumption | grind | (simp [pt_r, upd_r] <;> grind)), ?_⟩
              refine ⟨vI (c := 720) rfl (by first | assumption | grind | (simp [pt_r, upd_r] <;> grind)) (by first | assumption | grind | (simp [pt_r, upd_r] <;> grind)), ?_⟩
              refine ⟨vI (c := 720) rfl (by first | assumption | grind | (simp [pt_r, upd_r] <;> grind)) (by first | assumption | grind | (simp [pt_r, upd_r] <;> grind)), ?_⟩
              refine s_X11_take (Vg (k := 16) rfl (Vg (k := 17) rfl (Vg (k := 15) rfl hV63))) (fun f144 hV144 hk144 => ?_)
              try dsimp only
              have e13_144 := hV144.g13 (i := ix x1)
              refine ⟨fun c6 => ?_, fun c6 => ?_⟩
              · unfold wpX11_testRead_b202
                exact ⟨_, l_X11_testRead_b208 hK _ _ _ _ _ _ _ _ hV144 (by first | assumption | grind | (simp [pt_r, upd_r] <;> grind)) (by first | assumption | grind | (simp [pt_r, upd_r] <;> grind)) (by first | assumption | grind | (simp [pt_r, upd_r] <;> grind)) (by first | assumption | grind | (simp [pt_r, upd_r] <;> grind)) (by first | assumption | grind | (simp [pt_r, upd_r] <;> grind)) (by first | assumption | grind | (simp [pt_r, upd_r] <;> grind)) (Nat.lt_succ_self _)⟩
              · refine ⟨fun c7 => ?_, fun c7 => ?_⟩
                · refine ⟨fun c8 => ?_, fun c8 => ?_⟩
                  · unfold wpX11_testRead_b180
                    refine s_X11_numberRead hV144 (fun r180 f180 hV180 hb180 hk180 => ?_)
                    try dsimp only
                    have e13_180 := hV180.g13 (i := ix x1)
                    refine ⟨fun c9 => ?_, fun c9 => ?_⟩
                    · refine ⟨vI (c := 720) rfl (by first | assumption | grind | (simp [pt_r, upd_r] <;> grind)) (by first | assumption | grind | (simp [pt_r, upd_r] <;> grind)), ?_⟩
                      refine s_X11_take (Vg (k := 16) rfl hV180) (fun f199 hV199 hk199 => ?_)
                      try dsimp only
                      have e13_199 := hV199.g13 (i := ix x1)
                      unfold wpX11_testRead_b202
                      exact ⟨_, l_X11_testRead_b208 hK _ _ _ _ _ _ _ _ hV199 (by first | assumption | grind | (simp [pt_r, upd_r] <;> grind)) (by first | assumption | grind | (simp [pt_r, upd_r] <;> grind)) (by first | assumption | grind | (simp [pt_r, upd_r] <;> grind)) (by first | assumption | grind | (simp [pt_r, upd_r] <;> grind)) (by first | assumption | grind | (simp [pt_r, upd_r] <;> grind)) (by first | assumption | grind | (simp [pt_r, upd_r] <;> grind)) (Nat.lt_succ_self _)⟩
                    · exact hK _ _ hV180 (by first | exact Or.inl rfl | exact Or.inr rfl | assumption) (by first | assumption | grind | (simp [pt_r, upd_r] <;> grind))
                  · unfold wpX11_testRead_b180
                    refine s_X11_numberRead hV144 (fun r180 f180 hV180 hb180 hk180 => ?_)
                    try dsimp only
                    have e13_180 := hV180.g13 (i := ix x1)
                    refine ⟨fun c9 => ?_, fun c9 => ?_⟩
                    · refine ⟨vI (c := 720) rfl (by first | assumption | grind | (simp [pt_r, upd_r] <;> grind)) (by first | assumption | grind | (simp [pt_r, upd_r] <;> grind)), ?_⟩
                      refine s_X11_take (Vg (k := 16) rfl hV180) (fun f199 hV199 hk199 => ?_)
                      try dsimp only
                      have e13_199 := hV199.g13 (i := ix x1)
                      unfold wpX11_testRead_b202
                      exact ⟨_, l_X11_testRead_b208 hK _ _ _ _ _ _ _ _ hV199 (by first | assumption | grind | (simp [pt_r, upd_r] <;> grind)) (by first | assumption | grind | (simp [pt_r, upd_r] <;> grind)) (by first | assumption | grind | (simp [pt_r, upd_r] <;> grind)) (by first | assumption | grind | (simp [pt_r, upd_r] <;> grind)) (by first | assumption | grind | (simp [pt_r, upd_r] <;> grind)) (by first | assumption | grind | (simp [pt_r, upd_r] <;> grind)) (Nat.lt_succ_self _)⟩
                    · exact hK _ _ hV180 (by first | exact Or.inl rfl | exact Or.inr rfl | assumption) (by first | assumption | grind | (simp [pt_r, upd_r] <;> grind))
                · unfold wpX11_testRead_b180
                  refine s_X11_numberRead hV144 (fun r180 f180 hV180 hb180 hk180 => ?_)
                  try dsimp only
                  have e13_180 := hV180.g13 (i := ix x1)
                  refine ⟨fun c8 => ?_, fun c8 => ?_⟩
                  · refine ⟨vI (c := 720) rfl (by first | assumption | grind | (simp [pt_r, upd_r] <;> grind)) (by first | assumption | grind | (simp [pt_r, upd_r] <;> grind)), ?_⟩
                    refine s_X11_take (Vg (k := 16) rfl hV180) (fun f199 hV199 hk199 => ?_)
                    try dsimp only
                    have e13_199 := hV199.g13 (i := ix x1)
                    unfold wpX11_testRead_b202
                    exact ⟨_, l_X11_testRead_b208 hK _ _ _ _ _ _ _ _ hV199 (by first | assumption | grind | (simp [pt_r, upd_r] <;> grind)) (by first | assumption | grind | (simp [pt_r, upd_r] <;> grind)) (by first | assumption | grind | (simp [pt_r, upd_r] <;> grind)) (by first | assumption | grind | (simp [pt_r, upd_r] <;> grind)) (by first | assumption | grind | (simp [pt_r, upd_r] <;> grind)) (by first | assumption | grind | (simp [pt_r, upd_r] <;> grind)) (Nat.lt_succ_self _)⟩
                  · exact hK _ _ hV180 (by first | exact Or.inl rfl | exact Or.inr rfl | assumption) (by first | assumption | grind | (simp [pt_r, upd_r] <;> grind))
            · unfold wpX11_testRead_b91
              refine s_X11_wrong hV63 (fun r93 f93 hV93 hb93 hp93 hk93 => ?_)
              try dsimp only
              have e13_93 := hV93.g13 (i := ix x1)
              refine ⟨(by first | exact Or.inl rfl | exact Or.inr rfl | assumption), ?_⟩
              exact hK _ _ hV93 (by first | exact Or.inl rfl | exact Or.inr rfl | assumption) (by first | assumption | grind | (simp [pt_r, upd_r] <;> grind))
    · refine s_X11_wrong hV (fun r54 f54 hV54 hb54 hp54 hk54 => ?_)
      try dsimp only
      have e13_54 := hV54.g13 (i := ix x1)
      refine ⟨(by first | exact Or.inl rfl | exact Or.inr rfl | assumption), ?_⟩
      exact hK _ _ hV54 (by first | exact Or.inl rfl | exact Or.inr rfl | assumption) (by first | assumption | grind | (simp [pt_r, upd_r] <;> grind))
  · refine ⟨fun c1 => ?_, fun c1 => ?_⟩
    · unfold wpX11_testRead_b35
      refine s_X11_wrong hV (fun r37 f37 hV37 hb37 hp37 hk37 => ?_)
      try dsimp only
      have e13_37 := hV37.g13 (i := ix x1)
      refine ⟨(by first | exact Or.inl rfl | exact Or.inr rfl | assumption), ?_⟩
      exact hK _ _ hV37 (by first | exact Or.inl rfl | exact Or.inr rfl | assumption) (by first | assumption | grind | (simp [pt_r, upd_r] <;> grind))
    · refine ⟨fun c2 => ?_, fun c2 => ?_⟩
      · unfold wpX11_testRead_b35
        refine s_X11_wrong hV (fun r37 f37 hV37 hb37 hp37 hk37 => ?_)
        try dsimp only
        have e13_37 := hV37.g13 (i := ix x1)
        refine ⟨(by first | exact Or.inl rfl | exact Or.inr rfl | assumption), ?_⟩
        exact hK _ _ hV37 (by first | exact Or.inl rfl | exact Or.inr rfl | assumption) (by first | assumption | grind | (simp [pt_r, upd_r] <;> grind))
      · refine ⟨fun c3 => ?_, fun c3 => ?_⟩
        · unfold wpX11_testRead_b41
          refine ⟨vI (c := 60) rfl (by first | assumption | grind | (simp [pt_r, upd_r] <;> grind)) (by first | assumption | grind | (simp [pt_r, upd_r] <;> grind)), ?_⟩
          refine ⟨fun c4 => ?_, fun c4 => ?_⟩
          · refine ⟨fun c5 => ?_, fun c5 => ?_⟩
            · unfold wpX11_testRead_b66
              refine ⟨fun c6 => ?_, fun c6 => ?_⟩
              · unfold wpX11_testRead_b91
                refine s_X11_wrong hV (fun r93 f93 hV93 hb93 hp93 hk93 => ?_)
                try dsimp only
                have e13_93 := hV93.g13 (i := ix x1)
                refine ⟨(by first | exact Or.inl rfl | exact Or.inr rfl | assumption), ?_⟩
                exact hK _ _ hV93 (by first | exact Or.inl rfl | exact Or.inr rfl | assumption) (by first | assumption | grind | (simp [pt_r, upd_r] <;> grind))
              · refine ⟨fun c7 => ?_, fun c7 => ?_⟩
                · unfold wpX11_testRead_b91
                  refine s_X11_wrong hV (fun r93 f93 hV93 hb93 hp93 hk93 => ?_)
                  try dsimp only
                  have e13_93 := hV93.g13 (i := ix x1)
                  refine ⟨(by first | exact Or.inl rfl | exact Or.inr rfl | assumption), ?_⟩
                  exact hK _ _ hV93 (by first | exact Or.inl rfl | exact Or.inr rfl | assumption) (by first | assumption | grind | (simp [pt_r, upd_r] <;> grind))
                · refine ⟨fun c8 => ?_, fun c8 => ?_⟩
                  · refine ⟨vI (c := 60) rfl (by first | assumption | grind | (simp [pt_r, upd_r] <;> grind)) (by first | assumption | grind | (simp [pt_r, upd_r] <;> grind)), ?_⟩
                    refine ⟨vI (c := 720) rfl (by first | assumption | grind | (simp [pt_r, upd_r] <;> grind)) (by first | assumption | grind | (simp [pt_r, upd_r] <;> grind)), ?_⟩
                    refine ⟨vI (c := 720) rfl (by first | assumption | grind | (simp [pt_r, upd_r] <;> grind)) (by first | assumption | grind | (simp [pt_r, upd_r] <;> grind)), ?_⟩
                    refine ⟨vI (c := 720) rfl (by first | assumption | grind | (simp [pt_r, upd_r] <;> grind)) (by first | assumption | grind | (simp [pt_r, upd_r] <;> grind)), ?_⟩
                    refine s_X11_take (Vg (k := 16) rfl (Vg (k := 17) rfl (Vg (k := 15) rfl hV))) (fun f144 hV144 hk144 => ?_)
                    try dsimp only
                    have e13_144 := hV144.g13 (i := ix x1)
                    refine ⟨fun c9 => ?_, fun c9 => ?_⟩
                    · unfold wpX11_testRead_b202
                      exact ⟨_, l_X11_testRead_b208 hK _ _ _ _ _ _ _ _ hV144 (by first | assumption | grind | (simp [pt_r, upd_r] <;> grind)) (by first | assumption | grind | (simp [pt_r, upd_r] <;> grind)) (by first | assumption | grind | (simp [pt_r, upd_r] <;> grind)) (by first | assumption | grind | (simp [pt_r, upd_r] <;> grind)) (by first | assumption | grind | (simp [pt_r, upd_r] <;> grind)) (by first | assumption | grind | (simp [pt_r, upd_r] <;> grind)) (Nat.lt_succ_self _)⟩
                    · refine ⟨fun c10 => ?_, fun c10 => ?_⟩
                      · refine ⟨fun c11 => ?_, fun c11 => ?_⟩
                        · unfold wpX11_testRead_b180
                          refine s_X11_numberRead hV144 (fun r180 f180 hV180 hb180 hk180 => ?_)
                          try dsimp only
                          have e13_180 := hV180.g13 (i := ix x1)
                          refine ⟨fun c12 => ?_, fun c12 => ?_⟩
                          · refine ⟨vI (c := 720) rfl (by first | assumption | grind | (simp [pt_r, upd_r] <;> grind)) (by first | assumption | grind | (simp [pt_r, upd_r] <;> grind)), ?_⟩
                            refine s_X11_take (Vg (k := 16) rfl hV180) (fun f199 hV199 hk199 => ?_)
                            try dsimp only
                            have e13_199 := hV199.g13 (i := ix x1)
                            unfold wpX11_testRead_b202
                            exact ⟨_, l_X11_testRead_b208 hK _ _ _ _ _ _ _ _ hV199 (by first | assumption | grind | (simp [pt_r, upd_r] <;> grind)) (by first | assumption | grind | (simp [pt_r, upd_r] <;> grind)) (by first | assumption | grind | (simp [pt_r, upd_r] <;> grind)) (by first | assumption | grind | (simp [pt_r, upd_r] <;> grind)) (by first | assumption | grind | (simp [pt_r, upd_r] <;> grind)) (by first | assumption | grind | (simp [pt_r, upd_r] <;> grind)) (Nat.lt_succ_self _)⟩
                          · exact hK _ _ hV180 (by first | exact Or.inl rfl | exact Or.inr rfl | assumption) (by first | assumption | grind | (simp [pt_r, upd_r] <;> grind))
                        · unfold wpX11_testRead_b180
                          refine s_X11_numberRead hV144 (fun r180 f180 hV180 hb180 hk180 => ?_)
                          try dsimp only
                          have e13_180 := hV180.g13 (i := ix x1)
                          refine ⟨fun c12 => ?_, fun c12 => ?_⟩
                          · refine ⟨vI (c := 720) rfl (by first | assumption | grind | (simp [pt_r, upd_r] <;> grind)) (by first | assumption | grind | (simp [pt_r, upd_r] <;> grind)), ?_⟩
                            refine s_X11_take (Vg (k := 16) rfl hV180) (fun f199 hV199 hk199 => ?_)
                            try dsimp only
                            have e13_199 := hV199.g13 (i := ix x1)
                            unfold wpX11_testRead_b202
                            exact ⟨_, l_X11_testRead_b208 hK _ _ _ _ _ _ _ _ hV199 (by first | assumption | grind | (simp [pt_r, upd_r] <;> grind)) (by first | assumption | grind | (simp [pt_r, upd_r] <;> grind)) (by first | assumption | grind | (simp [pt_r, upd_r] <;> grind)) (by first | assumption | grind | (simp [pt_r, upd_r] <;> grind)) (by first | assumption | grind | (simp [pt_r, upd_r] <;> grind)) (by first | assumption | grind | (simp [pt_r, upd_r] <;> grind)) (Nat.lt_succ_self _)⟩
                          · exact hK _ _ hV180 (by first | exact Or.inl rfl | exact Or.inr rfl | assumption) (by first | assumption | grind | (simp [pt_r, upd_r] <;> grind))
                      · unfold wpX11_testRead_b180
                        refine s_X11_numberRead hV144 (fun r180 f180 hV180 hb180 hk180 => ?_)
                        try dsimp only
                        have e13_180 := hV180.g13 (i := ix x1)
                        refine ⟨fun c11 => ?_, fun c11 => ?_⟩
                        · refine ⟨vI (c := 720) rfl (by first | assumption | grind | (simp [pt_r, upd_r] <;> grind)) (by first | assumption | grind | (simp [pt_r, upd_r] <;> grind)), ?_⟩
                          refine s_X11_take (Vg (k := 16) rfl hV180) (fun f199 hV199 hk199 => ?_)
                          try dsimp only
                          have e13_199 := hV199.g13 (i := ix x1)
                          unfold wpX11_testRead_b202
                          exact ⟨_, l_X11_testRead_b208 hK _ _ _ _ _ _ _ _ hV199 (by first | assumption | grind | (simp [pt_r, upd_r] <;> grind)) (by first | assumption | grind | (simp [pt_r, upd_r] <;> grind)) (by first | assumption | grind | (simp [pt_r, upd_r] <;> grind)) (by first | assumption | grind | (simp [pt_r, upd_r] <;> grind)) (by first | assumption | grind | (simp [pt_r, upd_r] <;> grind)) (by first | assumption | grind | (simp [pt_r, upd_r] <;> grind)) (Nat.lt_succ_self _)⟩
                        · exact hK _ _ hV180 (by first | exact Or.inl rfl | exact Or.inr rfl | assumption) (by first | assumption | grind | (simp [pt_r, upd_r] <;> grind))
                  · unfold wpX11_testRead_b91
                    refine s_X11_wrong hV (fun r93 f93 hV93 hb93 hp93 hk93 => ?_)
                    try dsimp only
                    have e13_93 := hV93.g13 (i := ix x1)
                    refine ⟨(by first | exact Or.inl rfl | exact Or.inr rfl | assumption), ?_⟩
                    exact hK _ _ hV93 (by first | exact Or.inl rfl | exact Or.inr rfl | assumption) (by first | assumption | grind | (simp [pt_r, upd_r] <;> grind))
            · refine s_X11_take hV (fun f63 hV63 hk63 => ?_)
              try dsimp only
              have e13_63 := hV63.g13 (i := ix x1)
              unfold wpX11_testRead_b66
              refine ⟨fun c6 => ?_, fun c6 => ?_⟩
              · unfold wpX11_testRead_b91
                refine s_X11_wrong hV63 (fun r93 f93 hV93 hb93 hp93 hk93 => ?_)
                try dsimp only
                have e13_93 := hV93.g13 (i := ix x1)
                refine ⟨(by first | exact Or.inl rfl | exact Or.inr rfl | assumption), ?_⟩
                exact hK _ _ hV93 (by first | exact Or.inl rfl | exact Or.inr rfl | assumption) (by first | assumption | grind | (simp [pt_r, upd_r] <;> grind))
              · refine ⟨fun c7 => ?_, fun c7 => ?_⟩
                · unfold wpX11_testRead_b91
                  refine s_X11_wrong hV63 (fun r93 f93 hV93 hb93 hp93 hk93 => ?_)
                  try dsimp only
                  have e13_93 := hV93.g13 (i := ix x1)
                  refine ⟨(by first | exact Or.inl rfl | exact Or.inr rfl | assumption), ?_⟩
                  exact hK _ _ hV93 (by first | exact Or.inl rfl | exact Or.inr rfl | assumption) (by first | assumption | grind | (simp [pt_r, upd_r] <;> grind))
                · refine ⟨fun c8 => ?_, fun c8 => ?_⟩
                  · refine ⟨vI (c := 60) rfl (by first | assumption | grind | (simp [pt_r, upd_r] <;> grind)) (by first | assumption | grind | (simp [pt_r, upd_r] <;> grind)), ?_⟩
                    refine ⟨vI (c := 720) rfl (by first | assumption | grind | (simp [pt_r, upd_r] <;> grind)) (by first | assumption | grind | (simp [pt_r, upd_r] <;> grind)), ?_⟩
                    refine ⟨vI (c := 720) rfl (by first | assumption | grind | (simp [pt_r, upd_r] <;> grind)) (by first | assumption | grind | (simp [pt_r, upd_r] <;> grind)), ?_⟩
                    refine ⟨vI (c := 720) rfl (by first | assumption | grind | (simp [pt_r, upd_r] <;> grind)) (by first | assumption | grind | (simp [pt_r, upd_r] <;> grind)), ?_⟩
                    refine s_X11_take (Vg (k := 16) rfl (Vg (k := 17) rfl (Vg (k := 15) rfl hV63))) (fun f144 hV144 hk144 => ?_)
                    try dsimp only
                    have e13_144 := hV144.g13 (i := ix x1)
                    refine ⟨fun c9 => ?_, fun c9 => ?_⟩
                    · unfold wpX11_testRead_b202
                      exact ⟨_, l_X11_testRead_b208 hK _ _ _ _ _ _ _ _ hV144 (by first | assumption | grind | (simp [pt_r, upd_r] <;> grind)) (by first | assumption | grind | (simp [pt_r, upd_r] <;> grind)) (by first | assumption | grind | (simp [pt_r, upd_r] <;> grind)) (by first | assumption | grind | (simp [pt_r, upd_r] <;> grind)) (by first | assumption | grind | (simp [pt_r, upd_r] <;> grind)) (by first | assumption | grind | (simp [pt_r, upd_r] <;> grind)) (Nat.lt_succ_self _)⟩
                    · refine ⟨fun c10 => ?_, fun c10 => ?_⟩
                      · refine ⟨fun c11 => ?_, fun c11 => ?_⟩
                        · unfold wpX11_testRead_b180
                          refine s_X11_numberRead hV144 (fun r180 f180 hV180 hb180 hk180 => ?_)
                          try dsimp only
                          have e13_180 := hV180.g13 (i := ix x1)
                          refine ⟨fun c12 => ?_, fun c12 => ?_⟩
                          · refine ⟨vI (c := 720) rfl (by first | assumption | grind | (simp [pt_r, upd_r] <;> grind)) (by first | assumption | grind | (simp [pt_r, upd_r] <;> grind)), ?_⟩
                            refine s_X11_take (Vg (k := 16) rfl hV180) (fun f199 hV199 hk199 => ?_)
                            try dsimp only
                            have e13_199 := hV199.g13 (i := ix x1)
                            unfold wpX11_testRead_b202
                            exact ⟨_, l_X11_testRead_b208 hK _ _ _ _ _ _ _ _ hV199 (by first | assumption | grind | (simp [pt_r, upd_r] <;> grind)) (by first | assumption | grind | (simp [pt_r, upd_r] <;> grind)) (by first | assumption | grind | (simp [pt_r, upd_r] <;> grind)) (by first | assumption | grind | (simp [pt_r, upd_r] <;> grind)) (by first | assumption | grind | (simp [pt_r, upd_r] <;> grind)) (by first | assumption | grind | (simp [pt_r, upd_r] <;> grind)) (Nat.lt_succ_self _)⟩
                          · exact hK _ _ hV180 (by first | exact Or.inl rfl | exact Or.inr rfl | assumption) (by first | assumption | grind | (simp [pt_r, upd_r] <;> grind))
                        · unfold wpX11_testRead_b180
                          refine s_X11_numberRead hV144 (fun r180 f180 hV180 hb180 hk180 => ?_)
                          try dsimp only
                          have e13_180 := hV180.g13 (i := ix x1)
                          refine ⟨fun c12 => ?_, fun c12 => ?_⟩
                          · refine ⟨vI (c := 720) rfl (by first | assumption | grind | (simp [pt_r, upd_r] <;> grind)) (by first | assumption | grind | (simp [pt_r, upd_r] <;> grind)), ?_⟩
                            refine s_X11_take (Vg (k := 16) rfl hV180) (fun f199 hV199 hk199 => ?_)
                            try dsimp only
                            have e13_199 := hV199.g13 (i := ix x1)
                            unfold wpX11_testRead_b202
                            exact ⟨_, l_X11_testRead_b208 hK _ _ _ _ _ _ _ _ hV199 (by first | assumption | grind | (simp [pt_r, upd_r] <;> grind)) (by first | assumption | grind | (simp [pt_r, upd_r] <;> grind)) (by first | assumption | grind | (simp [pt_r, upd_r] <;> grind)) (by first | assumption | grind | (simp [pt_r, upd_r] <;> grind)) (by first | assumption | grind | (simp [pt_r, upd_r] <;> grind)) (by first | assumption | grind | (simp [pt_r, upd_r] <;> grind)) (Nat.lt_succ_self _)⟩
                          · exact hK _ _ hV180 (by first | exact Or.inl rfl | exact Or.inr rfl | assumption) (by first | assumption | grind | (simp [pt_r, upd_r] <;> grind))
                      · unfold wpX11_testRead_b180
                        refine s_X11_numberRead hV144 (fun r180 f180 hV180 hb180 hk180 => ?_)
                        try dsimp only
                        have e13_180 := hV180.g13 (i := ix x1)
                        refine ⟨fun c11 => ?_, fun c11 => ?_⟩
                        · refine ⟨vI (c := 720) rfl (by first | assumption | grind | (simp [pt_r, upd_r] <;> grind)) (by first | assumption | grind | (simp [pt_r, upd_r] <;> grind)), ?_⟩
                          refine s_X11_take (Vg (k := 16) rfl hV180) (fun f199 hV199 hk199 => ?_)
                          try dsimp only
                          have e13_199 := hV199.g13 (i := ix x1)
                          unfold wpX11_testRead_b202
                          exact ⟨_, l_X11_testRead_b208 hK _ _ _ _ _ _ _ _ hV199 (by first | assumption | grind | (simp [pt_r, upd_r] <;> grind)) (by first | assumption | grind | (simp [pt_r, upd_r] <;> grind)) (by first | assumption | grind | (simp [pt_r, upd_r] <;> grind)) (by first | assumption | grind | (simp [pt_r, upd_r] <;> grind)) (by first | assumption | grind | (simp [pt_r, upd_r] <;> grind)) (by first | assumption | grind | (simp [pt_r, upd_r] <;> grind)) (Nat.lt_succ_self _)⟩
                        · exact hK _ _ hV180 (by first | exact Or.inl rfl | exact Or.inr rfl | assumption) (by first | assumption | grind | (simp [pt_r, upd_r] <;> grind))
                  · unfold wpX11_testRead_b91
                    refine s_X11_wrong hV63 (fun r93 f93 hV93 hb93 hp93 hk93 => ?_)
                    try dsimp only
                    have e13_93 := hV93.g13 (i := ix x1)
                    refine ⟨(by first | exact Or.inl rfl | exact Or.inr rfl | assumption), ?_⟩
                    exact hK _ _ hV93 (by first | exact Or.inl rfl | exact Or.inr rfl | assumption) (by first | assumption | grind | (simp [pt_r, upd_r] <;> grind))
          · refine s_X11_wrong hV (fun r54 f54 hV54 hb54 hp54 hk54 => ?_)
            try dsimp only
            have e13_54 := hV54.g13 (i := ix x1)
            refine ⟨(by first | exact Or.inl rfl | exact Or.inr rfl | assumption), ?_⟩
            exact hK _ _ hV54 (by first | exact Or.inl rfl | exact Or.inr rfl | assumption) (by first | assumption | grind | (simp [pt_r, upd_r] <;> grind))
        · unfold wpX11_testRead_b35
          refine s_X11_wrong hV (fun r37 f37 hV37 hb37 hp37 hk37 => ?_)
          try dsimp only
          have e13_37 := hV37.g13 (i := ix x1)
          refine ⟨(by first | exact Or.inl rfl | exact Or.inr rfl | assumption), ?_⟩
          exact hK _ _ hV37 (by first | exact Or.inl rfl | exact Or.inr rfl | assumption) (by first | assumption | grind | (simp [pt_r, upd_r] <;> grind))
