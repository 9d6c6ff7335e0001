set_option maxHeartbeats 1000000 in
theorem l_X11_lineRead_b87 {w h : Nat} {f0 : Nat → Int32} {g0 : Nat → Nat → Int32} {x1 : Int32} {K : Int32 → ((Nat → Int32) × (Nat → Nat → Int32)) → Prop} (hK : ∀ v : Int32, ∀ u : mS, V w h f0 g0 u.1 u.2 → isB v → (v = 0 ∨ ¬ x1 = 30) → K v u) (n : Nat) : ∀ (f : Nat → Int32) (g : Nat → Nat → Int32) (x2 : Int32), V w h f0 g0 f g → 0 ≤ x2 ∧ x2 < 60 → ¬ x1 = 30 → mu (g 14 (ix x2)) < n → wpX11_lineRead_b87 n f g x2 K := by
  induction n with
  | zero => intro f g x2 hV hi0 hi1 hm; exact absurd hm (Nat.not_lt_zero _)
  | succ n ih =>
    intro f g x2 hV hi0 hi1 hm
    unfold wpX11_lineRead_b87 wpX11_lineRead_b87_body
    refine s_X11_actRead hV (by first | assumption | grind | (simp [pt_r, upd_r] <;> grind)) (fun r89 u89 hV89 hb89 hu89 => ?_)
    refine ⟨fun c0 => ?_, fun c0 => ?_⟩
    · refine s_X11_isSign hV89 (fun r100 hb100 hp100 => ?_)
      try dsimp only
      refine ⟨fun c1 => ?_, fun c1 => ?_⟩
      · exact ih _ _ _ hV89 (by first | assumption | grind | (simp [pt_r, upd_r] <;> grind)) (by first | assumption | grind | (simp [pt_r, upd_r] <;> grind)) (by first | (have q := hu89.resolve_left (by assumption); have q2 := hV89.g14 (i := ix x2); rw [q] at q2 ⊢; exact lt1 (mu_lt (N := 12) (by have := hV.g14 (i := ix x2); grind)) hm) | (have q := hu67.resolve_left (by assumption); have q2 := hV67.g13 (i := ix x2); rw [q] at q2 ⊢; exact lt1 (mu_lt (N := 12) (by have := hV.g13 (i := ix x2); grind)) hm))
      · refine s_X11_take hV89 (fun f107 hV107 hk107 => ?_)
        try dsimp only
        exact hK _ _ hV107 (by first | exact Or.inl rfl | exact Or.inr rfl | assumption) (by first | assumption | grind | (simp [pt_r, upd_r] <;> grind))
    · exact hK _ _ hV89 (by first | exact Or.inl rfl | exact Or.inr rfl | assumption) (by first | assumption | grind | (simp [pt_r, upd_r] <;> grind))
set_option maxHeartbeats 1000000 in
theorem l_X11_lineRead_b65 {w h : Nat} {f0 : Nat → Int32} {g0 : Nat → Nat → Int32} {x1 : Int32} {K : Int32 → ((Nat → Int32) × (Nat → Nat → Int32)) → Prop} (hK : ∀ v : Int32, ∀ u : mS, V w h f0 g0 u.1 u.2 → isB v → (v = 0 ∨ ¬ x1 = 30) → K v u) (n : Nat) : ∀ (f : Nat → Int32) (g : Nat → Nat → Int32) (x2 : Int32), V w h f0 g0 f g → 0 ≤ x2 ∧ x2 < 60 → ¬ x1 = 30 → mu (g 13 (ix x2)) < n → wpX11_lineRead_b65 n f g x2 K := by
  induction n with
  | zero => intro f g x2 hV hi0 hi1 hm; exact absurd hm (Nat.not_lt_zero _)
  | succ n ih =>
    intro f g x2 hV hi0 hi1 hm
    unfold wpX11_lineRead_b65 wpX11_lineRead_b65_body
    refine s_X11_testRead hV (by first | assumption | grind | (simp [pt_r, upd_r] <;> grind)) (fun r67 u67 hV67 hb67 hu67 => ?_)
    refine ⟨fun c0 => ?_, fun c0 => ?_⟩
    · refine s_X11_isKey hV67 (fun r77 hb77 hp77 => ?_)
      try dsimp only
      refine ⟨fun c1 => ?_, fun c1 => ?_⟩
      · exact ih _ _ _ hV67 (by first | assumption | grind | (simp [pt_r, upd_r] <;> grind)) (by first | assumption | grind | (simp [pt_r, upd_r] <;> grind)) (by first | (have q := hu89.resolve_left (by assumption); have q2 := hV89.g14 (i := ix x2); rw [q] at q2 ⊢; exact lt1 (mu_lt (N := 12) (by have := hV.g14 (i := ix x2); grind)) hm) | (have q := hu67.resolve_left (by assumption); have q2 := hV67.g13 (i := ix x2); rw [q] at q2 ⊢; exact lt1 (mu_lt (N := 12) (by have := hV.g13 (i := ix x2); grind)) hm))
      · unfold wpX11_lineRead_b83
        refine s_X11_take hV67 (fun f84 hV84 hk84 => ?_)
        try dsimp only
        exact ⟨_, l_X11_lineRead_b87 hK _ _ _ _ hV84 (by first | assumption | grind | (simp [pt_r, upd_r] <;> grind)) (by first | assumption | grind | (simp [pt_r, upd_r] <;> grind)) (Nat.lt_succ_self _)⟩
    · exact hK _ _ hV67 (by first | exact Or.inl rfl | exact Or.inr rfl | assumption) (by first | assumption | grind | (simp [pt_r, upd_r] <;> grind))
set_option maxHeartbeats 1000000 in
theorem s_X11_lineRead {w h : Nat} {f0 : Nat → Int32} {g0 : Nat → Nat → Int32} {f : Nat → Int32} {g : Nat → Nat → Int32} {x1 : Int32} {K : Int32 → ((Nat → Int32) × (Nat → Nat → Int32)) → Prop} (hV : V w h f0 g0 f g) (hp : 0 ≤ x1 ∧ x1 ≤ 30) (hK : ∀ v : Int32, ∀ u : mS, V w h f0 g0 u.1 u.2 → isB v → (v = 0 ∨ ¬ x1 = 30) → K v u) : wpX11_lineRead f g x1 K := by
  unfold wpX11_lineRead
  unfold wpX11_lineRead_b0
  refine s_X11_isKey hV (fun r2 hb2 hp2 => ?_)
  try dsimp only
  refine ⟨fun c0 => ?_, fun c0 => ?_⟩
  · unfold wpX11_lineRead_b22
    refine ⟨fun c1 => ?_, fun c1 => ?_⟩
    · refine ⟨vI (c := 60) rfl (by first | assumption | grind | (simp [pt_r, upd_r] <;> grind)) (by first | assumption | grind | (simp [pt_r, upd_r] <;> grind)), ?_⟩
      refine ⟨vI (c := 60) rfl (by first | assumption | grind | (simp [pt_r, upd_r] <;> grind)) (by first | assumption | grind | (simp [pt_r, upd_r] <;> grind)), ?_⟩
      refine s_X11_isKey (Vg14 (by first | assumption | grind | (simp [pt_r, upd_r] <;> grind)) (Vg13 (by first | assumption | grind | (simp [pt_r, upd_r] <;> grind)) hV)) (fun r55 hb55 hp55 => ?_)
      try dsimp only
      refine ⟨fun c2 => ?_, fun c2 => ?_⟩
      · unfold wpX11_lineRead_b83
        refine s_X11_take (Vg14 (by first | assumption | grind | (simp [pt_r, upd_r] <;> grind)) (Vg13 (by first | assumption | grind | (simp [pt_r, upd_r] <;> grind)) hV)) (fun f84 hV84 hk84 => ?_)
        try dsimp only
        exact ⟨_, l_X11_lineRead_b87 hK _ _ _ _ hV84 (by first | assumption | grind | (simp [pt_r, upd_r] <;> grind)) (by first | assumption | grind | (simp [pt_r, upd_r] <;> grind)) (Nat.lt_succ_self _)⟩
      · refine s_X11_take (Vg14 (by first | assumption | grind | (simp [pt_r, upd_r] <;> grind)) (Vg13 (by first | assumption | grind | (simp [pt_r, upd_r] <;> grind)) hV)) (fun f62 hV62 hk62 => ?_)
        try dsimp only
        exact ⟨_, l_X11_lineRead_b65 hK _ _ _ _ hV62 (by first | assumption | grind | (simp [pt_r, upd_r] <;> grind)) (by first | assumption | grind | (simp [pt_r, upd_r] <;> grind)) (Nat.lt_succ_self _)⟩
    · refine s_X11_wrong hV (fun r30 f30 hV30 hb30 hp30 hk30 => ?_)
      try dsimp only
      refine ⟨(by first | exact Or.inl rfl | exact Or.inr rfl | assumption), ?_⟩
      exact hK _ _ hV30 (by first | exact Or.inl rfl | exact Or.inr rfl | assumption) (by first | assumption | grind | (simp [pt_r, upd_r] <;> grind))
  · refine s_X11_isKey hV (fun r10 hb10 hp10 => ?_)
    try dsimp only
    refine ⟨fun c1 => ?_, fun c1 => ?_⟩
    · unfold wpX11_lineRead_b22
      refine ⟨fun c2 => ?_, fun c2 => ?_⟩
      · refine ⟨vI (c := 60) rfl (by first | assumption | grind | (simp [pt_r, upd_r] <;> grind)) (by first | assumption | grind | (simp [pt_r, upd_r] <;> grind)), ?_⟩
        refine ⟨vI (c := 60) rfl (by first | assumption | grind | (simp [pt_r, upd_r] <;> grind)) (by first | assumption | grind | (simp [pt_r, upd_r] <;> grind)), ?_⟩
        refine s_X11_isKey (Vg14 (by first | assumption | grind | (simp [pt_r, upd_r] <;> grind)) (Vg13 (by first | assumption | grind | (simp [pt_r, upd_r] <;> grind)) hV)) (fun r55 hb55 hp55 => ?_)
        try dsimp only
        refine ⟨fun c3 => ?_, fun c3 => ?_⟩
        · unfold wpX11_lineRead_b83
          refine s_X11_take (Vg14 (by first | assumption | grind | (simp [pt_r, upd_r] <;> grind)) (Vg13 (by first | assumption | grind | (simp [pt_r, upd_r] <;> grind)) hV)) (fun f84 hV84 hk84 => ?_)
          try dsimp only
          exact ⟨_, l_X11_lineRead_b87 hK _ _ _ _ hV84 (by first | assumption | grind | (simp [pt_r, upd_r] <;> grind)) (by first | assumption | grind | (simp [pt_r, upd_r] <;> grind)) (Nat.lt_succ_self _)⟩
        · refine s_X11_take (Vg14 (by first | assumption | grind | (simp [pt_r, upd_r] <;> grind)) (Vg13 (by first | assumption | grind | (simp [pt_r, upd_r] <;> grind)) hV)) (fun f62 hV62 hk62 => ?_)
          try dsimp only
          exact ⟨_, l_X11_lineRead_b65 hK _ _ _ _ hV62 (by first | assumption | grind | (simp [pt_r, upd_r] <;> grind)) (by first | assumption | grind | (simp [pt_r, upd_r] <;> grind)) (Nat.lt_succ_self _)⟩
      · refine s_X11_wrong hV (fun r30 f30 hV30 hb30 hp30 hk30 => ?_)
        try dsimp only
        refine ⟨(by first | exact Or.inl rfl | exact Or.inr rfl | assumption), ?_⟩
        exact hK _ _ hV30 (by first | exact Or.inl rfl | exact Or.inr rfl | assumption) (by first | assumption | grind | (simp [pt_r, upd_r] <;> grind))
    · refine s_X11_wrong hV (fun r18 f18 hV18 hb18 hp18 hk18 => ?_)
      try dsimp only
      refine ⟨(by first | exact Or.inl rfl | exact Or.inr rfl | assumption), ?_⟩
      exact hK _ _ hV18 (by first | exact Or.inl rfl | exact Or.inr rfl | assumption) (by first | assumption | grind | (simp [pt_r, upd_r] <;> grind))
set_option maxHeartbeats 1000000 in
theorem l_X11_rules_b199 {w h : Nat} {f0 : Nat → Int32} {g0 : Nat → Nat → Int32} {K : Int32 → ((Nat → Int32) × (Nat → Nat → Int32)) → Prop} (hK : ∀ v : Int32, ∀ u : mS, V w h f0 g0 u.1 u.2 → K v u) (n : Nat) : ∀ (f : Nat → Int32) (g : Nat → Nat → Int32) (x3 : Int32), V w h f0 g0 f g → 0 ≤ x3 → mu (x3) < n → wpX11_rules_b199 n f g x3 K := by
  induction n with
  | zero => intro f g x3 hV hi0 hm; exact absurd hm (Nat.not_lt_zero _)
  | succ n ih =>
    intro f g x3 hV hi0 hm
    have b12_i := hV.b12
    have e13_i := fun i => hV.g13 (i := i)
    have e14_i := fun i => hV.g14 (i := i)
    unfold wpX11_rules_b199 wpX11_rules_b199_body
    refine ⟨fun c0 => ?_, fun c0 => ?_⟩
    · exact hK _ _ hV
    · refine ⟨vI (c := 16) rfl (by first | assumption | grind | (simp [pt_r, upd_r] <;> grind)) (by first | assumption | grind | (simp [pt_r, upd_r] <;> grind)), ?_⟩
      exact ih _ _ _ (Vg (k := 58) rfl hV) (by first | assumption | grind | (simp [pt_r, upd_r] <;> grind)) (lt1 (mu_lt c0) hm)
set_option maxHeartbeats 1000000 in
theorem l_X11_rules_b95 {w h : Nat} {f0 : Nat → Int32} {g0 : Nat → Nat → Int32} {K : Int32 → ((Nat → Int32) × (Nat → Nat → Int32)) → Prop} (hK : ∀ v : Int32, ∀ u : mS, V w h f0 g0 u.1 u.2 → K v u) (n : Nat) : ∀ (f : Nat → Int32) (g : Nat → Nat → Int32) (x3 : Int32), V w h f0 g0 f g → 0 ≤ x3 → mu (x3) < n → wpX11_rules_b95 n f g x3 K := by
  induction n with
  | zero => intro f g x3 hV hi0 hm; exact absurd hm (Nat.not_lt_zero _)
  | succ n ih =>
    intro f g x3 hV hi0 hm
    have b12_i := hV.b12
    have e13_i := fun i => hV.g13 (i := i)
    have e14_i := fun i => hV.g14 (i := i)
    unfold wpX11_rules_b95 wpX11_rules_b95_body
    refine ⟨fun c0 => ?_, fun c0 => ?_⟩
    · exact ⟨_, l_X11_rules_b199 hK _ _ _ _ (Vf (k := 51) rfl hV) (by first | assumption | grind | (simp [pt_r, upd_r] <;> grind)) (Nat.lt_succ_self _)⟩
    · refine ⟨vI (c := 720) rfl (by first | assumption | grind | (simp [pt_r, upd_r] <;> grind)) (by first | assumption | grind | (simp [pt_r, upd_r] <;> grind)), ?_⟩
      refine ⟨vI (c := 720) rfl (by first | assumption | grind | (simp [pt_r, upd_r] <;> grind)) (by first | assumption | grind | (simp [pt_r, upd_r] <;> grind)), ?_⟩
      refine ⟨vI (c := 720) rfl (by first | assumption | grind | (simp [pt_r, upd_r] <;> grind)) (by first | assumption | grind | (simp [pt_r, upd_r] <;> grind)), ?_⟩
      refine ⟨vI (c := 720) rfl (by first | assumption | grind | (simp [pt_r, upd_r] <;> grind)) (by first | assumption | grind | (simp [pt_r, upd_r] <;> grind)), ?_⟩
      refine ⟨vI (c := 720) rfl (by first | assumption | grind | (simp [pt_r, upd_r] <;> grind)) (by first | assumption | grind | (simp [pt_r, upd_r] <;> grind)), ?_⟩
      refine ⟨vI (c := 720) rfl (by first | assumption | grind | (simp [pt_r, upd_r] <;> grind)) (by first | assumption | grind | (simp [pt_r, upd_r] <;> grind)), ?_⟩
      refine ⟨vI (c := 720) rfl (by first | assumption | grind | (simp [pt_r, upd_r] <;> grind)) (by first | assumption | grind | (simp [pt_r, upd_r] <;> grind)), ?_⟩
      refine ⟨vI (c := 720) rfl (by first | assumption | grind | (simp [pt_r, upd_r] <;> grind)) (by first | assumption | grind | (simp [pt_r, upd_r] <;> grind)), ?_⟩
      refine ⟨vI (c := 720) rfl (by first | assumption | grind | (simp [pt_r, upd_r] <;> grind)) (by first | assumption | grind | (simp [pt_r, upd_r] <;> grind)), ?_⟩
      refine ⟨vI (c := 720) rfl (by first | assumption | grind | (simp [pt_r, upd_r] <;> grind)) (by first | assumption | grind | (simp [pt_r, upd_r] <;> grind)), ?_⟩
      exact ih _ _ _ (Vg (k := 19) rfl (Vg (k := 18) rfl (Vg (k := 17) rfl (Vg (k := 16) rfl (Vg (k := 15) rfl hV))))) (by first | assumption | grind | (simp [pt_r, upd_r] <;> grind)) (lt1 (mu_lt c0) hm)
set_option maxHeartbeats 1000000 in
theorem l_X11_rules_b49 {w h : Nat} {f0 : Nat → Int32} {g0 : Nat → Nat → Int32} {K : Int32 → ((Nat → Int32) × (Nat → Nat → Int32)) → Prop} (hK : ∀ v : Int32, ∀ u : mS, V w h f0 g0 u.1 u.2 → K v u) (n : Nat) : ∀ (f : Nat → Int32) (g : Nat → Nat → Int32) (x3 : Int32), V w h f0 g0 f g → 0 ≤ x3 → mu (x3) < n → wpX11_rules_b49 n f g x3 K := by
  induction n with
  | zero => intro f g x3 hV hi0 hm; exact absurd hm (Nat.not_lt_zero _)
  | succ n ih =>
    intro f g x3 hV hi0 hm
    have b12_i := hV.b12
    have e13_i := fun i => hV.g13 (i := i)
    have e14_i := fun i => hV.g14 (i := i)
    unfold wpX11_rules_b49 wpX11_rules_b49_body
    refine ⟨fun c0 => ?_, fun c0 => ?_⟩
    · exact ⟨_, l_X11_rules_b95 hK _ _ _ _ hV (by first | assumption | grind | (simp [pt_r, upd_r] <;> grind)) (Nat.lt_succ_self _)⟩
    · refine ⟨vI (c := 60) rfl (by first | assumption | grind | (simp [pt_r, upd_r] <;> grind)) (by first | assumption | grind | (simp [pt_r, upd_r] <;> grind)), ?_⟩
      refine ⟨vI (c := 60) rfl (by first | assumption | grind | (simp [pt_r, upd_r] <;> grind)) (by first | assumption | grind | (simp [pt_r, upd_r] <;> grind)), ?_⟩
      refine ⟨vI (c := 60) rfl (by first | assumption | grind | (simp [pt_r, upd_r] <;> grind)) (by first | assumption | grind | (simp [pt_r, upd_r] <;> grind)), ?_⟩
      refine ⟨vI (c := 60) rfl (by first | assumption | grind | (simp [pt_r, upd_r] <;> grind)) (by first | assumption | grind | (simp [pt_r, upd_r] <;> grind)), ?_⟩
      exact ih _ _ _ (Vg14 (by first | assumption | grind | (simp [pt_r, upd_r] <;> grind)) (Vg13 (by first | assumption | grind | (simp [pt_r, upd_r] <;> grind)) hV)) (by first | assumption | grind | (simp [pt_r, upd_r] <;> grind)) (lt1 (mu_lt c0) hm)
set_option maxHeartbeats 1000000 in
theorem l_X11_rules_b19 {w h : Nat} {f0 : Nat → Int32} {g0 : Nat → Nat → Int32} {K : Int32 → ((Nat → Int32) × (Nat → Nat → Int32)) → Prop} (hK : ∀ v : Int32, ∀ u : mS, V w h f0 g0 u.1 u.2 → K v u) (n : Nat) : ∀ (f : Nat → Int32) (g : Nat → Nat → Int32) (x2 : Int32), V w h f0 g0 f g → 0 ≤ x2 ∧ x2 ≤ 30 → mu (x2) < n → wpX11_rules_b19 n f g x2 K := by
  induction n with
  | zero => intro f g x2 hV hi0 hm; exact absurd hm (Nat.not_lt_zero _)
  | succ n ih =>
    intro f g x2 hV hi0 hm
    have b12_i := hV.b12
    have e13_i := fun i => hV.g13 (i := i)
    have e14_i := fun i => hV.g14 (i := i)
    unfold wpX11_rules_b19 wpX11_rules_b19_body
    refine ⟨fun c0 => ?_, fun c0 => ?_⟩
    · exact ⟨_, l_X11_rules_b49 hK _ _ _ _ (Vu12 (by first | assumption | grind | (simp [pt_r, upd_r] <;> grind)) hV) (by first | assumption | grind | (simp [pt_r, upd_r] <;> grind)) (Nat.lt_succ_self _)⟩
    · refine s_X11_lineRead hV (by first | exact Or.inl rfl | exact Or.inr rfl | assumption | grind) (fun r28 u28 hV28 hb28 hu28 => ?_)
      have b12_28 := hV28.b12
      have e13_28 := fun i => hV28.g13 (i := i)
      have e14_28 := fun i => hV28.g14 (i := i)
      refine ⟨fun c1 => ?_, fun c1 => ?_⟩
      · exact ih _ _ _ hV28 (by first | assumption | grind | (simp [pt_r, upd_r] <;> grind)) (by exact lt1 (mu_lt (N := 30) (by grind)) hm)
      · exact hK _ _ hV28
set_option maxHeartbeats 1000000 in
theorem s_X11_rules {w h : Nat} {f0 : Nat → Int32} {g0 : Nat → Nat → Int32} {f : Nat → Int32} {g : Nat → Nat → Int32} {x1 : Int32} {K : Int32 → ((Nat → Int32) × (Nat → Nat → Int32)) → Prop} (hV : V w h f0 g0 f g) (hK : ∀ v : Int32, ∀ u : mS, V w h f0 g0 u.1 u.2 → K v u) : wpX11_rules f g x1 K := by
  have b12_i := hV.b12
  have e13_i := fun i => hV.g13 (i := i)
  have e14_i := fun i => hV.g14 (i := i)
  unfold wpX11_rules
  unfold wpX11_rules_b0
  refine s_X11_starts (Vf (k := 2) rfl hV) (by first | exact Or.inl rfl | exact Or.inr rfl | assumption | grind) (fun r8 u8 hV8 hb8 => ?_)
  have b12_8 := hV8.b12
  have e13_8 := fun i => hV8.g13 (i := i)
  have e14_8 := fun i => hV8.g14 (i := i)
  refine ⟨fun c0 => ?_, fun c0 => ?_⟩
  · exact ⟨_, l_X11_rules_b19 hK _ _ _ _ hV8 (by first | assumption | grind | (simp [pt_r, upd_r] <;> grind)) (Nat.lt_succ_self _)⟩
  · exact hK _ _ hV8
set_option maxHeartbeats 1000000 in
theorem s_X11_fault {w h : Nat} {f0 : Nat → Int32} {g0 : Nat → Nat → Int32} {f : Nat → Int32} {g : Nat → Nat → Int32} {x1 : Int32} {K : Int32 → ((Nat → Int32) × (Nat → Nat → Int32)) → Prop} (hV : V w h f0 g0 f g) (hK : ∀ v : Int32, ∀ u : mS, V w h f0 g0 u.1 u.2 → K v u) : wpX11_fault f g x1 K := by
  unfold wpX11_fault
  unfold wpX11_fault_b0
  refine ⟨fun c0 => ?_, fun c0 => ?_⟩
  · refine ⟨fun c1 => ?_, fun c1 => ?_⟩
    · unfold wpX11_fault_b29
      exact hK _ _ (Vf (k := 2) rfl hV)
    · unfold wpX11_fault_b29
      exact hK _ _ (Vf (k := 2) rfl hV)
  · unfold wpX11_fault_b29
    exact hK _ _ (Vf (k := 2) rfl hV)
set_option maxHeartbeats 1000000 in
theorem s_X11_weight {x0 : Int32} {K : Int32 → Unit → Prop} (hK : ∀ v : Int32, (v = 0 ∨ v = 1 ∨ v = 2 ∨ v = 3) → K v ()) : wpX11_weight x0 K := by
  unfold wpX11_weight
  unfold wpX11_weight_b0
  refine ⟨fun c0 => ?_, fun c0 => ?_⟩
  · refine ⟨fun c1 => ?_, fun c1 => ?_⟩
    · refine ⟨fun c2 => ?_, fun c2 => ?_⟩
      · unfold wpX11_weight_b30
        exact hK _ (by first | assumption | grind | (simp [pt_r, upd_r] <;> grind))
      · unfold wpX11_weight_b30
        exact hK _ (by first | assumption | grind | (simp [pt_r, upd_r] <;> grind))
    · unfold wpX11_weight_b30
      exact hK _ (by first | assumption | grind | (simp [pt_r, upd_r] <;> grind))
  · unfold wpX11_weight_b30
    exact hK _ (by first | assumption | grind | (simp [pt_r, upd_r] <;> grind))
/-! The reference reads a net: what waits, and what is held. -/
def cz (W : Nat → Int32) : Nat → Nat
  | 0 => 0
  | n + 1 => cz W n + (if W n = 0 then 1 else 0)
def c5 (W : Nat → Int32) : Nat → Nat
  | 0 => 0
  | n + 1 => c5 W n + (if W n = 5 then 1 else 0)
def c6 (W : Nat → Int32) : Nat → Nat
  | 0 => 0
  | n + 1 => c6 W n + (if W n = 6 ∨ W n = 7 then 1 else 0)
def WO (W : Nat → Int32) (n : Nat) : Prop := ∀ i, i < n → W i = 0 ∨ W i = 5 ∨ W i = 6 ∨ W i = 7
theorem cs {W : Nat → Int32} {n : Nat} (hw : WO W n) : n = cz W n + c5 W n + c6 W n := by
  induction n with
  | zero => rfl
  | succ n ih =>
    have h1 := ih (fun i hi => hw i (by omega))
    have h2 := hw n (by omega)
    unfold cz c5 c6
    rcases h2 with e | e | e | e <;> rw [e] <;> simp <;> omega
theorem cz_u {W : Nat → Int32} {n i : Nat} {v : Int32} (h : n ≤ i) : cz (upd W i v) n = cz W n := by
  induction n with
  | zero => rfl
  | succ n ih =>
    have e : upd W i v n = W n := by rw [upd_r, if_neg (by omega)]
    unfold cz; rw [ih (by omega), e]
theorem c5_u {W : Nat → Int32} {n i : Nat} {v : Int32} (h : n ≤ i) : c5 (upd W i v) n = c5 W n := by
  induction n with
  | zero => rfl
  | succ n ih =>
    have e : upd W i v n = W n := by rw [upd_r, if_neg (by omega)]
    unfold c5; rw [ih (by omega), e]
theorem c6_u {W : Nat → Int32} {n i : Nat} {v : Int32} (h : n ≤ i) : c6 (upd W i v) n = c6 W n := by
  induction n with
  | zero => rfl
  | succ n ih =>
    have e : upd W i v n = W n := by rw [upd_r, if_neg (by omega)]
    unfold c6; rw [ih (by omega), e]
theorem WO_u {W : Nat → Int32} {n : Nat} {v : Int32} (hw : WO W n) (hv : v = 0 ∨ v = 5 ∨ v = 6 ∨ v = 7) : WO (upd W n v) (n + 1) := by
  intro i hi
  rw [upd_r]
  by_cases e : i = n
  · rw [if_pos e]; exact hv
  · rw [if_neg e]; exact hw i (by omega)
/-- n wait, t: an operand was read, q knots are grown, B may be -/
def PI (f : Nat → Int32) (W : Nat → Int32) (n t q B : Nat) : Prop := f 33 = nI n ∧ f 37 = nI t ∧ t ≤ 1 ∧ WO W n ∧ f 34 = nI (c6 W n + t) ∧ f 35 = nI (cz W n) ∧ cz W n ≤ 8 ∧ f 23 = nI q ∧ q + c5 W n + c6 W n ≤ B ∧ B ≤ 64
theorem PI.n {f W : Nat → Int32} {n t q B : Nat} (h : PI f W n t q B) : n ≤ 72 ∧ c6 W n + t ≤ 65 ∧ q ≤ 64 := by
  have h1 := cs h.2.2.2.1
  obtain ⟨-, -, ht, -, -, -, h8, -, hq, hB⟩ := h
  omega
/-- nothing of what is asked changes but the numbers named -/
theorem PI.fr {f f' W : Nat → Int32} {n t q B : Nat} (h : PI f W n t q B) (e : ∀ k, k = 33 ∨ k = 37 ∨ k = 34 ∨ k = 35 ∨ k = 23 → f' k = f k) : PI f' W n t q B := by
  unfold PI
  rw [e 33 (by omega), e 37 (by omega), e 34 (by omega), e 35 (by omega), e 23 (by omega)]
  exact h
theorem V_nk {w h : Nat} {f0 f : Nat → Int32} {g0 g g' : Nat → Nat → Int32} (hV : V w h f0 g0 f g) (hg : ∀ k, k ≠ 27 → k ≠ 28 → k ≠ 29 → g' k = g k) (hn : NK g') : V w h f0 g0 f g' := by
  refine ⟨⟨hV.1.1, fun k i => ?_, hV.1.2.2.1, hn⟩, ⟨hV.2.1.1, by rw [hg 46 (by decide) (by decide) (by decide)]; exact hV.2.1.2.1, by rw [hg 56 (by decide) (by decide) (by decide)]; exact hV.2.1.2.2.1, by rw [hg 57 (by decide) (by decide) (by decide)]; exact hV.2.1.2.2.2⟩, hV.2.2⟩
  by_cases h7 : k = 27
  · subst h7; exact ⟨fun e => absurd e (by decide), fun e => absurd e (by decide), fun e => absurd e (by decide), fun e => absurd e (by decide), fun e => absurd e (by decide)⟩
  · by_cases h8 : k = 28
    · subst h8; exact ⟨fun e => absurd e (by decide), fun e => absurd e (by decide), fun e => absurd e (by decide), fun e => absurd e (by decide), fun e => absurd e (by decide)⟩
    · by_cases h9 : k = 29
      · subst h9; exact ⟨fun e => absurd e (by decide), fun e => absurd e (by decide), fun e => absurd e (by decide), fun e => absurd e (by decide), fun e => absurd e (by decide)⟩
      · rw [hg k h7 h8 h9]; exact hV.1.2.1 k i
/-- a knot's parts -/
def KO (k a b : Int32) : Prop := (k = 5 → 0 ≤ a ∧ a < 64) ∧ (k = 6 ∨ k = 7 → (0 ≤ a ∧ a < 64) ∧ 0 ≤ b ∧ b < 64)
theorem NK_p {g : Nat → Nat → Int32} {i : Nat} {k a b : Int32} (h : NK g) (hk : KO k a b) : NK (pt (pt (pt g 27 i k) 28 i a) 29 i b) := by
  intro j
  have e7 : (pt (pt (pt g 27 i k) 28 i a) 29 i b) 27 j = if j = i then k else g 27 j := by rw [pt_ne (by decide), pt_ne (by decide), pt_at, upd_r]
  have e8 : (pt (pt (pt g 27 i k) 28 i a) 29 i b) 28 j = if j = i then a else g 28 j := by rw [pt_ne (by decide), pt_at, upd_r, pt_ne (by decide)]
  have e9 : (pt (pt (pt g 27 i k) 28 i a) 29 i b) 29 j = if j = i then b else g 29 j := by rw [pt_at, upd_r, pt_ne (by decide), pt_ne (by decide)]
  rw [e7, e8, e9]
  by_cases e : j = i
  · rw [if_pos e, if_pos e, if_pos e]; exact hk
  · rw [if_neg e, if_neg e, if_neg e]; exact h j
theorem s_X11_grown {w h : Nat} {f0 : Nat → Int32} {g0 : Nat → Nat → Int32} {f : Nat → Int32} {g : Nat → Nat → Int32} {x1 x2 x3 : Int32} {K : mS → Prop} {q m : Nat} (hV : V w h f0 g0 f g) (hq : f 23 = nI q) (hq4 : q < 64) (hm : f 34 = nI m) (hm8 : m < 80) (hk : KO x1 x2 x3) (hK : ∀ u : mS, V w h f0 g0 u.1 u.2 → u.1 23 = nI (q + 1) → u.1 34 = nI (m + 1) → (∀ k, k ≠ 23 → k ≠ 34 → u.1 k = f k) → u.2 31 = g 31 → K u) : wpX11_grown f g x1 x2 x3 K := by
  unfold wpX11_grown wpX11_grown_b0
  have e6 : (64 : Int32) + f 23 = nI (64 + q) := by rw [hq, show (64 : Int32) = nI 64 from rfl, nI_add]
  have v1 : vp_in ((64 : Int32) + f 23) 128 := by rw [e6]; exact vin (by omega) (by decide)
  have v2 : vp_in (f 34) 80 := by rw [hm]; exact vin hm8 (by decide)
  have hb : 0 ≤ f 23 ∧ f 23 < 64 := by rw [hq]; exact ⟨nI_pos' (by omega), nI_lt (b := 64) hq4 (by omega)⟩
  refine ⟨v1, v1, v1, v1, v2, hK _ ?_ ?_ ?_ (fun k h3 h4 => ?_) ?_⟩
  · refine Vu23 ?_ (Vf (k := 34) rfl (Vg32 hb (Vg (k := 30) rfl (V_nk hV (fun k h7 h8 h9 => ?_) (NK_p hV.1.2.2.2 hk)))))
    · rw [hq, nI_1]; exact ⟨nI_pos' (by omega), nI_le (b := 64) (by omega) (by omega)⟩
    · rw [pt_ne h9, pt_ne h8, pt_ne h7]
  · dsimp only; rw [upd_r, if_pos rfl, hq, nI_1]
  · dsimp only; rw [upd_r, if_neg (by decide), upd_r, if_pos rfl, hm, nI_1]
  · dsimp only; rw [upd_r, if_neg h3, upd_r, if_neg h4]
  · dsimp only; rw [pt_ne (by decide), pt_ne (by decide), pt_ne (by decide), pt_ne (by decide), pt_ne (by decide)]
theorem s_X11_drop {w h : Nat} {f0 : Nat → Int32} {g0 : Nat → Nat → Int32} {f : Nat → Int32} {g : Nat → Nat → Int32} {K : Int32 → mS → Prop} {m : Nat} (hV : V w h f0 g0 f g) (hm : f 34 = nI (m + 1)) (hm8 : m < 80) (hK : ∀ v : Int32, (0 ≤ v ∧ v < 64) → V w h f0 g0 (upd f 34 (nI m)) g → K v (upd f 34 (nI m), g)) : wpX11_drop f g K := by
  unfold wpX11_drop wpX11_drop_b0
  rw [hm, nI_pred]
  exact ⟨vin hm8 (by decide), hK _ hV.g32 (Vf (k := 34) rfl hV)⟩
