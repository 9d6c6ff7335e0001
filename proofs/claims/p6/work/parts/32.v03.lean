set_option maxHeartbeats 1000000 in
theorem l_X11_lineRead_b87 {w h : Nat} {f0 : Nat → Int32} {g0 : Nat → Nat → Int32} {x1 : Int32} {K : Int32 → ((Nat → Int32) × (Nat → Nat → Int32)) → Prop} (hK : ∀ v : Int32, ∀ u : mS, V w h f0 g0 u.1 u.2 → isB v → (v = 0 ∨ ¬ x1 = 30) → K v u) (n : Nat) : ∀ (f : Nat → Int32) (g : Nat → Nat → Int32) (x2 : Int32), V w h f0 g0 f g → 0 ≤ x2 ∧ x2 < 60 → ¬ x1 = 30 → mu (g 14 (ix x2)) < n → wpX11_lineRead_b87 n f g x2 K := by
  induction n with
  | zero => intro f g x2 hV hi0 hi1 hm; exact absurd hm (Nat.not_lt_zero _)
  | succ n ih =>
    intro f g x2 hV hi0 hi1 hm
    unfold wpX11_lineRead_b87 wpX11_lineRead_b87_body
    refine s_X11_actRead hV (by first | assumption | grind | (simp [pt_r, upd_r] <;> grind)) (fun r89 u89 hV89 hb89 hu89 => ?_)
    refine ⟨fun c0 => ?_, fun c0 => ?_⟩
    · refine s_X11_isSign hV89 (fun r100 hb100 hp100 => ?_)
      try dsimp only
      refine ⟨fun c1 => ?_, fun c1 => ?_⟩
      · exact ih _ _ _ hV89 (by first | assumption | grind | (simp [pt_r, upd_r] <;> grind)) (by first | assumption | grind | (simp [pt_r, upd_r] <;> grind)) (by first | (have q := hu89.resolve_left (by assumption); have q2 := hV89.g14 (i := ix x2); rw [q] at q2 ⊢; exact lt1 (mu_lt (N := 12) (by have := hV.g14 (i := ix x2); grind)) hm) | (have q := hu67.resolve_left (by assumption); have q2 := hV67.g13 (i := ix x2); rw [q] at q2 ⊢; exact lt1 (mu_lt (N := 12) (by have := hV.g13 (i := ix x2); grind)) hm))
      · refine s_X11_take hV89 (fun f107 hV107 hk107 => ?_)
        try dsimp only
        exact hK _ _ hV107 (by first | exact Or.inl rfl | exact Or.inr rfl | assumption) (by first | assumption | grind | (simp [pt_r, upd_r] <;> grind))
    · exact hK _ _ hV89 (by first | exact Or.inl rfl | exact Or.inr rfl | assumption) (by first | assumption | grind | (simp [pt_r, upd_r] <;> grind))
set_option maxHeartbeats 1000000 in
theorem l_X11_lineRead_b65 {w h : Nat} {f0 : Nat → Int32} {g0 : Nat → Nat → Int32} {x1 : Int32} {K : Int32 → ((Nat → Int32) × (Nat → Nat → Int32)) → Prop} (hK : ∀ v : Int32, ∀ u : mS, V w h f0 g0 u.1 u.2 → isB v → (v = 0 ∨ ¬ x1 = 30) → K v u) (n : Nat) : ∀ (f : Nat → Int32) (g : Nat → Nat → Int32) (x2 : Int32), V w h f0 g0 f g → 0 ≤ x2 ∧ x2 < 60 → ¬ x1 = 30 → mu (g 13 (ix x2)) < n → wpX11_lineRead_b65 n f g x2 K := by
  induction n with
  | zero => intro f g x2 hV hi0 hi1 hm; exact absurd hm (Nat.not_lt_zero _)
  | succ n ih =>
    intro f g x2 hV hi0 hi1 hm
    unfold wpX11_lineRead_b65 wpX11_lineRead_b65_body
    refine s_X11_testRead hV (by first | assumption | grind | (simp [pt_r, upd_r] <;> grind)) (fun r67 u67 hV67 hb67 hu67 => ?_)
    refine ⟨fun c0 => ?_, fun c0 => ?_⟩
    · refine s_X11_isKey hV67 (fun r77 hb77 hp77 => ?_)
      try dsimp only
      refine ⟨fun c1 => ?_, fun c1 => ?_⟩
      · exact ih _ _ _ hV67 (by first | assumption | grind | (simp [pt_r, upd_r] <;> grind)) (by first | assumption | grind | (simp [pt_r, upd_r] <;> grind)) (by first | (have q := hu89.resolve_left (by assumption); have q2 := hV89.g14 (i := ix x2); rw [q] at q2 ⊢; exact lt1 (mu_lt (N := 12) (by have := hV.g14 (i := ix x2); grind)) hm) | (have q := hu67.resolve_left (by assumption); have q2 := hV67.g13 (i := ix x2); rw [q] at q2 ⊢; exact lt1 (mu_lt (N := 12) (by have := hV.g13 (i := ix x2); grind)) hm))
      · unfold wpX11_lineRead_b83
        refine s_X11_take hV67 (fun f84 hV84 hk84 => ?_)
        try dsimp only
        exact ⟨_, l_X11_lineRead_b87 hK _ _ _ _ hV84 (by first | assumption | grind | (simp [pt_r, upd_r] <;> grind)) (by first | assumption | grind | (simp [pt_r, upd_r] <;> grind)) (Nat.lt_succ_self _)⟩
    · exact hK _ _ hV67 (by first | exact Or.inl rfl | exact Or.inr rfl | assumption) (by first | assumption | grind | (simp [pt_r, upd_r] <;> grind))
set_option maxHeartbeats 1000000 in
theorem s_X11_lineRead {w h : Nat} {f0 : Nat → Int32} {g0 : Nat → Nat → Int32} {f : Nat → Int32} {g : Nat → Nat → Int32} {x1 : Int32} {K : Int32 → ((Nat → Int32) × (Nat → Nat → Int32)) → Prop} (hV : V w h f0 g0 f g) (hp : 0 ≤ x1 ∧ x1 ≤ 30) (hK : ∀ v : Int32, ∀ u : mS, V w h f0 g0 u.1 u.2 → isB v → (v = 0 ∨ ¬ x1 = 30) → K v u) : wpX11_lineRead f g x1 K := by
  unfold wpX11_lineRead
  unfold wpX11_lineRead_b0
  refine s_X11_isKey hV (fun r2 hb2 hp2 => ?_)
  try dsimp only
  refine ⟨fun c0 => ?_, fun c0 => ?_⟩
  · unfold wpX11_lineRead_b22
    refine ⟨fun c1 => ?_, fun c1 => ?_⟩
    · refine ⟨vI (c := 60) rfl (by first | assumption | grind | (simp [pt_r, upd_r] <;> grind)) (by first | assumption | grind | (simp [pt_r, upd_r] <;> grind)), ?_⟩
      refine ⟨vI (c := 60) rfl (by first | assumption | grind | (simp [pt_r, upd_r] <;> grind)) (by first | assumption | grind | (simp [pt_r, upd_r] <;> grind)), ?_⟩
      refine s_X11_isKey (Vg14 (by first | assumption | grind | (simp [pt_r, upd_r] <;> grind)) (Vg13 (by first | assumption | grind | (simp [pt_r, upd_r] <;> grind)) hV)) (fun r55 hb55 hp55 => ?_)
      try dsimp only
      refine ⟨fun c2 => ?_, fun c2 => ?_⟩
      · unfold wpX11_lineRead_b83
        refine s_X11_take (Vg14 (by first | assumption | grind | (simp [pt_r, upd_r] <;> grind)) (Vg13 (by first | assumption | grind | (simp [pt_r, upd_r] <;> grind)) hV)) (fun f84 hV84 hk84 => ?_)
        try dsimp only
        exact ⟨_, l_X11_lineRead_b87 hK _ _ _ _ hV84 (by first | assumption | grind | (simp [pt_r, upd_r] <;> grind)) (by first | assumption | grind | (simp [pt_r, upd_r] <;> grind)) (Nat.lt_succ_self _)⟩
      · refine s_X11_take (Vg14 (by first | assumption | grind | (simp [pt_r, upd_r] <;> grind)) (Vg13 (by first | assumption | grind | (simp [pt_r, upd_r] <;> grind)) hV)) (fun f62 hV62 hk62 => ?_)
        try dsimp only
        exact ⟨_, l_X11_lineRead_b65 hK _ _ _ _ hV62 (by first | assumption | grind | (simp [pt_r, upd_r] <;> grind)) (by first | assumption | grind | (simp [pt_r, upd_r] <;> grind)) (Nat.lt_succ_self _)⟩
    · refine s_X11_wrong hV (fun r30 f30 hV30 hb30 hp30 hk30 => ?_)
      try dsimp only
      refine ⟨(by first | exact Or.inl rfl | exact Or.inr rfl | assumption), ?_⟩
      exact hK _ _ hV30 (by first | exact Or.inl rfl | exact Or.inr rfl | assumption) (by first | assumption | grind | (simp [pt_r, upd_r] <;> grind))
  · refine s_X11_isKey hV (fun r10 hb10 hp10 => ?_)
    try dsimp only
    refine ⟨fun c1 => ?_, fun c1 => ?_⟩
    · unfold wpX11_lineRead_b22
      refine ⟨fun c2 => ?_, fun c2 => ?_⟩
      · refine ⟨vI (c := 60) rfl (by first | assumption | grind | (simp [pt_r, upd_r] <;> grind)) (by first | assumption | grind | (simp [pt_r, upd_r] <;> grind)), ?_⟩
        refine ⟨vI (c := 60) rfl (by first | assumption | grind | (simp [pt_r, upd_r] <;> grind)) (by first | assumption | grind | (simp [pt_r, upd_r] <;> grind)), ?_⟩
        refine s_X11_isKey (Vg14 (by first | assumption | grind | (simp [pt_r, upd_r] <;> grind)) (Vg13 (by first | assumption | grind | (simp [pt_r, upd_r] <;> grind)) hV)) (fun r55 hb55 hp55 => ?_)
        try dsimp only
        refine ⟨fun c3 => ?_, fun c3 => ?_⟩
        · unfold wpX11_lineRead_b83
          refine s_X11_take (Vg14 (by first | assumption | grind | (simp [pt_r, upd_r] <;> grind)) (Vg13 (by first | assumption | grind | (simp [pt_r, upd_r] <;> grind)) hV)) (fun f84 hV84 hk84 => ?_)
          try dsimp only
          exact ⟨_, l_X11_lineRead_b87 hK _ _ _ _ hV84 (by first | assumption | grind | (simp [pt_r, upd_r] <;> grind)) (by first | assumption | grind | (simp [pt_r, upd_r] <;> grind)) (Nat.lt_succ_self _)⟩
        · refine s_X11_take (Vg14 (by first | assumption | grind | (simp [pt_r, upd_r] <;> grind)) (Vg13 (by first | assumption | grind | (simp [pt_r, upd_r] <;> grind)) hV)) (fun f62 hV62 hk62 => ?_)
          try dsimp only
          exact ⟨_, l_X11_lineRead_b65 hK _ _ _ _ hV62 (by first | assumption | grind | (simp [pt_r, upd_r] <;> grind)) (by first | assumption | grind | (simp [pt_r, upd_r] <;> grind)) (Nat.lt_succ_self _)⟩
      · refine s_X11_wrong hV (fun r30 f30 hV30 hb30 hp30 hk30 => ?_)
        try dsimp only
        refine ⟨(by first | exact Or.inl rfl | exact Or.inr rfl | assumption), ?_⟩
        exact hK _ _ hV30 (by first | exact Or.inl rfl | exact Or.inr rfl | assumption) (by first | assumption | grind | (simp [pt_r, upd_r] <;> grind))
    · refine s_X11_wrong hV (fun r18 f18 hV18 hb18 hp18 hk18 => ?_)
      try dsimp only
      refine ⟨(by first | exact Or.inl rfl | exact Or.inr rfl | assumption), ?_⟩
      exact hK _ _ hV18 (by first | exact Or.inl rfl | exact Or.inr rfl | assumption) (by first | assumption | grind | (simp [pt_r, upd_r] <;> grind))
set_option maxHeartbeats 1000000 in
theorem l_X11_rules_b199 {w h : Nat} {f0 : Nat → Int32} {g0 : Nat → Nat → Int32} {K : Int32 → ((Nat → Int32) × (Nat → Nat → Int32)) → Prop} (hK : ∀ v : Int32, ∀ u : mS, V w h f0 g0 u.1 u.2 → K v u) (n : Nat) : ∀ (f : Nat → Int32) (g : Nat → Nat → Int32) (x3 : Int32), V w h f0 g0 f g → 0 ≤ x3 → mu (x3) < n → wpX11_rules_b199 n f g x3 K := by
  induction n with
  | zero => intro f g x3 hV hi0 hm; exact absurd hm (Nat.not_lt_zero _)
  | succ n ih =>
    intro f g x3 hV hi0 hm
    have b12_i := hV.b12
    have e13_i := fun i => hV.g13 (i := i)
    have e14_i := fun i => hV.g14 (i := i)
    unfold wpX11_rules_b199 wpX11_rules_b199_body
    refine ⟨fun c0 => ?_, fun c0 => ?_⟩
    · exact hK _ _ hV
    · refine ⟨vI (c := 16) rfl (by first | assumption | grind | (simp [pt_r, upd_r] <;> grind)) (by first | assumption | grind | (simp [pt_r, upd_r] <;> grind)), ?_⟩
      exact ih _ _ _ (Vg (k := 58) rfl hV) (by first | assumption | grind | (simp [pt_r, upd_r] <;> grind)) (lt1 (mu_lt c0) hm)
set_option maxHeartbeats 1000000 in
theorem l_X11_rules_b95 {w h : Nat} {f0 : Nat → Int32} {g0 : Nat → Nat → Int32} {K : Int32 → ((Nat → Int32) × (Nat → Nat → Int32)) → Prop} (hK : ∀ v : Int32, ∀ u : mS, V w h f0 g0 u.1 u.2 → K v u) (n : Nat) : ∀ (f : Nat → Int32) (g : Nat → Nat → Int32) (x3 : Int32), V w h f0 g0 f g → 0 ≤ x3 → mu (x3) < n → wpX11_rules_b95 n f g x3 K := by
  induction n with
  | zero => intro f g x3 hV hi0 hm; exact absurd hm (Nat.not_lt_zero _)
  | succ n ih =>
    intro f g x3 hV hi0 hm
    have b12_i := hV.b12
    have e13_i := fun i => hV.g13 (i := i)
    have e14_i := fun i => hV.g14 (i := i)
    unfold wpX11_rules_b95 wpX11_rules_b95_body
    refine ⟨fun c0 => ?_, fun c0 => ?_⟩
    · exact ⟨_, l_X11_rules_b199 hK _ _ _ _ (Vf (k := 51) rfl hV) (by first | assumption | grind | (simp [pt_r, upd_r] <;> grind)) (Nat.lt_succ_self _)⟩
    · refine ⟨vI (c := 720) rfl (by first | assumption | grind | (simp [pt_r, upd_r] <;> grind)) (by first | assumption | grind | (simp [pt_r, upd_r] <;> grind)), ?_⟩
      refine ⟨vI (c := 720) rfl (by first | assumption | grind | (simp [pt_r, upd_r] <;> grind)) (by first | assumption | grind | (simp [pt_r, upd_r] <;> grind)), ?_⟩
      refine ⟨vI (c := 720) rfl (by first | assumption | grind | (simp [pt_r, upd_r] <;> grind)) (by first | assumption | grind | (simp [pt_r, upd_r] <;> grind)), ?_⟩
      refine ⟨vI (c := 720) rfl (by first | assumption | grind | (simp [pt_r, upd_r] <;> grind)) (by first | assumption | grind | (simp [pt_r, upd_r] <;> grind)), ?_⟩
      refine ⟨vI (c := 720) rfl (by first | assumption | grind | (simp [pt_r, upd_r] <;> grind)) (by first | assumption | grind | (simp [pt_r, upd_r] <;> grind)), ?_⟩
      refine ⟨vI (c := 720) rfl (by first | assumption | grind | (simp [pt_r, upd_r] <;> grind)) (by first | assumption | grind | (simp [pt_r, upd_r] <;> grind)), ?_⟩
      refine ⟨vI (c := 720) rfl (by first | assumption | grind | (simp [pt_r, upd_r] <;> grind)) (by first | assumption | grind | (simp [pt_r, upd_r] <;> grind)), ?_⟩
      refine ⟨vI (c := 720) rfl (by first | assumption | grind | (simp [pt_r, upd_r] <;> grind)) (by first | assumption | grind | (simp [pt_r, upd_r] <;> grind)), ?_⟩
      refine ⟨vI (c := 720) rfl (by first | assumption | grind | (simp [pt_r, upd_r] <;> grind)) (by first | assumption | grind | (simp [pt_r, upd_r] <;> grind)), ?_⟩
      refine ⟨vI (c := 720) rfl (by first | assumption | grind | (simp [pt_r, upd_r] <;> grind)) (by first | assumption | grind | (simp [pt_r, upd_r] <;> grind)), ?_⟩
      exact ih _ _ _ (Vg (k := 19) rfl (Vg (k := 18) rfl (Vg (k := 17) rfl (Vg (k := 16) rfl (Vg (k := 15) rfl hV))))) (by first | assumption | grind | (simp [pt_r, upd_r] <;> grind)) (lt1 (mu_lt c0) hm)
set_option maxHeartbeats 1000000 in
theorem l_X11_rules_b49 {w h : Nat} {f0 : Nat → Int32} {g0 : Nat → Nat → Int32} {K : Int32 → ((Nat → Int32) × (Nat → Nat → Int32)) → Prop} (hK : ∀ v : Int32, ∀ u : mS, V w h f0 g0 u.1 u.2 → K v u) (n : Nat) : ∀ (f : Nat → Int32) (g : Nat → Nat → Int32) (x3 : Int32), V w h f0 g0 f g → 0 ≤ x3 → mu (x3) < n → wpX11_rules_b49 n f g x3 K := by
  induction n with
  | zero => intro f g x3 hV hi0 hm; exact absurd hm (Nat.not_lt_zero _)
  | succ n ih =>
    intro f g x3 hV hi0 hm
    have b12_i := hV.b12
    have e13_i := fun i => hV.g13 (i := i)
    have e14_i := fun i => hV.g14 (i := i)
    unfold wpX11_rules_b49 wpX11_rules_b49_body
    refine ⟨fun c0 => ?_, fun c0 => ?_⟩
    · exact ⟨_, l_X11_rules_b95 hK _ _ _ _ hV (by first | assumption | grind | (simp [pt_r, upd_r] <;> grind)) (Nat.lt_succ_self _)⟩
    · refine ⟨vI (c := 60) rfl (by first | assumption | grind | (simp [pt_r, upd_r] <;> grind)) (by first | assumption | grind | (simp [pt_r, upd_r] <;> grind)), ?_⟩
      refine ⟨vI (c := 60) rfl (by first | assumption | grind | (simp [pt_r, upd_r] <;> grind)) (by first | assumption | grind | (simp [pt_r, upd_r] <;> grind)), ?_⟩
      refine ⟨vI (c := 60) rfl (by first | assumption | grind | (simp [pt_r, upd_r] <;> grind)) (by first | assumption | grind | (simp [pt_r, upd_r] <;> grind)), ?_⟩
      refine ⟨vI (c := 60) rfl (by first | assumption | grind | (simp [pt_r, upd_r] <;> grind)) (by first | assumption | grind | (simp [pt_r, upd_r] <;> grind)), ?_⟩
      exact ih _ _ _ (Vg14 (by first | assumption | grind | (simp [pt_r, upd_r] <;> grind)) (Vg13 (by first | assumption | grind | (simp [pt_r, upd_r] <;> grind)) hV)) (by first | assumption | grind | (simp [pt_r, upd_r] <;> grind)) (lt1 (mu_lt c0) hm)
set_option maxHeartbeats 1000000 in
theorem l_X11_rules_b19 {w h : Nat} {f0 : Nat → Int32} {g0 : Nat → Nat → Int32} {K : Int32 → ((Nat → Int32) × (Nat → Nat → Int32)) → Prop} (hK : ∀ v : Int32, ∀ u : mS, V w h f0 g0 u.1 u.2 → K v u) (n : Nat) : ∀ (f : Nat → Int32) (g : Nat → Nat → Int32) (x2 : Int32), V w h f0 g0 f g → 0 ≤ x2 ∧ x2 ≤ 30 → mu (x2) < n → wpX11_rules_b19 n f g x2 K := by
  induction n with
  | zero => intro f g x2 hV hi0 hm; exact absurd hm (Nat.not_lt_zero _)
  | succ n ih =>
    intro f g x2 hV hi0 hm
    have b12_i := hV.b12
    have e13_i := fun i => hV.g13 (i := i)
    have e14_i := fun i => hV.g14 (i := i)
    unfold wpX11_rules_b19 wpX11_rules_b19_body
    refine ⟨fun c0 => ?_, fun c0 => ?_⟩
    · exact ⟨_, l_X11_rules_b49 hK _ _ _ _ (Vu12 (by first | assumption | grind | (simp [pt_r, upd_r] <;> grind)) hV) (by first | assumption | grind | (simp [pt_r, upd_r] <;> grind)) (Nat.lt_succ_self _)⟩
    · refine s_X11_lineRead hV (by first | exact Or.inl rfl | exact Or.inr rfl | assumption | grind) (fun r28 u28 hV28 hb28 hu28 => ?_)
      have b12_28 := hV28.b12
      have e13_28 := fun i => hV28.g13 (i := i)
      have e14_28 := fun i => hV28.g14 (i := i)
      refine ⟨fun c1 => ?_, fun c1 => ?_⟩
      · exact ih _ _ _ hV28 (by first | assumption | grind | (simp [pt_r, upd_r] <;> grind)) (by exact lt1 (mu_lt (N := 30) (by grind)) hm)
      · exact hK _ _ hV28
set_option maxHeartbeats 1000000 in
theorem s_X11_rules {w h : Nat} {f0 : Nat → Int32} {g0 : Nat → Nat → Int32} {f : Nat → Int32} {g : Nat → Nat → Int32} {x1 : Int32} {K : Int32 → ((Nat → Int32) × (Nat → Nat → Int32)) → Prop} (hV : V w h f0 g0 f g) (hK : ∀ v : Int32, ∀ u : mS, V w h f0 g0 u.1 u.2 → K v u) : wpX11_rules f g x1 K := by
  have b12_i := hV.b12
  have e13_i := fun i => hV.g13 (i := i)
  have e14_i := fun i => hV.g14 (i := i)
  unfold wpX11_rules
  unfold wpX11_rules_b0
  refine s_X11_starts (Vf (k := 2) rfl hV) (by first | exact Or.inl rfl | exact Or.inr rfl | assumption | grind) (fun r8 u8 hV8 hb8 => ?_)
  have b12_8 := hV8.b12
  have e13_8 := fun i => hV8.g13 (i := i)
  have e14_8 := fun i => hV8.g14 (i := i)
  refine ⟨fun c0 => ?_, fun c0 => ?_⟩
  · exact ⟨_, l_X11_rules_b19 hK _ _ _ _ hV8 (by first | assumption | grind | (simp [pt_r, upd_r] <;> grind)) (Nat.lt_succ_self _)⟩
  · exact hK _ _ hV8
set_option maxHeartbeats 1000000 in
theorem s_X11_fault {w h : Nat} {f0 : Nat → Int32} {g0 : Nat → Nat → Int32} {f : Nat → Int32} {g : Nat → Nat → Int32} {x1 : Int32} {K : Int32 → ((Nat → Int32) × (Nat → Nat → Int32)) → Prop} (hV : V w h f0 g0 f g) (hK : ∀ v : Int32, ∀ u : mS, V w h f0 g0 u.1 u.2 → K v u) : wpX11_fault f g x1 K := by
  unfold wpX11_fault
  unfold wpX11_fault_b0
  refine ⟨fun c0 => ?_, fun c0 => ?_⟩
  · refine ⟨fun c1 => ?_, fun c1 => ?_⟩
    · unfold wpX11_fault_b29
      exact hK _ _ (Vf (k := 2) rfl hV)
    · unfold wpX11_fault_b29
      exact hK _ _ (Vf (k := 2) rfl hV)
  · unfold wpX11_fault_b29
    exact hK _ _ (Vf (k := 2) rfl hV)
set_option maxHeartbeats 1000000 in
theorem s_X11_weight {x0 : Int32} {K : Int32 → Unit → Prop} (hK : ∀ v : Int32, (v = 0 ∨ v = 1 ∨ v = 2 ∨ v = 3) → K v ()) : wpX11_weight x0 K := by
  unfold wpX11_weight
  unfold wpX11_weight_b0
  refine ⟨fun c0 => ?_, fun c0 => ?_⟩
  · refine ⟨fun c1 => ?_, fun c1 => ?_⟩
    · refine ⟨fun c2 => ?_, fun c2 => ?_⟩
      · unfold wpX11_weight_b30
        exact hK _ (by first | assumption | grind | (simp [pt_r, upd_r] <;> grind))
      · unfold wpX11_weight_b30
        exact hK _ (by first | assumption | grind | (simp [pt_r, upd_r] <;> grind))
    · unfold wpX11_weight_b30
      exact hK _ (by first | assumption | grind | (simp [pt_r, upd_r] <;> grind))
  · unfold wpX11_weight_b30
    exact hK _ (by first | assumption | grind | (simp [pt_r, upd_r] <;> grind))
set_option maxHeartbeats 1000000 in
theorem l_X11_relayRead_b2 {w h : Nat} {f0 : Nat → Int32} {g0 : Nat → Nat → Int32} {f : Nat → Int32} {g : Nat → Nat → Int32} {K : Int32 → ((Nat → Int32) × (Nat → Nat → Int32)) → Prop} (hV : V w h f0 g0 f g) (hK : ∀ v : Int32, (v = -1 ∨ (0 ≤ v ∧ v < 20)) → K v (f, g)) (n : Nat) : ∀ (x1 : Int32) (x2 : Int32), 0 ≤ x2 → mu (x2) < n → wpX11_relayRead_b2 n f g x1 x2 K := by
  induction n with
  | zero => intro x1 x2 hi0 hm; exact absurd hm (Nat.not_lt_zero _)
  | succ n ih =>
    intro x1 x2 hi0 hm
    have b21_i := hV.b21
    unfold wpX11_relayRead_b2 wpX11_relayRead_b2_body
    refine ⟨fun c0 => ?_, fun c0 => ?_⟩
    · exact hK _ (by first | assumption | grind | (simp [pt_r, upd_r] <;> grind))
    · refine ⟨vI (c := 40) rfl (by first | assumption | grind | (simp [pt_r, upd_r] <;> grind)) (by first | assumption | grind | (simp [pt_r, upd_r] <;> grind)), ?_⟩
      refine ⟨fun c1 => ?_, fun c1 => ?_⟩
      · exact ih _ _ (by first | assumption | grind | (simp [pt_r, upd_r] <;> grind)) (lt1 (mu_lt c0) hm)
      · exact hK _ (by first | assumption | grind | (simp [pt_r, upd_r] <;> grind))
set_option maxHeartbeats 1000000 in
theorem s_X11_relayRead {w h : Nat} {f0 : Nat → Int32} {g0 : Nat → Nat → Int32} {f : Nat → Int32} {g : Nat → Nat → Int32} {x1 : Int32} {K : Int32 → ((Nat → Int32) × (Nat → Nat → Int32)) → Prop} (hV : V w h f0 g0 f g) (hK : ∀ v : Int32, (v = -1 ∨ (0 ≤ v ∧ v < 20)) → K v (f, g)) : wpX11_relayRead f g x1 K := by
  have b21_i := hV.b21
  unfold wpX11_relayRead
  unfold wpX11_relayRead_b0
  exact ⟨_, l_X11_relayRead_b2 hV hK _ _ _ (by first | assumption | grind | (simp [pt_r, upd_r] <;> grind)) (Nat.lt_succ_self _)⟩
set_option maxHeartbeats 1000000 in
theorem s_X11_forgets {w h : Nat} {f0 : Nat → Int32} {g0 : Nat → Nat → Int32} {f : Nat → Int32} {g : Nat → Nat → Int32} {K : ((Nat → Int32) × (Nat → Nat → Int32)) → Prop} (hV : V w h f0 g0 f g) (hK : ∀ u : mS, V w h f0 g0 u.1 u.2 → K u) : wpX11_forgets f g K := by
  unfold wpX11_forgets
  unfold wpX11_forgets_b0
  exact hK _ (Vf (k := 66) rfl hV)
set_option maxHeartbeats 1000000 in
theorem s_X11_isSquare {w h : Nat} {f0 : Nat → Int32} {g0 : Nat → Nat → Int32} {f : Nat → Int32} {g : Nat → Nat → Int32} {x1 : Int32} {K : Int32 → ((Nat → Int32) × (Nat → Nat → Int32)) → Prop} (hV : V w h f0 g0 f g) (hK : ∀ v : Int32, isB v → (v = 0 ∨ (0 ≤ x1 ∧ x1 < nI (w * h))) → K v (f, g)) : wpX11_isSquare f g x1 K := by
  have b41_i := hV.b41
  have b42_i := hV.b42
  have n_i := hV.n
  unfold wpX11_isSquare
  unfold wpX11_isSquare_b0
  refine ⟨fun c0 => ?_, fun c0 => ?_⟩
  · unfold wpX11_isSquare_b16
    unfold wpX11_isSquare_b17
    refine ⟨(by first | exact Or.inl rfl | exact Or.inr rfl | assumption), ?_⟩
    exact hK _ (by first | exact Or.inl rfl | exact Or.inr rfl | assumption) (by first | assumption | grind | (simp [pt_r, upd_r] <;> grind))
  · refine s_X11_squares (hV).gx (fun r6 hp6 => ?_)
    try dsimp only
    refine ⟨fun c1 => ?_, fun c1 => ?_⟩
    · unfold wpX11_isSquare_b16
      unfold wpX11_isSquare_b17
      refine ⟨(by first | exact Or.inl rfl | exact Or.inr rfl | assumption), ?_⟩
      exact hK _ (by first | exact Or.inl rfl | exact Or.inr rfl | assumption) (by first | assumption | grind | (simp [pt_r, upd_r] <;> grind))
    · unfold wpX11_isSquare_b17
      refine ⟨(by first | exact Or.inl rfl | exact Or.inr rfl | assumption), ?_⟩
      exact hK _ (by first | exact Or.inl rfl | exact Or.inr rfl | assumption) (by first | assumption | grind | (simp [pt_r, upd_r] <;> grind))
set_option maxHeartbeats 1000000 in
theorem l_X11_wipes_b2 {w h : Nat} {f0 : Nat → Int32} {g0 : Nat → Nat → Int32} {K : ((Nat → Int32) × (Nat → Nat → Int32)) → Prop} (hK : ∀ u : mS, V w h f0 g0 u.1 u.2 → K u) (n : Nat) : ∀ (f : Nat → Int32) (g : Nat → Nat → Int32) (x1 : Int32), V w h f0 g0 f g → 0 ≤ x1 → mu (x1) < n → wpX11_wipes_b2 n f g x1 K := by
  induction n with
  | zero => intro f g x1 hV hi0 hm; exact absurd hm (Nat.not_lt_zero _)
  | succ n ih =>
    intro f g x1 hV hi0 hm
    have b41_i := hV.b41
    have b42_i := hV.b42
    have n_i := hV.n
    unfold wpX11_wipes_b2 wpX11_wipes_b2_body
    refine s_X11_squares (hV).gx (fun r4 hp4 => ?_)
    try dsimp only
    refine ⟨fun c0 => ?_, fun c0 => ?_⟩
    · exact hK _ hV
    · refine ⟨vI (c := 36) rfl (by first | assumption | grind | (simp [pt_r, upd_r] <;> grind)) (by first | assumption | grind | (simp [pt_r, upd_r] <;> grind)), ?_⟩
      refine ⟨vI (c := 36) rfl (by first | assumption | grind | (simp [pt_r, upd_r] <;> grind)) (by first | assumption | grind | (simp [pt_r, upd_r] <;> grind)), ?_⟩
      exact ih _ _ _ (Vg (k := 48) rfl (Vg47 (by first | assumption | grind | (simp [pt_r, upd_r] <;> grind)) hV)) (by first | assumption | grind | (simp [pt_r, upd_r] <;> grind)) (lt1 (mu_lt c0) hm)
set_option maxHeartbeats 1000000 in
theorem s_X11_wipes {w h : Nat} {f0 : Nat → Int32} {g0 : Nat → Nat → Int32} {f : Nat → Int32} {g : Nat → Nat → Int32} {K : ((Nat → Int32) × (Nat → Nat → Int32)) → Prop} (hV : V w h f0 g0 f g) (hK : ∀ u : mS, V w h f0 g0 u.1 u.2 → K u) : wpX11_wipes f g K := by
  have b41_i := hV.b41
  have b42_i := hV.b42
  have n_i := hV.n
  unfold wpX11_wipes
  unfold wpX11_wipes_b0
  exact ⟨_, l_X11_wipes_b2 hK _ _ _ _ hV (by first | assumption | grind | (simp [pt_r, upd_r] <;> grind)) (Nat.lt_succ_self _)⟩
set_option maxHeartbeats 1000000 in
theorem l_X11_wipe_b9 {w h : Nat} {f0 : Nat → Int32} {g0 : Nat → Nat → Int32} {K : Int32 → ((Nat → Int32) × (Nat → Nat → Int32)) → Prop} (hK : ∀ v : Int32, ∀ u : mS, V w h f0 g0 u.1 u.2 → K v u) (n : Nat) : ∀ (f : Nat → Int32) (g : Nat → Nat → Int32) (x1 : Int32) (x2 : Int32), V w h f0 g0 f g → 0 ≤ x2 → mu (x2) < n → wpX11_wipe_b9 n f g x1 x2 K := by
  induction n with
  | zero => intro f g x1 x2 hV hi0 hm; exact absurd hm (Nat.not_lt_zero _)
  | succ n ih =>
    intro f g x1 x2 hV hi0 hm
    have b41_i := hV.b41
    have b42_i := hV.b42
    have n_i := hV.n
    unfold wpX11_wipe_b9 wpX11_wipe_b9_body
    refine s_X11_squares (hV).gx (fun r11 hp11 => ?_)
    try dsimp only
    refine ⟨fun c0 => ?_, fun c0 => ?_⟩
    · refine s_X11_wipes hV (fun u50 hV50 => ?_)
      have b41_50 := hV50.b41
      have b42_50 := hV50.b42
      have n_50 := hV50.n
      exact hK _ _ (Vf (k := 45) rfl (Vf (k := 44) rfl (Vf (k := 43) rfl hV50)))
    · refine ⟨vI (c := 36) rfl (by first | assumption | grind | (simp [pt_r, upd_r] <;> grind)) (by first | assumption | grind | (simp [pt_r, upd_r] <;> grind)), ?_⟩
      refine ⟨fun c1 => ?_, fun c1 => ?_⟩
      · unfold wpX11_wipe_b36
        unfold wpX11_wipe_b41
        exact ih _ _ _ _ hV (by first | assumption | grind | (simp [pt_r, upd_r] <;> grind)) (lt1 (mu_lt c0) hm)
      · refine ⟨vI (c := 36) rfl (by first | assumption | grind | (simp [pt_r, upd_r] <;> grind)) (by first | assumption | grind | (simp [pt_r, upd_r] <;> grind)), ?_⟩
        refine ⟨fun c2 => ?_, fun c2 => ?_⟩
        · unfold wpX11_wipe_b41
          exact ih _ _ _ _ hV (by first | assumption | grind | (simp [pt_r, upd_r] <;> grind)) (lt1 (mu_lt c0) hm)
        · unfold wpX11_wipe_b36
          unfold wpX11_wipe_b41
          exact ih _ _ _ _ hV (by first | assumption | grind | (simp [pt_r, upd_r] <;> grind)) (lt1 (mu_lt c0) hm)
