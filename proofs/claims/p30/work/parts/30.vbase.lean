/-! The reference: what every state keeps. -/
abbrev mS : Type := (Nat → Int32) × (Nat → Nat → Int32)
/-- bounds of the numbers -/
def fb (k : Nat) (v : Int32) : Prop :=
  (k = 1 → 0 ≤ v ∧ v ≤ 500) ∧ (k = 6 → 0 ≤ v ∧ v ≤ 500) ∧ (k = 7 → 0 ≤ v ∧ v ≤ 500) ∧ (k = 12 → 0 ≤ v ∧ v ≤ 30) ∧ (k = 20 → 0 ≤ v ∧ v ≤ 20) ∧ (k = 21 → 0 ≤ v ∧ v ≤ 20) ∧ (k = 23 → 0 ≤ v ∧ v ≤ 64) ∧ (k = 36 → 0 ≤ v ∧ v ≤ 64) ∧ (k = 42 → 0 ≤ v ∧ v ≤ 3)
def gb (k i : Nat) (v : Int32) : Prop :=
  (k = 3 → i = 111 → v = 32) ∧ (k = 13 ∨ k = 14 → 0 ≤ v ∧ v ≤ 12) ∧ (k = 25 ∨ k = 26 → 0 ≤ v ∧ v ≤ 64) ∧ (k = 32 → 0 ≤ v ∧ v < 64) ∧ (k = 47 → 0 ≤ v ∧ v ≤ 3)
/-- knots of nets: what they join lies ahead of them -/
def NK (g : Nat → Nat → Int32) : Prop := ∀ k, (g 27 k = 5 → 0 ≤ g 28 k ∧ g 28 k < 64) ∧ (g 27 k = 6 ∨ g 27 k = 7 → (0 ≤ g 28 k ∧ g 28 k < 64) ∧ 0 ≤ g 29 k ∧ g 29 k < 64)
def GE (w h : Nat) (f : Nat → Int32) : Prop := (f 38 = nI w ∧ f 39 = nI h) ∧ (2 ≤ w ∧ w ≤ 6) ∧ 2 ≤ h ∧ h ≤ 6
/-- walls around the floor stand -/
def RM (w h : Nat) (wl : Nat → Int32) : Prop := ∀ s, s < w * h → (s < w → bt (wl s) 0 = true) ∧ (s % w = w - 1 → bt (wl s) 1 = true) ∧ (w * h - w ≤ s → bt (wl s) 2 = true) ∧ (s % w = 0 → bt (wl s) 3 = true)
def GR (w h : Nat) (f : Nat → Int32) (g : Nat → Nat → Int32) : Prop := GE w h f ∧ RM w h (g 46) ∧ 0 ≤ f 40 ∧ f 40 < nI (w * h)
/-- all but where the mouse is, and the floor -/
def M0 (f : Nat → Int32) (g : Nat → Nat → Int32) : Prop := (∀ k, fb k (f k)) ∧ (∀ k i, gb k i (g k i)) ∧ f 7 ≤ f 6 ∧ NK g
def FR (f0 f : Nat → Int32) (g0 g : Nat → Nat → Int32) : Prop := (f 38 = f0 38 ∧ f 39 = f0 39 ∧ f 40 = f0 40) ∧ g 46 = g0 46 ∧ g 56 = g0 56 ∧ g 57 = g0 57
def V (w h : Nat) (f0 : Nat → Int32) (g0 : Nat → Nat → Int32) (f : Nat → Int32) (g : Nat → Nat → Int32) : Prop := M0 f g ∧ FR f0 f g0 g ∧ GR w h f0 g0 ∧ 0 ≤ f 41 ∧ f 41 < nI (w * h)
section VB
variable {w h : Nat} {f0 f : Nat → Int32} {g0 g : Nat → Nat → Int32} {k i : Nat} {v : Int32}
theorem V.b1 (e : V w h f0 g0 f g) : 0 ≤ f 1 ∧ f 1 ≤ 500 := (e.1.1 1).1 rfl
theorem V.b6 (e : V w h f0 g0 f g) : 0 ≤ f 6 ∧ f 6 ≤ 500 := (e.1.1 6).2.1 rfl
theorem V.b7 (e : V w h f0 g0 f g) : 0 ≤ f 7 ∧ f 7 ≤ f 6 := ⟨((e.1.1 7).2.2.1 rfl).1, e.1.2.2.1⟩
theorem V.b12 (e : V w h f0 g0 f g) : 0 ≤ f 12 ∧ f 12 ≤ 30 := (e.1.1 12).2.2.2.1 rfl
theorem V.b20 (e : V w h f0 g0 f g) : 0 ≤ f 20 ∧ f 20 ≤ 20 := (e.1.1 20).2.2.2.2.1 rfl
theorem V.b21 (e : V w h f0 g0 f g) : 0 ≤ f 21 ∧ f 21 ≤ 20 := (e.1.1 21).2.2.2.2.2.1 rfl
theorem V.b23 (e : V w h f0 g0 f g) : 0 ≤ f 23 ∧ f 23 ≤ 64 := (e.1.1 23).2.2.2.2.2.2.1 rfl
theorem V.b36 (e : V w h f0 g0 f g) : 0 ≤ f 36 ∧ f 36 ≤ 64 := (e.1.1 36).2.2.2.2.2.2.2.1 rfl
theorem V.b42 (e : V w h f0 g0 f g) : 0 ≤ f 42 ∧ f 42 ≤ 3 := (e.1.1 42).2.2.2.2.2.2.2.2 rfl
theorem V.b41 (e : V w h f0 g0 f g) : 0 ≤ f 41 ∧ f 41 < nI (w * h) := e.2.2.2
theorem V.b40 (e : V w h f0 g0 f g) : 0 ≤ f 40 ∧ f 40 < nI (w * h) := by rw [e.2.1.1.2.2]; exact e.2.2.1.2.2
theorem V.g13 (e : V w h f0 g0 f g) : 0 ≤ g 13 i ∧ g 13 i ≤ 12 := (e.1.2.1 13 i).2.1 (Or.inl rfl)
theorem V.g14 (e : V w h f0 g0 f g) : 0 ≤ g 14 i ∧ g 14 i ≤ 12 := (e.1.2.1 14 i).2.1 (Or.inr rfl)
theorem V.g25 (e : V w h f0 g0 f g) : 0 ≤ g 25 i ∧ g 25 i ≤ 64 := (e.1.2.1 25 i).2.2.1 (Or.inl rfl)
theorem V.g26 (e : V w h f0 g0 f g) : 0 ≤ g 26 i ∧ g 26 i ≤ 64 := (e.1.2.1 26 i).2.2.1 (Or.inr rfl)
theorem V.g32 (e : V w h f0 g0 f g) : 0 ≤ g 32 i ∧ g 32 i < 64 := (e.1.2.1 32 i).2.2.2.1 rfl
theorem V.g47 (e : V w h f0 g0 f g) : 0 ≤ g 47 i ∧ g 47 i ≤ 3 := (e.1.2.1 47 i).2.2.2.2 rfl
theorem V.g3 (e : V w h f0 g0 f g) : g 3 111 = 32 := (e.1.2.1 3 111).1 rfl rfl
theorem V.ge (e : V w h f0 g0 f g) : GE w h f := by
  have h1 := e.2.1.1
  have h2 := e.2.2.1.1
  exact ⟨⟨h1.1.trans h2.1.1, h1.2.1.trans h2.1.2⟩, h2.2⟩
theorem V.rm (e : V w h f0 g0 f g) : RM w h (g 46) := by rw [e.2.1.2.1]; exact e.2.2.1.2.1
theorem wh36 {w h : Nat} (e : (2 ≤ w ∧ w ≤ 6) ∧ 2 ≤ h ∧ h ≤ 6) : 4 ≤ w * h ∧ w * h ≤ 36 := ⟨Nat.mul_le_mul e.1.1 e.2.1, Nat.mul_le_mul e.1.2 e.2.2⟩
theorem GE.sq (e : GE w h f) : f 38 * f 39 = nI (w * h) := by rw [e.1.1, e.1.2]; exact pk_mul w h
theorem GE.n (e : GE w h f) : 4 ≤ nI (w * h) ∧ nI (w * h) ≤ 36 := by
  have h1 := wh36 e.2
  exact ⟨nI_le (a := 4) h1.1 (by omega), nI_le (b := 36) h1.2 (by omega)⟩
theorem V.n (e : V w h f0 g0 f g) : f 38 * f 39 = nI (w * h) ∧ 4 ≤ nI (w * h) ∧ nI (w * h) ≤ 36 := ⟨e.ge.sq, e.ge.n⟩
def uf (k : Nat) : Bool := !([1, 6, 7, 12, 20, 21, 23, 36, 42, 38, 39, 40, 41].contains k)
theorem fb_f (hk : uf k = true) : fb k v := by
  have h : ∀ j, [1, 6, 7, 12, 20, 21, 23, 36, 42, 38, 39, 40, 41].contains j = true → k ≠ j := fun j hj e => by
    rw [e] at hk; unfold uf at hk; rw [hj] at hk; cases hk
  exact ⟨fun e => absurd e (h 1 rfl), fun e => absurd e (h 6 rfl), fun e => absurd e (h 7 rfl), fun e => absurd e (h 12 rfl), fun e => absurd e (h 20 rfl), fun e => absurd e (h 21 rfl), fun e => absurd e (h 23 rfl), fun e => absurd e (h 36 rfl), fun e => absurd e (h 42 rfl)⟩
theorem uf_ne (hk : uf k = true) {j : Nat} (hj : uf j = false) : j ≠ k := fun e => by rw [e, hk] at hj; cases hj
theorem V_u (hb : fb k v) (h6 : k ≠ 6) (h7 : k ≠ 7) (h8 : k ≠ 38) (h9 : k ≠ 39) (h0 : k ≠ 40) (h1 : k ≠ 41) (e : V w h f0 g0 f g) : V w h f0 g0 (upd f k v) g := by
  have ne : ∀ j, j ≠ k → upd f k v j = f j := fun j hj => by rw [upd_r, if_neg hj]
  refine ⟨⟨fun j => ?_, e.1.2.1, by rw [ne 6 (Ne.symm h6), ne 7 (Ne.symm h7)]; exact e.1.2.2.1, e.1.2.2.2⟩, ⟨⟨by rw [ne 38 (Ne.symm h8)]; exact e.2.1.1.1, by rw [ne 39 (Ne.symm h9)]; exact e.2.1.1.2.1, by rw [ne 40 (Ne.symm h0)]; exact e.2.1.1.2.2⟩, e.2.1.2⟩, e.2.2.1, by rw [ne 41 (Ne.symm h1)]; exact e.2.2.2⟩
  rw [upd_r]
  by_cases hj : j = k
  · rw [if_pos hj, hj]; exact hb
  · rw [if_neg hj]; exact e.1.1 j
theorem Vf (hk : uf k = true) (e : V w h f0 g0 f g) : V w h f0 g0 (upd f k v) g := V_u (fb_f hk) (uf_ne hk rfl).symm (uf_ne hk rfl).symm (uf_ne hk rfl).symm (uf_ne hk rfl).symm (uf_ne hk rfl).symm (uf_ne hk rfl).symm e
theorem Vu1 (hv : 0 ≤ v ∧ v ≤ 500) (e : V w h f0 g0 f g) : V w h f0 g0 (upd f 1 v) g := V_u ⟨fun _ => hv, fun e => absurd e (by decide), fun e => absurd e (by decide), fun e => absurd e (by decide), fun e => absurd e (by decide), fun e => absurd e (by decide), fun e => absurd e (by decide), fun e => absurd e (by decide), fun e => absurd e (by decide)⟩ (by decide) (by decide) (by decide) (by decide) (by decide) (by decide) e
theorem Vu12 (hv : 0 ≤ v ∧ v ≤ 30) (e : V w h f0 g0 f g) : V w h f0 g0 (upd f 12 v) g := V_u ⟨fun e => absurd e (by decide), fun e => absurd e (by decide), fun e => absurd e (by decide), fun _ => hv, fun e => absurd e (by decide), fun e => absurd e (by decide), fun e => absurd e (by decide), fun e => absurd e (by decide), fun e => absurd e (by decide)⟩ (by decide) (by decide) (by decide) (by decide) (by decide) (by decide) e
theorem Vu20 (hv : 0 ≤ v ∧ v ≤ 20) (e : V w h f0 g0 f g) : V w h f0 g0 (upd f 20 v) g := V_u ⟨fun e => absurd e (by decide), fun e => absurd e (by decide), fun e => absurd e (by decide), fun e => absurd e (by decide), fun _ => hv, fun e => absurd e (by decide), fun e => absurd e (by decide), fun e => absurd e (by decide), fun e => absurd e (by decide)⟩ (by decide) (by decide) (by decide) (by decide) (by decide) (by decide) e
theorem Vu21 (hv : 0 ≤ v ∧ v ≤ 20) (e : V w h f0 g0 f g) : V w h f0 g0 (upd f 21 v) g := V_u ⟨fun e => absurd e (by decide), fun e => absurd e (by decide), fun e => absurd e (by decide), fun e => absurd e (by decide), fun e => absurd e (by decide), fun _ => hv, fun e => absurd e (by decide), fun e => absurd e (by decide), fun e => absurd e (by decide)⟩ (by decide) (by decide) (by decide) (by decide) (by decide) (by decide) e
theorem Vu23 (hv : 0 ≤ v ∧ v ≤ 64) (e : V w h f0 g0 f g) : V w h f0 g0 (upd f 23 v) g := V_u ⟨fun e => absurd e (by decide), fun e => absurd e (by decide), fun e => absurd e (by decide), fun e => absurd e (by decide), fun e => absurd e (by decide), fun e => absurd e (by decide), fun _ => hv, fun e => absurd e (by decide), fun e => absurd e (by decide)⟩ (by decide) (by decide) (by decide) (by decide) (by decide) (by decide) e
theorem Vu36 (hv : 0 ≤ v ∧ v ≤ 64) (e : V w h f0 g0 f g) : V w h f0 g0 (upd f 36 v) g := V_u ⟨fun e => absurd e (by decide), fun e => absurd e (by decide), fun e => absurd e (by decide), fun e => absurd e (by decide), fun e => absurd e (by decide), fun e => absurd e (by decide), fun e => absurd e (by decide), fun _ => hv, fun e => absurd e (by decide)⟩ (by decide) (by decide) (by decide) (by decide) (by decide) (by decide) e
theorem Vu42 (hv : 0 ≤ v ∧ v ≤ 3) (e : V w h f0 g0 f g) : V w h f0 g0 (upd f 42 v) g := V_u ⟨fun e => absurd e (by decide), fun e => absurd e (by decide), fun e => absurd e (by decide), fun e => absurd e (by decide), fun e => absurd e (by decide), fun e => absurd e (by decide), fun e => absurd e (by decide), fun e => absurd e (by decide), fun _ => hv⟩ (by decide) (by decide) (by decide) (by decide) (by decide) (by decide) e
theorem Vu7 (hv : 0 ≤ v ∧ v ≤ f 6) (e : V w h f0 g0 f g) : V w h f0 g0 (upd f 7 v) g := by
  have ne : ∀ j, j ≠ 7 → upd f 7 v j = f j := fun j hj => by rw [upd_r, if_neg hj]
  have h500 : v ≤ 500 := Int32.le_trans hv.2 e.b6.2
  refine ⟨⟨fun j => ?_, e.1.2.1, by rw [ne 6 (by decide), upd_r, if_pos rfl]; exact hv.2, e.1.2.2.2⟩, ⟨⟨e.2.1.1.1, e.2.1.1.2.1, e.2.1.1.2.2⟩, e.2.1.2⟩, e.2.2.1, e.2.2.2⟩
  rw [upd_r]
  by_cases hj : j = 7
  · rw [if_pos hj, hj]
    exact ⟨fun e => absurd e (by decide), fun e => absurd e (by decide), fun _ => ⟨hv.1, h500⟩, fun e => absurd e (by decide), fun e => absurd e (by decide), fun e => absurd e (by decide), fun e => absurd e (by decide), fun e => absurd e (by decide), fun e => absurd e (by decide)⟩
  · rw [if_neg hj]; exact e.1.1 j
theorem Vu41 (hv : 0 ≤ v ∧ v < nI (w * h)) (e : V w h f0 g0 f g) : V w h f0 g0 (upd f 41 v) g := by
  refine ⟨⟨fun j => ?_, e.1.2.1, e.1.2.2.1, e.1.2.2.2⟩, e.2.1, e.2.2.1, hv⟩
  rw [upd_r]
  by_cases hj : j = 41
  · rw [if_pos hj, hj]
    exact ⟨fun e => absurd e (by decide), fun e => absurd e (by decide), fun e => absurd e (by decide), fun e => absurd e (by decide), fun e => absurd e (by decide), fun e => absurd e (by decide), fun e => absurd e (by decide), fun e => absurd e (by decide), fun e => absurd e (by decide)⟩
  · rw [if_neg hj]; exact e.1.1 j
def gf (k : Nat) : Bool := !([3, 13, 14, 25, 26, 32, 47, 46, 56, 57, 27, 28, 29].contains k)
theorem gb_f (hk : gf k = true) : gb k i v := by
  have h : ∀ j, [3, 13, 14, 25, 26, 32, 47, 46, 56, 57, 27, 28, 29].contains j = true → k ≠ j := fun j hj e => by
    rw [e] at hk; unfold gf at hk; rw [hj] at hk; cases hk
  exact ⟨fun e => absurd e (h 3 rfl), fun e => e.elim (fun e => absurd e (h 13 rfl)) (fun e => absurd e (h 14 rfl)), fun e => e.elim (fun e => absurd e (h 25 rfl)) (fun e => absurd e (h 26 rfl)), fun e => absurd e (h 32 rfl), fun e => absurd e (h 47 rfl)⟩
theorem gf_ne (hk : gf k = true) {j : Nat} (hj : gf j = false) : j ≠ k := fun e => by rw [e, hk] at hj; cases hj
theorem V_g (hb : gb k i v) (h7 : 27 ≠ k) (h8 : 28 ≠ k) (h9 : 29 ≠ k) (h6 : 46 ≠ k) (h5 : 56 ≠ k) (h4 : 57 ≠ k) (e : V w h f0 g0 f g) : V w h f0 g0 f (pt g k i v) := by
  refine ⟨⟨e.1.1, fun q j => ?_, e.1.2.2.1, ?_⟩, ⟨e.2.1.1, by rw [pt_ne h6]; exact e.2.1.2.1, by rw [pt_ne h5]; exact e.2.1.2.2.1, by rw [pt_ne h4]; exact e.2.1.2.2.2⟩, e.2.2⟩
  · rw [pt_r]
    by_cases hq : q = k
    · rw [if_pos hq]
      by_cases hj : j = i
      · rw [if_pos hj, hq, hj]; exact hb
      · rw [if_neg hj, hq]; exact e.1.2.1 k j
    · rw [if_neg hq]; exact e.1.2.1 q j
  · unfold NK
    rw [pt_ne h7, pt_ne h8, pt_ne h9]
    exact e.1.2.2.2
theorem Vg (hk : gf k = true) (e : V w h f0 g0 f g) : V w h f0 g0 f (pt g k i v) := V_g (gb_f hk) (gf_ne hk rfl) (gf_ne hk rfl) (gf_ne hk rfl) (gf_ne hk rfl) (gf_ne hk rfl) (gf_ne hk rfl) e
theorem Vg13 (hv : 0 ≤ v ∧ v ≤ 12) (e : V w h f0 g0 f g) : V w h f0 g0 f (pt g 13 i v) := V_g ⟨fun e => absurd e (by decide), fun _ => hv, fun e => absurd e (by decide), fun e => absurd e (by decide), fun e => absurd e (by decide)⟩ (by decide) (by decide) (by decide) (by decide) (by decide) (by decide) e
theorem Vg14 (hv : 0 ≤ v ∧ v ≤ 12) (e : V w h f0 g0 f g) : V w h f0 g0 f (pt g 14 i v) := V_g ⟨fun e => absurd e (by decide), fun _ => hv, fun e => absurd e (by decide), fun e => absurd e (by decide), fun e => absurd e (by decide)⟩ (by decide) (by decide) (by decide) (by decide) (by decide) (by decide) e
theorem Vg25 (hv : 0 ≤ v ∧ v ≤ 64) (e : V w h f0 g0 f g) : V w h f0 g0 f (pt g 25 i v) := V_g ⟨fun e => absurd e (by decide), fun e => absurd e (by decide), fun _ => hv, fun e => absurd e (by decide), fun e => absurd e (by decide)⟩ (by decide) (by decide) (by decide) (by decide) (by decide) (by decide) e
theorem Vg26 (hv : 0 ≤ v ∧ v ≤ 64) (e : V w h f0 g0 f g) : V w h f0 g0 f (pt g 26 i v) := V_g ⟨fun e => absurd e (by decide), fun e => absurd e (by decide), fun _ => hv, fun e => absurd e (by decide), fun e => absurd e (by decide)⟩ (by decide) (by decide) (by decide) (by decide) (by decide) (by decide) e
theorem Vg32 (hv : 0 ≤ v ∧ v < 64) (e : V w h f0 g0 f g) : V w h f0 g0 f (pt g 32 i v) := V_g ⟨fun e => absurd e (by decide), fun e => absurd e (by decide), fun e => absurd e (by decide), fun _ => hv, fun e => absurd e (by decide)⟩ (by decide) (by decide) (by decide) (by decide) (by decide) (by decide) e
theorem Vg47 (hv : 0 ≤ v ∧ v ≤ 3) (e : V w h f0 g0 f g) : V w h f0 g0 f (pt g 47 i v) := V_g ⟨fun e => absurd e (by decide), fun e => absurd e (by decide), fun e => absurd e (by decide), fun e => absurd e (by decide), fun _ => hv⟩ (by decide) (by decide) (by decide) (by decide) (by decide) (by decide) e
end VB
