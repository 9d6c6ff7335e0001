def KP (w h : Nat) (g : Nat → Nat → Int32) : Prop := ∀ k, k < 4 → ¬ g 56 k = 0 → IM w h k (g 57)
theorem KP.ke {w h : Nat} {g g' : Nat → Nat → Int32} (hk : KP w h g) (e : KE g g') : KP w h g' := by
  intro k h4 hn
  rw [e.1] at hn
  exact (hk k h4 hn).eq (fun i _ h2 => e.2 i (by omega))
theorem KE.rf {g : Nat → Nat → Int32} : KE g g := ⟨rfl, fun _ _ => rfl⟩
theorem KE.tr {a b c : Nat → Nat → Int32} (h1 : KE a b) (h2 : KE b c) : KE a c := ⟨h2.1.trans h1.1, fun i hi => (h2.2 i hi).trans (h1.2 i hi)⟩
theorem KE.of {g g' : Nat → Nat → Int32} (h1 : g' 56 = g 56) (h2 : g' 57 = g 57) : KE g g' := ⟨h1, fun i _ => by rw [h2]⟩
section PU
variable {w h : Nat} {f : Nat → Int32} {K : mS → Prop}
/-- what putting into image k changes -/
def PU (f : Nat → Int32) (g : Nat → Nat → Int32) (k i : Nat) (g' : Nat → Nat → Int32) : Prop := (∀ j, j ≠ 57 → g' j = g j) ∧ (∀ m, m < 5 → g' 57 (120 * k + m) = f (38 + m)) ∧ (∀ s, s < i → g' 57 (120 * k + 8 + s) = g 46 s ∧ g' 57 (120 * k + 44 + s) = g 47 s) ∧ ∀ q, q < 120 * k ∨ 120 * k + 120 ≤ q → g' 57 q = g 57 q
theorem pu_103 {g : Nat → Nat → Int32} {k : Nat} (hk : k < 7) (hK : ∀ g', PU f g k 36 g' → K (f, g')) (m : Nat) : ∀ (g' : Nat → Nat → Int32) (i : Nat), PU f g k i g' → i ≤ 36 → 36 - i < m → wpX11_puts_b103 m f g' (nI (120 * k)) (nI i) K := by
  induction m with
  | zero => intro g' i _ _ hm; exact absurd hm (Nat.not_lt_zero _)
  | succ m ih =>
    intro g' i hP hi hm
    unfold wpX11_puts_b103 wpX11_puts_b103_body
    refine ⟨fun c => ?_, fun c => ?_⟩
    · have h4 : i = 36 := by
        rcases Nat.lt_or_ge i 36 with q | q
        · exact absurd c (nI_ge (b := 36) q (by omega))
        · omega
      subst h4
      exact hK _ hP
    · have h4 : i < 36 := by
        rcases Nat.lt_or_ge i 36 with q | q
        · exact q
        · exact absurd (nI_le (a := 36) q (by omega)) c
      have v : vp_in (nI i) 36 := vin h4 (by decide)
      have e1 : nI (120 * k) + 8 + nI i = nI (120 * k + 8 + i) := by rw [show (8 : Int32) = nI 8 from rfl, nI_add, nI_add]
      have e2 : nI (120 * k) + 44 + nI i = nI (120 * k + 44 + i) := by rw [show (44 : Int32) = nI 44 from rfl, nI_add, nI_add]
      have e3 : nI (120 * k) + 80 + nI i = nI (120 * k + 80 + i) := by rw [show (80 : Int32) = nI 80 from rfl, nI_add, nI_add]
      rw [e1, e2, e3, ix_nI (n := i) (by omega), ix_nI (n := 120 * k + 8 + i) (by omega), ix_nI (n := 120 * k + 44 + i) (by omega), ix_nI (n := 120 * k + 80 + i) (by omega), nI_1]
      refine ⟨v, vin (by omega) (by decide), v, vin (by omega) (by decide), v, vin (by omega) (by decide), ih _ (i + 1) ⟨fun j hj => ?_, fun m hm' => ?_, fun s hs => ?_, fun q hq => ?_⟩ (by omega) (by omega)⟩
      · rw [pt_ne hj, pt_ne hj, pt_ne hj]; exact hP.1 j hj
      · simp only [pt_r, if_true]
        rw [if_neg (by omega), if_neg (by omega), if_neg (by omega)]
        exact hP.2.1 m hm'
      · have h46 := hP.1 46 (by decide)
        have h47 := hP.1 47 (by decide)
        simp only [pt_r, if_true]
        rw [h46, h47]
        by_cases e : s = i
        · subst e
          rw [if_neg (by omega), if_neg (by omega), if_pos rfl, if_neg (by omega), if_pos rfl]
          exact ⟨rfl, rfl⟩
        · rw [if_neg (by omega), if_neg (by omega), if_neg (by omega), if_neg (by omega), if_neg (by omega), if_neg (by omega)]
          exact hP.2.2.1 s (by omega)
      · simp only [pt_r, if_true]
        rw [if_neg (by omega), if_neg (by omega), if_neg (by omega)]
        exact hP.2.2.2 q hq
theorem m_puts0 {g : Nat → Nat → Int32} {k : Nat} (hk : k < 7) (hK : ∀ g', PU f g k 36 g' → K (f, g')) : wpX11_puts f g (nI k) K := by
  unfold wpX11_puts wpX11_puts_b0
  have e0 : (120 : Int32) * nI k = nI (120 * k) := by rw [show (120 : Int32) = nI 120 from rfl, pk_mul]
  have ej : ∀ j : Nat, nI (120 * k) + nI j = nI (120 * k + j) := fun j => nI_add _ _
  rw [e0, show (1 : Int32) = nI 1 from rfl, show (2 : Int32) = nI 2 from rfl, show (3 : Int32) = nI 3 from rfl, show (4 : Int32) = nI 4 from rfl, show (5 : Int32) = nI 5 from rfl, show (6 : Int32) = nI 6 from rfl, show (7 : Int32) = nI 7 from rfl]
  simp only [ej]
  have vv : ∀ j, j < 8 → vp_in (nI (120 * k + j)) 840 := fun j hj => vin (by omega) (by decide)
  refine ⟨vin (by omega) (by decide), vv 1 (by omega), vv 2 (by omega), vv 3 (by omega), vv 4 (by omega), vv 5 (by omega), vv 6 (by omega), vv 7 (by omega), 40, ?_⟩
  rw [ix_nI (n := 120 * k) (by omega), ix_nI (n := 120 * k + 1) (by omega), ix_nI (n := 120 * k + 2) (by omega), ix_nI (n := 120 * k + 3) (by omega), ix_nI (n := 120 * k + 4) (by omega), ix_nI (n := 120 * k + 5) (by omega), ix_nI (n := 120 * k + 6) (by omega), ix_nI (n := 120 * k + 7) (by omega)]
  refine pu_103 hk hK 40 _ 0 ⟨fun j hj => ?_, fun m hm' => ?_, fun s hs => by omega, fun q hq => ?_⟩ (by omega) (by omega)
  · simp only [pt_ne hj]
  · have hc : m = 0 ∨ m = 1 ∨ m = 2 ∨ m = 3 ∨ m = 4 := by omega
    rcases hc with rfl | rfl | rfl | rfl | rfl <;> simp [pt_r]
  · simp only [pt_r, if_true]
    rw [if_neg (by omega), if_neg (by omega), if_neg (by omega), if_neg (by omega), if_neg (by omega), if_neg (by omega), if_neg (by omega), if_neg (by omega)]
theorem m_puts {f0 : Nat → Int32} {g0 g : Nat → Nat → Int32} {k : Nat} (hk : k < 7) (hV : V w h f0 g0 f g) (hK : ∀ g' : Nat → Nat → Int32, V w h f g' f g' → g' 56 = g 56 → IM w h k (g' 57) → (∀ q, q < 120 * k ∨ 120 * k + 120 ≤ q → g' 57 q = g 57 q) → K (f, g')) : wpX11_puts f g (nI k) K := by
  have e := hV.ge
  have h36 := (wh36 e.2).2
  refine m_puts0 hk (fun g' hP => hK g' ?_ (hP.1 56 (by decide)) ?_ hP.2.2.2)
  · refine mkV (hV.1.g (fun j _ hj => hP.1 j (fun e => by subst e; cases hj)) (fun i => by rw [hP.1 47 (by decide)]; exact hV.g47)) ⟨hV.ge, by rw [hP.1 46 (by decide)]; exact hV.rm, hV.b40⟩ hV.b41
  · have q0 := hP.2.1 0 (by omega)
    have q1 := hP.2.1 1 (by omega)
    have q2 := hP.2.1 2 (by omega)
    have q3 := hP.2.1 3 (by omega)
    have q4 := hP.2.1 4 (by omega)
    refine ⟨⟨⟨?_, ?_⟩, e.2⟩, ?_, ?_, ?_, fun s hs => ?_, fun s hs => ?_⟩
    · rw [Nat.add_zero] at q0; rw [q0]; exact e.1.1
    · rw [q1]; exact e.1.2
    · rw [q2]; exact hV.b40
    · rw [q3]; exact hV.b41
    · rw [q4]; exact hV.b42
    · have := (hP.2.2.1 s (by omega)).1
      dsimp only
      rw [this]; exact hV.rm s hs
    · rw [(hP.2.2.1 s hs).2]; exact hV.g47
end PU
section TU
variable {w h : Nat} {K : mS → Prop}
def TU (g : Nat → Nat → Int32) (k i : Nat) (g' : Nat → Nat → Int32) : Prop := (∀ j, j ≠ 46 → j ≠ 47 → j ≠ 48 → g' j = g j) ∧ (∀ s, s < i → g' 46 s = g 57 (120 * k + 8 + s) ∧ g' 47 s = g 57 (120 * k + 44 + s)) ∧ ∀ s, i ≤ s → g' 47 s = g 47 s
theorem tu_103 {f : Nat → Int32} {g : Nat → Nat → Int32} {k : Nat} (hk : k < 7) (hK : ∀ g', TU g k 36 g' → K (f, g')) (m : Nat) : ∀ (g' : Nat → Nat → Int32) (i : Nat), TU g k i g' → i ≤ 36 → 36 - i < m → wpX11_takes_b103 m f g' (nI (120 * k)) (nI i) K := by
  induction m with
  | zero => intro g' i _ _ hm; exact absurd hm (Nat.not_lt_zero _)
  | succ m ih =>
    intro g' i hP hi hm
    unfold wpX11_takes_b103 wpX11_takes_b103_body
    refine ⟨fun c => ?_, fun c => ?_⟩
    · have h4 : i = 36 := by
        rcases Nat.lt_or_ge i 36 with q | q
        · exact absurd c (nI_ge (b := 36) q (by omega))
        · omega
      subst h4
      exact hK _ hP
    · have h4 : i < 36 := by
        rcases Nat.lt_or_ge i 36 with q | q
        · exact q
        · exact absurd (nI_le (a := 36) q (by omega)) c
      have v : vp_in (nI i) 36 := vin h4 (by decide)
      have e1 : nI (120 * k) + 8 + nI i = nI (120 * k + 8 + i) := by rw [show (8 : Int32) = nI 8 from rfl, nI_add, nI_add]
      have e2 : nI (120 * k) + 44 + nI i = nI (120 * k + 44 + i) := by rw [show (44 : Int32) = nI 44 from rfl, nI_add, nI_add]
      have e3 : nI (120 * k) + 80 + nI i = nI (120 * k + 80 + i) := by rw [show (80 : Int32) = nI 80 from rfl, nI_add, nI_add]
      have h57 := hP.1 57 (by decide) (by decide) (by decide)
      rw [e1, e2, e3, ix_nI (n := i) (by omega), ix_nI (n := 120 * k + 8 + i) (by omega), ix_nI (n := 120 * k + 44 + i) (by omega), ix_nI (n := 120 * k + 80 + i) (by omega), nI_1]
      refine ⟨vin (by omega) (by decide), v, vin (by omega) (by decide), v, vin (by omega) (by decide), v, ih _ (i + 1) ⟨fun j h6 h7 h8 => ?_, fun s hs => ?_, fun s hs => ?_⟩ (by omega) (by omega)⟩
      · rw [pt_ne h8, pt_ne h7, pt_ne h6]; exact hP.1 j h6 h7 h8
      · rw [h57]
        by_cases e : s = i
        · subst e; simp [pt_r]
        · have q := hP.2.1 s (by omega)
          simp [pt_r, e, q.1, q.2]
      · rw [h57]
        have e : ¬ s = i := by omega
        have q := hP.2.2 s (by omega)
        simp [pt_r, e, q]
theorem m_takes {f : Nat → Int32} {g : Nat → Nat → Int32} {k : Nat} (hk : k < 7) (hm : M0 f g) (hi : IM w h k (g 57)) (hK : ∀ u : mS, V w h u.1 u.2 u.1 u.2 → u.2 56 = g 56 → u.2 57 = g 57 → K u) : wpX11_takes f g (nI k) K := by
  unfold wpX11_takes wpX11_takes_b0
  have h36 := (wh36 hi.1.2).2
  have e0 : (120 : Int32) * nI k = nI (120 * k) := by rw [show (120 : Int32) = nI 120 from rfl, pk_mul]
  have ej : ∀ j : Nat, nI (120 * k) + nI j = nI (120 * k + j) := fun j => nI_add _ _
  rw [e0, show (1 : Int32) = nI 1 from rfl, show (2 : Int32) = nI 2 from rfl, show (3 : Int32) = nI 3 from rfl, show (4 : Int32) = nI 4 from rfl, show (5 : Int32) = nI 5 from rfl, show (6 : Int32) = nI 6 from rfl, show (7 : Int32) = nI 7 from rfl]
  simp only [ej]
  have vv : ∀ j, j < 8 → vp_in (nI (120 * k + j)) 840 := fun j hj => vin (by omega) (by decide)
  refine ⟨vin (by omega) (by decide), vv 1 (by omega), vv 2 (by omega), vv 3 (by omega), vv 4 (by omega), vv 5 (by omega), vv 6 (by omega), vv 7 (by omega), 40, ?_⟩
  rw [ix_nI (n := 120 * k) (by omega), ix_nI (n := 120 * k + 1) (by omega), ix_nI (n := 120 * k + 2) (by omega), ix_nI (n := 120 * k + 3) (by omega), ix_nI (n := 120 * k + 4) (by omega), ix_nI (n := 120 * k + 5) (by omega), ix_nI (n := 120 * k + 6) (by omega), ix_nI (n := 120 * k + 7) (by omega)]
  obtain ⟨⟨⟨a1, a2⟩, a3⟩, b, c, d, r, y⟩ := hi
  refine tu_103 hk (fun g' hP => hK _ ?_ (hP.1 56 (by decide) (by decide) (by decide)) (hP.1 57 (by decide) (by decide) (by decide))) 40 _ 0 ⟨fun _ _ _ _ => rfl, fun s hs => by omega, fun _ _ => rfl⟩ (by omega) (by omega)
  refine mkV ((hm.g (g' := g') (fun j h7 hj => ?_) (fun i => ?_)).f (fun j hj => ?_) ?_) ⟨⟨⟨?_, ?_⟩, a3⟩, fun s hs => ?_, ?_⟩ ?_
  · exact hP.1 j (fun e => by subst e; cases hj) h7 (fun e => by subst e; cases hj)
  · rcases Nat.lt_or_ge i 36 with q | q
    · rw [(hP.2.1 i q).2]; exact y i q
    · rw [hP.2.2 i q]; exact hm.g47
  · have q : ∀ n, cf n = false → j ≠ n := fun n hn e => by rw [e, hn] at hj; cases hj
    simp [upd_r, q 38 rfl, q 39 rfl, q 40 rfl, q 41 rfl, q 42 rfl, q 43 rfl, q 44 rfl, q 45 rfl]
  · simp [upd_r]; exact d
  · simp [upd_r]; exact a1
  · simp [upd_r]; exact a2
  · have q := r s hs
    dsimp only at q ⊢
    rw [(hP.2.1 s (by omega)).1]; exact q
  · simp [upd_r]; exact b
  · simp [upd_r]; exact c
end TU
/-- a public state of the reference -/
def MX (w h : Nat) (u : mS) : Prop := V w h u.1 u.2 u.1 u.2 ∧ KP w h u.2
theorem MX.v {w h : Nat} {u v : mS} (hM : MX w h u) (hV : V w h u.1 u.2 v.1 v.2) : MX w h v := ⟨hV.re, hM.2.ke (KE.of hV.2.1.2.2.1 hV.2.1.2.2.2)⟩
theorem MX.e {w h : Nat} {u v : mS} (hM : MX w h u) (hV : V w h v.1 v.2 v.1 v.2) (hk : KE u.2 v.2) : MX w h v := ⟨hV, hM.2.ke hk⟩
theorem q_keep {w h : Nat} {f : Nat → Int32} {g : Nat → Nat → Int32} {x1 : Int32} {K : Int32 → mS → Prop} (hM : MX w h (f, g)) (h1 : 0 ≤ x1 → x1 ≤ 3 → ∀ u : mS, MX w h u → K 1 u) (h0 : (x1 < 0 ∨ 3 < x1) → ∀ u : mS, MX w h u → K 0 u) : wpX11_keep f g x1 K := by
  have hV2 : V w h f g (upd f 2 0) g := Vf (k := 2) rfl hM.1
  unfold wpX11_keep wpX11_keep_b0
  refine m_isIn0 (fun a b => ⟨fun _ => ?_, fun c => absurd c (by decide)⟩) (fun c' => ⟨fun c => absurd rfl c, fun _ => h0 c' _ (hM.v (v := (upd f 2 0, g)) hV2)⟩)
  obtain ⟨k, hk, rfl⟩ := i_mid (n := 3) (hi := 3) rfl a b
  refine m_puts (by omega) hV2 (fun g' hV' h56 hI hfr => ⟨vin (by omega) (by decide), h1 a b _ ⟨V_56 hV', fun j hj hn => ?_⟩⟩)
  dsimp only at hn ⊢
  rw [pt_ne (by decide)]
  rw [ix_nI (by omega), pt_at, upd_r] at hn
  by_cases e : j = k
  · subst e; exact hI
  · rw [if_neg e, h56] at hn
    exact (hM.2 j hj hn).eq (fun i h1 h2 => hfr i (by omega))
theorem q_restore {w h : Nat} {f : Nat → Int32} {g : Nat → Nat → Int32} {x1 : Int32} {K : Int32 → mS → Prop} (hM : MX w h (f, g)) (hK : ∀ v : Int32, ∀ u : mS, MX w h u → K v u) : wpX11_restore f g x1 K := by
  have hV2 : V w h f g (upd f 2 0) g := Vf (k := 2) rfl hM.1
  have z : wpX11_restore_b23 (upd f 2 0) g K := by unfold wpX11_restore_b23; exact hK _ _ (hM.v (v := (upd f 2 0, g)) hV2)
  unfold wpX11_restore wpX11_restore_b0
  refine m_isIn0 (fun a b => ⟨fun c => absurd c (by decide), fun _ => ?_⟩) (fun c' => ⟨fun _ => z, fun c => absurd rfl c⟩)
  obtain ⟨k, hk, rfl⟩ := i_mid (n := 3) (hi := 3) rfl a b
  refine ⟨vin (by omega) (by decide), fun c => ?_, fun _ => z⟩
  rw [ix_nI (by omega)] at c
  refine m_takes (by omega) hV2.1 (hM.2 k (by omega) c) (fun u hV h56 h57 => hK _ _ ?_)
  exact hM.e (v := (upd u.1 45 _, u.2)) (Vf (k := 45) rfl hV).re (KE.of h56 h57)
set_option maxHeartbeats 1000000 in
theorem s_X11_setDown {w h : Nat} {f0 : Nat → Int32} {g0 : Nat → Nat → Int32} {f : Nat → Int32} {g : Nat → Nat → Int32} {x1 : Int32} {K : ((Nat → Int32) × (Nat → Nat → Int32)) → Prop} (hV : V w h f0 g0 f g) (hp : 0 ≤ x1 ∧ x1 < nI (w * h)) (hK : ∀ u : mS, V w h f0 g0 u.1 u.2 → K u) : wpX11_setDown f g x1 K := by
  have b41_i := hV.b41
  have b42_i := hV.b42
  have n_i := hV.n
  unfold wpX11_setDown
  unfold wpX11_setDown_b0
  refine s_X11_wipes hV (fun u1 hV1 => ?_)
  have b41_1 := hV1.b41
  have b42_1 := hV1.b42
  have n_1 := hV1.n
  exact hK _ (Vf (k := 44) rfl (Vf (k := 43) rfl (Vu42 (by first | assumption | grind | (simp [pt_r, upd_r] <;> grind)) (Vu41 (by first | assumption | grind | (simp [pt_r, upd_r] <;> grind)) hV1))))
/-- a state on a floor, wherever the mouse is; its images are those of gk -/
def SU (w h : Nat) (gk : Nat → Nat → Int32) (u : mS) : Prop := M0 u.1 u.2 ∧ GR w h u.1 u.2 ∧ u.2 56 = gk 56 ∧ u.2 57 = gk 57
def SV (w h : Nat) (gk : Nat → Nat → Int32) (u : mS) : Prop := V w h u.1 u.2 u.1 u.2 ∧ u.2 56 = gk 56 ∧ u.2 57 = gk 57
theorem SV.u {w h : Nat} {gk : Nat → Nat → Int32} {u : mS} (e : SV w h gk u) : SU w h gk u := ⟨e.1.1, e.1.gr, e.2⟩
theorem SV.v {w h : Nat} {gk : Nat → Nat → Int32} {u v : mS} (e : SV w h gk u) (hV : V w h u.1 u.2 v.1 v.2) : SV w h gk v := ⟨hV.re, hV.2.1.2.2.1.trans e.2.1, hV.2.1.2.2.2.trans e.2.2⟩
section CM
variable {w h : Nat} {gk : Nat → Nat → Int32}
theorem m_wipesL {f : Nat → Int32} {g : Nat → Nat → Int32} {K : mS → Prop} (e : GE w h f) (hK : ∀ g' : Nat → Nat → Int32, (∀ j, j ≠ 47 → j ≠ 48 → g' j = g j) → (∀ i, g' 47 i = 0 ∨ g' 47 i = g 47 i) → K (f, g')) (n : Nat) : ∀ (g' : Nat → Nat → Int32) (x1 : Int32), (∀ j, j ≠ 47 → j ≠ 48 → g' j = g j) → (∀ i, g' 47 i = 0 ∨ g' 47 i = g 47 i) → 0 ≤ x1 → mu x1 < n → wpX11_wipes_b2 n f g' x1 K := by
  have nn := e.n
  induction n with
  | zero => intro g' x1 _ _ _ hm; exact absurd hm (Nat.not_lt_zero _)
  | succ n ih =>
    intro g' x1 h1 h2 h0 hm
    unfold wpX11_wipes_b2 wpX11_wipes_b2_body wpX11_squares wpX11_squares_b0
    rw [e.sq]
    refine ⟨fun _ => hK _ h1 h2, fun c => ?_⟩
    have v : vp_in x1 36 := vI (c := 36) rfl h0 (by grind)
    refine ⟨v, v, ih _ _ (fun j h7 h8 => ?_) (fun i => ?_) (by grind) (lt1 (mu_lt c) hm)⟩
    · rw [pt_ne h8, pt_ne h7]; exact h1 j h7 h8
    · rw [pt_ne (by decide), pt_at, upd_r]
      by_cases q : i = ix x1
      · rw [if_pos q]; exact Or.inl rfl
      · rw [if_neg q]; exact h2 i
theorem m_setDown {f : Nat → Int32} {g : Nat → Nat → Int32} {x1 : Int32} {K : mS → Prop} (hS : SU w h gk (f, g)) (hx : 0 ≤ x1 ∧ x1 < nI (w * h)) (hK : ∀ u : mS, SV w h gk u → K u) : wpX11_setDown f g x1 K := by
  obtain ⟨hm, hg, h56, h57⟩ := hS
  have hm : M0 f g := hm
  have hg : GR w h f g := hg
  have h56 : g 56 = gk 56 := h56
  have h57 : g 57 = gk 57 := h57
  unfold wpX11_setDown wpX11_setDown_b0 wpX11_wipes wpX11_wipes_b0
  refine ⟨_, m_wipesL (g := g) hg.1 ?_ _ g 0 (fun _ _ _ => rfl) (fun _ => Or.inr rfl) (by decide) (Nat.lt_succ_self _)⟩
  intro g' h1 h2
  refine hK _ ⟨?_, ?_, ?_⟩
  · refine mkV ((hm.g (g' := g') (fun j h7 hj => h1 j h7 (fun e => by subst e; cases hj)) (fun i => ?_)).f (fun j hj => ?_) (by simp [upd_r])) ⟨⟨⟨?_, ?_⟩, hg.1.2⟩, ?_, ?_⟩ ?_
    · rcases h2 i with q | q
      · rw [q]; decide
      · rw [q]; exact hm.g47
    · have q : ∀ k, cf k = false → j ≠ k := fun k hk e => by rw [e, hk] at hj; cases hj
      simp [upd_r, q 41 rfl, q 42 rfl, q 43 rfl, q 44 rfl]
    · simp [upd_r]; exact hg.1.1.1
    · simp [upd_r]; exact hg.1.1.2
    · show RM w h (g' 46); rw [h1 46 (by decide) (by decide)]; exact hg.2.1
    · simp [upd_r]; exact hg.2.2
    · simp [upd_r]; exact hx
  · exact (h1 56 (by decide) (by decide)).trans h56
  · exact (h1 57 (by decide) (by decide)).trans h57
theorem m_comesIn {u : mS} {x1 : Int32} {K : Int32 → mS → Prop} (hS : SV w h gk u) (hx : 0 ≤ x1) (hK : ∀ v : Int32, ∀ u : mS, SV w h gk u → K v u) : wpX11_comesIn u.1 u.2 x1 K := s_X11_comesIn hS.1 hx (fun v u' h' => hK v u' (hS.v h'))
theorem m_far {u : mS} {K : mS → Prop} (hS : SU w h gk u) (hK : ∀ u : mS, SU w h gk u → K u) : wpX11_layFar u.1 u.2 K := by
  obtain ⟨hm, hg, h56, h57⟩ := hS
  refine m_layFar hg.1 hg.2.1 hg.2.2 (fun g' hG => hK _ ⟨hm.g (fun j _ hj => hG j (fun e => by subst e; cases hj) (fun e => by subst e; cases hj)) (fun i => by show 0 ≤ g' 47 i ∧ g' 47 i ≤ 3; rw [hG 47 (by decide) (by decide)]; exact hm.g47), ⟨hg.1, ?_, hg.2.2⟩, ?_, ?_⟩)
  · show RM w h (g' 46); rw [hG 46 (by decide) (by decide)]; exact hg.2.1
  · exact (hG 56 (by decide) (by decide)).trans h56
  · exact (hG 57 (by decide) (by decide)).trans h57
theorem cm_32 {x1 : Int32} {K : Int32 → mS → Prop} (hI : IM w h 4 (gk 57)) (hK : ∀ v : Int32, ∀ u : mS, SV w h gk u → K v u) (n : Nat) : ∀ (f : Nat → Int32) (g : Nat → Nat → Int32) (x2 x3 x4 : Int32), SU w h gk (f, g) → 0 ≤ x4 → mu x4 < n → wpX11_comes_b32 n f g x1 x2 x3 x4 K := by
  induction n with
  | zero => intro f g x2 x3 x4 _ _ hm; exact absurd hm (Nat.not_lt_zero _)
  | succ n ih =>
    intro f g x2 x3 x4 hS h0 hm
    have hx : GX w h f g := ⟨hS.2.1.1, hS.2.1.2.1⟩
    have nn := hx.1.n
    unfold wpX11_comes_b32 wpX11_comes_b32_body
    refine s_X11_squares hx (fun v hv => ⟨fun _ => ?_, fun c => ?_⟩)
    · refine m_takes (k := 4) (by decide) hS.1 (by rw [hS.2.2.2]; exact hI) (fun u hV h56 h57 => ?_)
      have hu : SV w h gk u := ⟨hV, h56.trans hS.2.2.1, h57.trans hS.2.2.2⟩
      unfold wpX11_comes_b110
      exact ⟨fun _ => hK _ _ hu, fun _ => hK _ _ hu⟩
    · subst hv
      have nx : ∀ (u : mS) (x2 x3 : Int32), SU w h gk u → wpX11_comes_b90 (fun f g x1 x2 x3 x4 => wpX11_comes_b32 n f g x1 x2 x3 x4 K) u.1 u.2 x1 x2 x3 x4 K := fun u x2 x3 hu => by
        unfold wpX11_comes_b90
        exact ih _ _ _ _ _ hu (by grind) (lt1 (mu_lt c) hm)
      refine ⟨vI (c := 36) rfl h0 (by grind), fun _ => ?_, fun _ => nx (f, g) _ _ hS⟩
      refine m_setDown hS (by grind) (fun u hu => ?_)
      refine m_comesIn hu (by decide) (fun r u' hu' => ⟨fun _ => ?_, fun _ => nx u' _ _ hu'.u⟩)
      unfold wpX11_comes_b86
      exact ⟨fun _ => nx u' _ _ hu'.u, fun _ => nx u' _ _ hu'.u⟩
theorem q_comes {f : Nat → Int32} {g : Nat → Nat → Int32} {x1 : Int32} {K : Int32 → mS → Prop} (hM : MX w h (f, g)) (hK : ∀ v : Int32, ∀ u : mS, MX w h u → K v u) : wpX11_comes f g x1 K := by
  have hV2 : V w h f g (upd f 2 0) g := Vf (k := 2) rfl hM.1
  unfold wpX11_comes wpX11_comes_b0
  refine s_X11_isIn (fun r _ _ => ⟨fun _ => ?_, fun _ => hK _ _ (hM.v (v := (upd f 2 0, g)) hV2)⟩)
  refine m_puts (k := 4) (by decide) hV2 (fun g' hV' h56 hI hfr => ?_)
  have hE : KE g g' := ⟨h56, fun i hi => hfr i (by omega)⟩
  refine m_far (gk := g') (u := (upd f 2 0, g')) ⟨hV'.1, hV'.gr, rfl, rfl⟩ (fun u hu => ⟨_, cm_32 hI (fun v u' hu' => hK _ _ (hM.e hu'.1 (hE.tr (KE.of hu'.2.1 hu'.2.2)))) _ _ _ _ _ _ hu (by decide) (Nat.lt_succ_self _)⟩)
end CM
theorem q_second {w h : Nat} {f : Nat → Int32} {g : Nat → Nat → Int32} {x1 x2 : Int32} {K : Int32 → mS → Prop} (hM : MX w h (f, g)) (hK : ∀ v : Int32, ∀ u : mS, MX w h u → K v u) : wpX11_second f g x1 x2 K := by
  have hV2 : V w h f g (upd f 2 0) g := Vf (k := 2) rfl hM.1
  have z : wpX11_second_b22 (upd f 2 0) g K := by unfold wpX11_second_b22; exact hK _ _ (hM.v (v := (upd f 2 0, g)) hV2)
  unfold wpX11_second wpX11_second_b0
  refine s_X11_isSquare hV2 (fun r7 _ hp7 => ⟨fun _ => z, fun c7 => s_X11_isIn (fun r16 _ _ => ⟨fun _ => ?_, fun _ => z⟩)⟩)
  have hx := hp7.resolve_left c7
  refine m_puts (k := 4) (by decide) hV2 (fun g' hV' h56 hI hfr => ?_)
  have hE : KE g g' := ⟨h56, fun i hi => hfr i (by omega)⟩
  have t97 : ∀ (u : mS) (x2 x3 x4 x5 : Int32), SU w h g' u → wpX11_second_b97 u.1 u.2 x2 x3 x4 x5 K := fun u x2 x3 x4 x5 hu => by
    unfold wpX11_second_b97
    refine m_takes (k := 4) (by decide) hu.1 (by rw [hu.2.2.2]; exact hI) (fun u2 hV h56' h57' => ?_)
    have hq : MX w h u2 := hM.e hV (hE.tr (KE.of (h56'.trans hu.2.2.1) (h57'.trans hu.2.2.2)))
    have e1 : wpX11_second_b130 u2.1 u2.2 K := by unfold wpX11_second_b130; exact hK _ _ hq
    have e2 : ∀ x2 x3 x4 x5 x6, wpX11_second_b133 u2.1 u2.2 x2 x3 x4 x5 x6 K := fun x2 x3 x4 x5 x6 => by
      unfold wpX11_second_b133 wpX11_second_b163
      exact ⟨fun _ => ⟨fun _ => ⟨fun _ => hK _ _ hq, fun _ => hK _ _ hq⟩, fun _ => hK _ _ hq⟩, fun _ => hK _ _ hq⟩
    exact ⟨fun _ => ⟨fun _ => e2 _ _ _ _ _, fun _ => e1⟩, fun _ => ⟨fun _ => e2 _ _ _ _ _, fun _ => e1⟩⟩
  refine m_setDown (gk := g') ⟨hV'.1, hV'.gr, rfl, rfl⟩ hx (fun u hu => ?_)
  refine m_comesIn (u := (upd u.1 53 0, u.2)) (hu.v (Vf (k := 53) rfl hu.1)) (by decide) (fun r u2 hu2 => ⟨fun _ => t97 u2 _ _ _ _ hu2.u, fun _ => ?_⟩)
  refine m_comesIn (u := (upd (upd (upd (upd (upd u2.1 41 x1) 42 0) 43 0) 44 0) 53 0, u2.2)) (hu2.v (Vf (k := 53) rfl (Vf (k := 44) rfl (Vf (k := 43) rfl (Vu42 (by decide) (Vu41 hx hu2.1)))))) (by decide) (fun r3 u3 hu3 => t97 u3 _ _ _ _ hu3.u)
set_option maxHeartbeats 1000000 in
theorem s_X11_isSmallFloor {x0 : Int32} {x1 : Int32} {K : Int32 → Unit → Prop} (hK : ∀ v : Int32, isB v → (v = 0 ∨ (2 ≤ x0 ∧ x0 ≤ 3 ∧ 2 ≤ x1 ∧ x1 ≤ 3)) → K v ()) : wpX11_isSmallFloor x0 x1 K := by
  unfold wpX11_isSmallFloor
  unfold wpX11_isSmallFloor_b0
  refine s_X11_isIn (fun r3 hb3 hp3 => ?_)
  refine ⟨fun c0 => ?_, fun c0 => ?_⟩
  · unfold wpX11_isSmallFloor_b22
    unfold wpX11_isSmallFloor_b23
    refine ⟨(by first | exact Or.inl rfl | exact Or.inr rfl | assumption), ?_⟩
    exact hK _ (by first | exact Or.inl rfl | exact Or.inr rfl | assumption) (by first | assumption | grind | (simp [pt_r, upd_r] <;> grind))
  · refine s_X11_isIn (fun r12 hb12 hp12 => ?_)
    refine ⟨fun c1 => ?_, fun c1 => ?_⟩
    · unfold wpX11_isSmallFloor_b22
      unfold wpX11_isSmallFloor_b23
      refine ⟨(by first | exact Or.inl rfl | exact Or.inr rfl | assumption), ?_⟩
      exact hK _ (by first | exact Or.inl rfl | exact Or.inr rfl | assumption) (by first | assumption | grind | (simp [pt_r, upd_r] <;> grind))
    · unfold wpX11_isSmallFloor_b23
      refine ⟨(by first | exact Or.inl rfl | exact Or.inr rfl | assumption), ?_⟩
      exact hK _ (by first | exact Or.inl rfl | exact Or.inr rfl | assumption) (by first | assumption | grind | (simp [pt_r, upd_r] <;> grind))
/-- a floor's size is told, its walls not yet -/
def PW (w h : Nat) (gk : Nat → Nat → Int32) (u : mS) : Prop := M0 u.1 u.2 ∧ (GE w h u.1 ∧ 0 ≤ u.1 40 ∧ u.1 40 < nI (w * h)) ∧ u.2 56 = gk 56 ∧ u.2 57 = gk 57
theorem SU.p {w h : Nat} {gk : Nat → Nat → Int32} {u : mS} (e : SU w h gk u) : PW w h gk u := ⟨e.1, ⟨e.2.1.1, e.2.1.2.2⟩, e.2.2⟩
section WB
variable {w h : Nat} {gk : Nat → Nat → Int32} {K : mS → Prop}
theorem SU_w {f : Nat → Int32} {g g' : Nat → Nat → Int32} (hS : PW w h gk (f, g)) (hg : ∀ j, j ≠ 46 → g' j = g j) (hr : RM w h (g' 46)) : SU w h gk (f, g') := by
  obtain ⟨hm, he, h56, h57⟩ := hS
  have hm : M0 f g := hm
  refine ⟨hm.g (fun j _ hj => hg j (fun e => by subst e; cases hj)) (fun i => by show 0 ≤ g' 47 i ∧ g' 47 i ≤ 3; rw [hg 47 (by decide)]; exact hm.g47), ⟨he.1, hr, he.2⟩, ?_, ?_⟩
  · exact (hg 56 (by decide)).trans h56
  · exact (hg 57 (by decide)).trans h57
theorem wb_6 {x1 : Int32} (hK : ∀ u : mS, SU w h gk u → K u) (n : Nat) : ∀ (f : Nat → Int32) (g : Nat → Nat → Int32) (x2 : Int32), SU w h gk (f, g) → 0 ≤ x2 → mu x2 < n → wpX11_wallsBy_b6 n f g x1 x2 K := by
  induction n with
  | zero => intro f g x2 _ _ hm; exact absurd hm (Nat.not_lt_zero _)
  | succ n ih =>
    intro f g x2 hS h0 hm
    have hx : GX w h f g := ⟨hS.2.1.1, hS.2.1.2.1⟩
    unfold wpX11_wallsBy_b6 wpX11_wallsBy_b6_body
    refine s_X11_wallMany hx (fun v hv => ⟨fun _ => m_far (u := (f, g)) hS (fun u hu => hK _ hu), fun c => ?_⟩)
    subst hv
    have nx : ∀ u : mS, SU w h gk u → wpX11_wallsBy_b41 (fun f g x1 x2 => wpX11_wallsBy_b6 n f g x1 x2 K) u.1 u.2 x1 x2 K := fun u hu => by
      unfold wpX11_wallsBy_b41
      exact ih _ _ _ hu (by grind) (lt1 (mu_lt c) hm)
    refine s_X11_isOf (fun r _ => ⟨fun _ => nx (f, g) hS, fun _ => ?_⟩)
    have hp : 0 ≤ x2 ∧ x2 < nI (wm w h) := ⟨h0, Int32.not_le.mp c⟩
    refine s_X11_wallAt hx hp (fun r1 h1 => s_X11_wallAt hx hp (fun r2 h2 => ?_))
    exact m_putWall hx (wk_na hx.1.2 h1 h2) (fun g' hg hr => nx (f, g') (SU_w (g := g) hS.p hg hr))
theorem m_wallsBy {u : mS} {x1 : Int32} (hS : PW w h gk u) (hK : ∀ u : mS, SU w h gk u → K u) : wpX11_wallsBy u.1 u.2 x1 K := by
  unfold wpX11_wallsBy wpX11_wallsBy_b0
  exact m_plainW hS.2.1.1 (fun g' hg hr => ⟨_, wb_6 hK _ _ _ _ (SU_w (g := u.2) hS hg hr) (by decide) (Nat.lt_succ_self _)⟩)
theorem m_small {f : Nat → Int32} {g : Nat → Nat → Int32} (hm : M0 f g) (e : (2 ≤ w ∧ w ≤ 6) ∧ 2 ≤ h ∧ h ≤ 6) (hK : ∀ f' : Nat → Int32, M0 f' g → (GE w h f' ∧ 0 ≤ f' 40 ∧ f' 40 < nI (w * h)) → K (f', g)) : wpX11_small f g (nI w) (nI h) K := by
  have h36 := wh36 e
  unfold wpX11_small wpX11_small_b0
  have eb : nI w * nI h - 1 = nI (w * h - 1) := by rw [pk_mul, show (1 : Int32) = nI 1 from rfl, pk_sub (by omega)]
  rw [eb]
  refine hK _ (hm.f (fun j hj => ?_) (by simp [upd_r]; exact hm.b42)) ⟨⟨⟨by simp [upd_r], by simp [upd_r]⟩, e⟩, ?_, ?_⟩
  · have q : ∀ k, cf k = false → j ≠ k := fun k hk e => by rw [e, hk] at hj; cases hj
    simp [upd_r, q 38 rfl, q 39 rfl, q 40 rfl]
  · simp only [upd_r]; exact nI_pos' (by omega)
  · simp only [upd_r]; exact nI_lt (by omega) (by omega)
theorem SV.g {f : Nat → Int32} {g : Nat → Nat → Int32} {k i : Nat} {v : Int32} (hk : gf k = true) (e : SV w h gk (f, g)) : SV w h gk (f, pt g k i v) := e.v (v := (f, pt g k i v)) (Vg hk e.1)
theorem SV.f {f : Nat → Int32} {g : Nat → Nat → Int32} {k : Nat} {v : Int32} (hk : uf k = true) (e : SV w h gk (f, g)) : SV w h gk (upd f k v, g) := e.v (v := (upd f k v, g)) (Vf hk e.1)
theorem m_laySmallRun {u : mS} {x1 x2 x3 : Int32} (hS : SU w h gk u) (h1 : 0 ≤ x1 ∧ x1 < 16) (h3 : 0 ≤ x3 ∧ x3 < nI (w * h)) (hK : ∀ u : mS, SU w h gk u → K u) : wpX11_laySmallRun u.1 u.2 x1 x2 x3 K := by
  have v : vp_in x1 16 := vI (c := 16) rfl h1.1 h1.2
  have b45 : ∀ (u : mS) (x4 : Int32), SV w h gk u → wpX11_laySmallRun_b45 u.1 u.2 x1 x2 x3 x4 K := fun u x4 hu => by
    unfold wpX11_laySmallRun_b45 wpX11_laySmallRun_b78
    exact ⟨v, fun _ => hK _ hu.u, fun _ => ⟨v, v, v, hK _ (SV.g (k := 63) rfl (SV.g (k := 62) rfl (SV.g (k := 61) rfl hu))).u⟩⟩
  unfold wpX11_laySmallRun wpX11_laySmallRun_b0
  refine m_setDown hS h3 (fun u1 hu1 => m_comesIn hu1 (by decide) (fun r u2 hu2 => ⟨fun _ => b45 u2 _ hu2, fun _ => ⟨v, fun _ => b45 u2 _ hu2, fun _ => ⟨v, v, ?_⟩⟩⟩))
  exact b45 (u2.1, _) _ (SV.g (k := 60) rfl (SV.g (k := 59) rfl hu2))
end WB
section LS
variable {w h w0 h0 : Nat} {gk : Nat → Nat → Int32} {K : mS → Prop}
theorem ls_84 {B64 : (Nat → Int32) → (Nat → Nat → Int32) → Int32 → Int32 → Prop} {x3 x4 : Int32} (h3 : 0 ≤ x3 ∧ x3 < 16) (hB : ∀ u : mS, SU w h gk u → B64 u.1 u.2 x3 (x4 + 1)) (n : Nat) : ∀ (f : Nat → Int32) (g : Nat → Nat → Int32) (x5 : Int32), SU w h gk (f, g) → 0 ≤ x5 → mu x5 < n → wpX11_laySmall_b84 B64 n f g x3 x4 x5 K := by
  induction n with
  | zero => intro f g x5 _ _ hm; exact absurd hm (Nat.not_lt_zero _)
  | succ n ih =>
    intro f g x5 hS h0 hm
    have hx : GX w h f g := ⟨hS.2.1.1, hS.2.1.2.1⟩
    have nn := hx.1.n
    unfold wpX11_laySmall_b84 wpX11_laySmall_b84_body
    refine s_X11_squares hx (fun v hv => ⟨fun _ => hB (f, g) hS, fun c => ?_⟩)
    subst hv
    have nx : ∀ u : mS, SU w h gk u → wpX11_laySmall_b113 B64 (fun f g x3 x4 x5 => wpX11_laySmall_b84 B64 n f g x3 x4 x5 K) u.1 u.2 x3 x4 x5 K := fun u hu => by
      unfold wpX11_laySmall_b113
      exact ih _ _ _ hu (by grind) (lt1 (mu_lt c) hm)
    refine ⟨vI (c := 36) rfl h0 (by grind), fun _ => nx (f, g) hS, fun _ => ?_⟩
    exact m_laySmallRun (u := (f, g)) hS h3 ⟨h0, Int32.not_le.mp c⟩ (fun u hu => nx u hu)
theorem ls_64 {x3 : Int32} (h3 : 0 ≤ x3 ∧ x3 < 16) (hI : IM w0 h0 4 (gk 57)) (hK : ∀ u : mS, SV w0 h0 gk u → K u) (n : Nat) : ∀ (f : Nat → Int32) (g : Nat → Nat → Int32) (x4 : Int32), PW w h gk (f, g) → mu x4 < n → wpX11_laySmall_b64 n f g x3 x4 K := by
  induction n with
  | zero => intro f g x4 _ hm; exact absurd hm (Nat.not_lt_zero _)
  | succ n ih =>
    intro f g x4 hS hm
    unfold wpX11_laySmall_b64 wpX11_laySmall_b64_body wpX11_wallMany wpX11_wallMany_b0
    refine ⟨fun _ => ?_, fun c => ?_⟩
    · refine m_takes (k := 4) (by decide) hS.1 (by rw [hS.2.2.2]; exact hI) (fun u hV h56 h57 => hK _ ⟨hV, h56.trans hS.2.2.1, h57.trans hS.2.2.2⟩)
    · refine m_wallsBy (u := (f, g)) hS (fun u hu => ⟨_, ls_84 h3 (fun u hu => ?_) _ _ _ _ hu (by decide) (Nat.lt_succ_self _)⟩)
      exact ih _ _ _ hu.p (lt1 (mu_lt c) hm)
theorem m_laySmall {f : Nat → Int32} {g : Nat → Nat → Int32} {f0 : Nat → Int32} {g0 : Nat → Nat → Int32} {x1 x2 : Int32} (hV : V w0 h0 f0 g0 f g) (h1 : 2 ≤ x1 ∧ x1 ≤ 3) (h2 : 2 ≤ x2 ∧ x2 ≤ 3) (hK : ∀ u : mS, V w0 h0 u.1 u.2 u.1 u.2 → KE g u.2 → K u) : wpX11_laySmall f g x1 x2 K := by
  unfold wpX11_laySmall wpX11_laySmall_b0
  intro y9 hy
  have hk : 0 ≤ y9 ∧ y9 < 16 := by subst hy; grind
  have v : vp_in y9 16 := vI (c := 16) rfl hk.1 hk.2
  refine ⟨v, fun _ => ⟨v, ?_⟩, fun _ => hK _ hV.re KE.rf⟩
  obtain ⟨w, hw, rfl⟩ := in26 h1.1 (by grind)
  obtain ⟨h, hh, rfl⟩ := in26 h2.1 (by grind)
  refine m_puts (k := 4) (by decide) (Vg (k := 58) rfl hV) (fun g' hV' h56 hI hfr => ?_)
  have hE : KE g g' := ⟨by rw [h56, pt_ne (by decide)], fun i hi => by rw [hfr i (by omega), pt_ne (by decide)]⟩
  refine m_small hV'.1 ⟨hw, hh⟩ (fun f' hm' he' => ⟨v, v, v, ?_⟩)
  refine ⟨_, ls_64 (gk := g') hk hI (fun u hu => hK _ hu.1 (hE.tr (KE.of hu.2.1 hu.2.2))) _ _ _ _ ⟨?_, he', ?_, ?_⟩ (Nat.lt_succ_self _)⟩
  · refine hm'.g (fun j _ hj => ?_) (fun i => ?_)
    · have q : ∀ n, cj n = false → j ≠ n := fun n hn e => by rw [e, hn] at hj; cases hj
      dsimp only
      rw [pt_ne (q 61 rfl), pt_ne (q 60 rfl), pt_ne (q 59 rfl)]
    · dsimp only
      rw [pt_ne (by decide), pt_ne (by decide), pt_ne (by decide)]; exact hm'.g47
  · dsimp only
    rw [pt_ne (by decide), pt_ne (by decide), pt_ne (by decide)]
  · dsimp only
    rw [pt_ne (by decide), pt_ne (by decide), pt_ne (by decide)]
end LS
