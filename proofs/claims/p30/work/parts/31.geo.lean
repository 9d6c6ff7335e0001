/-! The reference's floor: squares, sides, walls around. -/
def GX (w h : Nat) (f : Nat → Int32) (g : Nat → Nat → Int32) : Prop := GE w h f ∧ RM w h (g 46)
theorem V.gx {w h : Nat} {f0 f : Nat → Int32} {g0 g : Nat → Nat → Int32} (e : V w h f0 g0 f g) : GX w h f g := ⟨e.ge, e.rm⟩
/-- a side of a square is around the floor -/
def arB (w h s d : Nat) : Bool := (d == 0 && decide (s < w)) || (d == 1 && s % w == w - 1) || (d == 2 && decide (w * h - w ≤ s)) || (d == 3 && s % w == 0)
def ahN (w s d : Nat) : Nat := if d = 0 then s - w else if d = 1 then s + 1 else if d = 2 then s + w else s - 1
def na (w h : Nat) (x y : Int32) : Prop := ∃ s d : Nat, x = nI s ∧ y = nI d ∧ s < w * h ∧ d < 4 ∧ arB w h s d = false
def ahC (w h s d : Nat) : Bool := !(decide (2 ≤ w) && decide (2 ≤ h) && decide (s < w * h) && !(arB w h s d)) || (decide (ahN w s d < w * h) && !(arB w h (ahN w s d) ((d + 2) % 4)) && (!(d == 0) || decide (w ≤ s)) && (!(d == 3) || decide (1 ≤ s)))
theorem ah_c : ∀ w, w < 7 → ∀ h, h < 7 → ∀ s, s < 36 → ∀ d, d < 4 → ahC w h s d = true := by decide +kernel
theorem ah_ok (w : Nat) (hw : w < 7) (h : Nat) (hh : h < 7) (s : Nat) (hs : s < 36) (d : Nat) (hd : d < 4) (e : 2 ≤ w ∧ 2 ≤ h ∧ s < w * h ∧ arB w h s d = false) : ahN w s d < w * h ∧ arB w h (ahN w s d) ((d + 2) % 4) = false ∧ (d = 0 → w ≤ s) ∧ (d = 3 → 1 ≤ s) := by
  have k := ah_c w hw h hh s hs d hd
  unfold ahC at k
  simp only [e.1, e.2.1, e.2.2.1, e.2.2.2, decide_true, Bool.not_false, Bool.and_self, Bool.not_true, Bool.false_or, Bool.and_eq_true, decide_eq_true_eq, Bool.not_eq_true', Bool.or_eq_true, beq_eq_false_iff_ne] at k
  obtain ⟨⟨⟨k1, k2⟩, k3⟩, k4⟩ := k
  exact ⟨k1, k2, fun q => k3.elim (fun z => absurd q z) id, fun q => k4.elim (fun z => absurd q z) id⟩
def wm (w h : Nat) : Nat := h * (w - 1) + w * (h - 1)
def wsN (w h n : Nat) : Nat := if n < h * (w - 1) then n / (w - 1) * w + n % (w - 1) else n - h * (w - 1)
def wdN (w h n : Nat) : Nat := if n < h * (w - 1) then 1 else 2
theorem wn_ok : ∀ w, w < 7 → ∀ h, h < 7 → ∀ n, n < 64 → (2 ≤ w ∧ 2 ≤ h ∧ n < wm w h) → wsN w h n < w * h ∧ arB w h (wsN w h n) (wdN w h n) = false := by decide +kernel
theorem wm_lt {w h : Nat} (e : (2 ≤ w ∧ w ≤ 6) ∧ 2 ≤ h ∧ h ≤ 6) : wm w h < 64 := by
  have h1 : ∀ w, w < 7 → ∀ h, h < 7 → wm w h < 64 := by decide +kernel
  exact h1 w (by omega) h (by omega)
section GO
variable {w h : Nat} {f : Nat → Int32} {g : Nat → Nat → Int32} {x1 x2 x3 : Int32} {K : Int32 → mS → Prop}
theorem inN {n : Nat} (hn : n ≤ 36) (hp : 0 ≤ x1 ∧ x1 < nI n) : ∃ s, s < n ∧ x1 = nI s := i_sq (n := n) (nI_toInt (by omega)) (Int32.not_lt.mpr hp.1) (Int32.not_le.mpr hp.2)
theorem in4 (hp : 0 ≤ x2 ∧ x2 ≤ 3) : ∃ d, d < 4 ∧ x2 = nI d := by
  obtain ⟨d, hd, e⟩ := i_mid (n := 3) (hi := 3) rfl hp.1 hp.2
  exact ⟨d, by omega, e⟩
theorem s_X11_squares (hx : GX w h f g) (hK : ∀ v : Int32, v = nI (w * h) → K v (f, g)) : wpX11_squares f g K := by
  unfold wpX11_squares wpX11_squares_b0
  exact hK _ hx.1.sq
theorem RM.na {wl : Nat → Int32} (hr : RM w h wl) {s d : Nat} (hs : s < w * h) (hd : d < 4) (hb : bt (wl s) d = false) : arB w h s d = false := by
  obtain ⟨h0, h1, h2, h3⟩ := hr s hs
  have hc : d = 0 ∨ d = 1 ∨ d = 2 ∨ d = 3 := by omega
  cases ha : arB w h s d with
  | false => rfl
  | true =>
    rcases hc with rfl | rfl | rfl | rfl <;> simp [arB] at ha
    · rw [h0 ha] at hb; cases hb
    · rw [h1 ha] at hb; cases hb
    · rw [h2 (by omega)] at hb; cases hb
    · rw [h3 ha] at hb; cases hb
theorem s_X11_isOf0 {x k : Int32} {K : Int32 → Unit → Prop} (h1 : (jshr x k) &&& 1 = 1 → K 1 ()) (h0 : ¬ (jshr x k) &&& 1 = 1 → K 0 ()) : wpX11_isOf x k K := by
  unfold wpX11_isOf wpX11_isOf_b0 wpX11_isOf_b14
  exact ⟨fun h => ⟨Or.inl rfl, h0 h⟩, fun h => ⟨Or.inr rfl, h1 h⟩⟩
theorem s_X11_isWall (hx : GX w h f g) (hp : 0 ≤ x1 ∧ x1 < nI (w * h)) (hq : 0 ≤ x2 ∧ x2 ≤ 3) (hK : ∀ v : Int32, isB v → (v = 0 → na w h x1 x2) → K v (f, g)) : wpX11_isWall f g x1 x2 K := by
  have h36 := (wh36 hx.1.2).2
  obtain ⟨s, hs, rfl⟩ := inN h36 hp
  obtain ⟨d, hd, rfl⟩ := in4 hq
  unfold wpX11_isWall wpX11_isWall_b0
  refine ⟨vin (by omega) (by decide), s_X11_isOf0 (fun _ => ⟨Or.inr rfl, hK _ (Or.inr rfl) (fun e => absurd e (by decide))⟩) (fun hc => ⟨Or.inl rfl, hK _ (Or.inl rfl) (fun _ => ⟨s, d, rfl, rfl, hs, hd, hx.2.na hs hd ?_⟩)⟩)⟩
  rw [ix_nI (by omega), of_1 (by omega)] at hc
  cases hb : bt (g 46 s) d with
  | false => rfl
  | true => exact absurd hb hc
theorem ah_in (e : GE w h f) (hn : na w h x1 x2) : (x2 = 0 → 0 ≤ x1 - f 38 ∧ x1 - f 38 < nI (w * h)) ∧ (x2 = 1 → 0 ≤ x1 + 1 ∧ x1 + 1 < nI (w * h)) ∧ (x2 = 2 → 0 ≤ x1 + f 38 ∧ x1 + f 38 < nI (w * h)) ∧ (x2 = 3 → 0 ≤ x1 - 1 ∧ x1 - 1 < nI (w * h)) := by
  obtain ⟨s, d, rfl, rfl, hs, hd, ha⟩ := hn
  have h36 := (wh36 e.2).2
  obtain ⟨k1, -, k2, k3⟩ := ah_ok w (by have := e.2; omega) h (by have := e.2; omega) s (by omega) d hd ⟨e.2.1.1, e.2.2.1, hs, ha⟩
  rw [e.1.1]
  have fin : ∀ t, t < w * h → 0 ≤ nI t ∧ nI t < nI (w * h) := fun t ht => ⟨nI_pos' (by omega), nI_lt ht (by omega)⟩
  refine ⟨fun q => ?_, fun q => ?_, fun q => ?_, fun q => ?_⟩
  · have : d = 0 := (nI_eq (b := 0) (by omega) (by omega)).mp q
    subst this
    have hw := k2 rfl
    rw [pk_sub hw]
    exact fin _ (by simpa [ahN] using k1)
  · have : d = 1 := (nI_eq (b := 1) (by omega) (by omega)).mp q
    subst this
    rw [nI_1]
    exact fin _ (by simpa [ahN] using k1)
  · have : d = 2 := (nI_eq (b := 2) (by omega) (by omega)).mp q
    subst this
    rw [nI_add]
    exact fin _ (by simpa [ahN] using k1)
  · have : d = 3 := (nI_eq (b := 3) (by omega) (by omega)).mp q
    subst this
    have hw := k3 rfl
    rw [show (1 : Int32) = nI 1 from rfl, pk_sub hw]
    exact fin _ (by simpa [ahN] using k1)
theorem na_d (hn : na w h x1 x2) : x2 = 0 ∨ x2 = 1 ∨ x2 = 2 ∨ x2 = 3 := by
  obtain ⟨s, d, rfl, rfl, hs, hd, ha⟩ := hn
  have hc : d = 0 ∨ d = 1 ∨ d = 2 ∨ d = 3 := by omega
  rcases hc with rfl | rfl | rfl | rfl <;> decide
theorem s_X11_ahead (hx : GX w h f g) (ho : na w h x1 x2) (hK : ∀ v : Int32, (0 ≤ v ∧ v < nI (w * h)) → K v (f, g)) : wpX11_ahead f g x1 x2 K := by
  obtain ⟨a0, a1, a2, a3⟩ := ah_in hx.1 ho
  have hd := na_d ho
  unfold wpX11_ahead wpX11_ahead_b0 wpX11_ahead_b41
  refine ⟨fun c => ⟨fun c1 => ⟨fun c2 => hK _ (a3 ?_), fun c2 => hK _ (a2 c2)⟩, fun c1 => hK _ (a1 c1)⟩, fun c => hK _ (a0 c)⟩
  rcases hd with e | e | e | e
  · exact absurd e c
  · exact absurd e c1
  · exact absurd e c2
  · exact e
theorem s_X11_isAround (hx : GX w h f g) (hp : 0 ≤ x1 ∧ x1 < nI (w * h)) (hq : 0 ≤ x2 ∧ x2 ≤ 3) (hK : ∀ v : Int32, isB v → (v = 0 → na w h x1 x2) → K v (f, g)) : wpX11_isAround f g x1 x2 K := by
  have h36 := (wh36 hx.1.2).2
  obtain ⟨s, hs, rfl⟩ := inN h36 hp
  obtain ⟨d, hd, rfl⟩ := in4 hq
  have e := hx.1
  have hw0 : ¬ f 38 = 0 := by rw [e.1.1]; exact nI_ne0 (by have := e.2; omega) (by have := e.2; omega)
  have b1 : ∀ v : Int32, v = 1 → wpX11_isAround_b88 f g v K := fun v hv => by
    subst hv; unfold wpX11_isAround_b88; exact ⟨Or.inr rfl, hK _ (Or.inr rfl) (fun e => absurd e (by decide))⟩
  have b0 : arB w h s d = false → wpX11_isAround_b88 f g 0 K := fun ha => by
    unfold wpX11_isAround_b88; exact ⟨Or.inl rfl, hK _ (Or.inl rfl) (fun _ => ⟨s, d, rfl, rfl, hs, hd, ha⟩)⟩
  have hj : jrem (nI s) (f 38) = nI (s % w) := by rw [e.1.1]; unfold jrem; exact pk_rem (by omega) (by have := e.2; omega) (by have := e.2; omega)
  have hm : s % w < w := Nat.mod_lt _ (by have := e.2; omega)
  unfold wpX11_isAround wpX11_isAround_b0
  refine ⟨fun c => ⟨fun c1 => ⟨fun c2 => ⟨hw0, fun c3 => b0 ?_, fun c3 => b1 _ rfl⟩, fun c2 => ?_⟩, fun c1 => ⟨hw0, fun c3 => b0 ?_, fun c3 => b1 _ rfl⟩⟩, fun c => ⟨fun c3 => b0 ?_, fun c3 => b1 _ rfl⟩⟩
  · have h3 : d = 3 := by
      have hc : d = 0 ∨ d = 1 ∨ d = 2 ∨ d = 3 := by omega
      rcases hc with rfl | rfl | rfl | rfl
      · exact absurd rfl c
      · exact absurd rfl c1
      · exact absurd rfl c2
      · rfl
    subst h3
    rw [hj] at c3
    have : ¬ s % w = 0 := fun q => c3 (by rw [q]; rfl)
    simp [arB, this]
  · have h2 : d = 2 := (nI_eq (b := 2) (by omega) (by omega)).mp c2
    subst h2
    refine s_X11_squares hx (fun v hv => ⟨fun c3 => b0 ?_, fun c3 => b1 _ rfl⟩)
    subst hv
    dsimp only at c3
    rw [e.1.1, pk_sub (by have := e.2; exact Nat.le_trans (by omega : w ≤ w * 1) (Nat.mul_le_mul_left w (by omega))), nI_ltI (by omega) (by omega)] at c3
    simp [arB]
    omega
  · have h1 : d = 1 := (nI_eq (b := 1) (by omega) (by omega)).mp c1
    subst h1
    rw [hj, e.1.1, show (1 : Int32) = nI 1 from rfl, pk_sub (by have := e.2; omega), nI_eq (by have := e.2; omega) (by have := e.2; omega)] at c3
    simp [arB, c3]
  · have h0 : d = 0 := (nI_eq (b := 0) (by omega) (by omega)).mp c
    subst h0
    rw [e.1.1, nI_leI (by have := e.2; omega) (by omega)] at c3
    simp [arB]
    omega
theorem s_X11_wallMany (hx : GX w h f g) (hK : ∀ v : Int32, v = nI (wm w h) → K v (f, g)) : wpX11_wallMany f g K := by
  have e := hx.1
  unfold wpX11_wallMany wpX11_wallMany_b0
  refine hK _ ?_
  rw [e.1.1, e.1.2, show (1 : Int32) = nI 1 from rfl, pk_sub (by have := e.2; omega), pk_sub (by have := e.2; omega), pk_mul, pk_mul, nI_add]
  rfl
/-- what wallAt says -/
def wk (w h : Nat) (x v : Int32) : Prop := ∃ n, n < wm w h ∧ x = nI n ∧ v = nI (4 * wsN w h n + wdN w h n)
theorem s_X11_wallAt (hx : GX w h f g) (hp : 0 ≤ x1 ∧ x1 < nI (wm w h)) (hK : ∀ v : Int32, wk w h x1 v → K v (f, g)) : wpX11_wallAt f g x1 K := by
  have e := hx.1
  have hm := wm_lt e.2
  obtain ⟨n, hn, rfl⟩ := i_sq (n := wm w h) (nI_toInt (by omega)) (Int32.not_lt.mpr hp.1) (Int32.not_le.mpr hp.2)
  have hw := e.2
  have hacr : f 39 * (f 38 - 1) = nI (h * (w - 1)) := by
    rw [e.1.1, e.1.2, show (1 : Int32) = nI 1 from rfl, pk_sub (by omega), pk_mul]
  have hw1 : f 38 - 1 = nI (w - 1) := by rw [e.1.1, show (1 : Int32) = nI 1 from rfl, pk_sub (by omega)]
  have hb : h * (w - 1) < 64 := Nat.lt_of_le_of_lt (Nat.le_add_right _ _) hm
  unfold wpX11_wallAt wpX11_wallAt_b0
  rw [hacr, hw1]
  refine ⟨fun c => hK _ ⟨n, hn, rfl, ?_⟩, fun c => ⟨nI_ne0 (by omega) (by omega), nI_ne0 (by omega) (by omega), hK _ ⟨n, hn, rfl, ?_⟩⟩⟩
  · rw [nI_leI (by omega) (by omega)] at c
    rw [pk_sub c, show (4 : Int32) = nI 4 from rfl, show (2 : Int32) = nI 2 from rfl, pk_mul, nI_add]
    unfold wsN wdN
    rw [if_neg (by omega), if_neg (by omega)]
  · rw [nI_leI (by omega) (by omega)] at c
    unfold jrem
    rw [pk_rem (by omega) (by omega) (by omega), pk_div (by omega) (by omega) (by omega), e.1.1, pk_mul, nI_add, show (4 : Int32) = nI 4 from rfl, show (1 : Int32) = nI 1 from rfl, pk_mul, nI_add]
    unfold wsN wdN
    rw [if_pos (by omega), if_pos (by omega)]
theorem wk_na (e : (2 ≤ w ∧ w ≤ 6) ∧ 2 ≤ h ∧ h ≤ 6) {v v' : Int32} (h1 : wk w h x1 v) (h2 : wk w h x1 v') : na w h (v / 4) (jrem v' 4) := by
  obtain ⟨n, hn, rfl, rfl⟩ := h1
  obtain ⟨m, hm, hx, rfl⟩ := h2
  have hl := wm_lt e
  have : n = m := (nI_eq (by omega) (by omega)).mp hx
  subst this
  obtain ⟨k1, k2⟩ := wn_ok w (by omega) h (by omega) n (by omega) ⟨e.1.1, e.2.1, hn⟩
  have h36 := (wh36 e).2
  have hd : wdN w h n < 4 := by unfold wdN; split <;> omega
  refine ⟨wsN w h n, wdN w h n, ?_, ?_, k1, hd, k2⟩
  · rw [show (4 : Int32) = nI 4 from rfl, pk_div (by omega) (by omega) (by omega)]
    congr 1
    omega
  · unfold jrem
    rw [show (4 : Int32) = nI 4 from rfl, pk_rem (by omega) (by omega) (by omega)]
    congr 1
    omega
theorem na_in (e : (2 ≤ w ∧ w ≤ 6) ∧ 2 ≤ h ∧ h ≤ 6) (hn : na w h x1 x2) : (0 ≤ x1 ∧ x1 < nI (w * h)) ∧ 0 ≤ x2 ∧ x2 ≤ 3 := by
  obtain ⟨s, d, rfl, rfl, hs, hd, -⟩ := hn
  have h36 := (wh36 e).2
  exact ⟨⟨nI_pos' (by omega), nI_lt hs (by omega)⟩, nI_pos' (by omega), nI_le (b := 3) (by omega) (by omega)⟩
end GO
theorem jr4 {x : Int32} (h0 : 0 ≤ x) : 0 ≤ jrem x 4 ∧ jrem x 4 ≤ 3 := by
  obtain ⟨j, hj, rfl⟩ := nI_of (Int32.not_lt.mpr h0)
  unfold jrem
  rw [show (4 : Int32) = nI 4 from rfl, pk_rem (by omega) (by omega) (by omega)]
  exact ⟨nI_pos' (by omega), nI_le (b := 3) (by omega) (by omega)⟩
