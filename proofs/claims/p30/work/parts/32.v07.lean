set_option maxHeartbeats 1000000 in
theorem l_X11_ticks_b60 {w h : Nat} {f0 : Nat → Int32} {g0 : Nat → Nat → Int32} {K : Int32 → ((Nat → Int32) × (Nat → Nat → Int32)) → Prop} (hK : ∀ v : Int32, ∀ u : mS, V w h f0 g0 u.1 u.2 → K v u) (n : Nat) : ∀ (f : Nat → Int32) (g : Nat → Nat → Int32) (x1 : Int32) (x3 : Int32), V w h f0 g0 f g → 0 ≤ x3 → 0 ≤ x1 ∧ x1 < 30 → mu (x3) < n → wpX11_ticks_b60 n f g x1 x3 K := by
  induction n with
  | zero => intro f g x1 x3 hV hi0 hi1 hm; exact absurd hm (Nat.not_lt_zero _)
  | succ n ih =>
    intro f g x1 x3 hV hi0 hi1 hm
    have b12_i := hV.b12
    have e13_i := fun i => hV.g13 (i := i)
    have e14_i := fun i => hV.g14 (i := i)
    unfold wpX11_ticks_b60 wpX11_ticks_b60_body
    refine ⟨vI (c := 60) rfl (by first | assumption | grind | (simp [pt_r, upd_r] <;> grind)) (by first | assumption | grind | (simp [pt_r, upd_r] <;> grind)), ?_⟩
    refine ⟨fun c0 => ?_, fun c0 => ?_⟩
    · exact hK _ _ hV
    · refine s_X11_does hV (by first | assumption | grind | (simp [pt_r, upd_r] <;> grind)) (fun u77 hV77 => ?_)
      have b12_77 := hV77.b12
      have e13_77 := fun i => hV77.g13 (i := i)
      have e14_77 := fun i => hV77.g14 (i := i)
      exact ih _ _ _ _ hV77 (by first | assumption | (exact lt1 (mu_lt (by assumption)) hm) | grind) (by first | assumption | (exact lt1 (mu_lt (by assumption)) hm) | grind) (lt1 (mu_lt c0) hm)
set_option maxHeartbeats 1000000 in
theorem l_X11_ticks_b17 {w h : Nat} {f0 : Nat → Int32} {g0 : Nat → Nat → Int32} {B2 : (Nat → Int32) → (Nat → Nat → Int32) → Int32 → Prop} {m2 : Nat} {K : Int32 → ((Nat → Int32) × (Nat → Nat → Int32)) → Prop} (hK : ∀ v : Int32, ∀ u : mS, V w h f0 g0 u.1 u.2 → K v u) (hB2 : ∀ (f : Nat → Int32) (g : Nat → Nat → Int32) (x1 : Int32), V w h f0 g0 f g → 0 ≤ x1 → mu x1 < m2 → B2 f g x1) (n : Nat) : ∀ (f : Nat → Int32) (g : Nat → Nat → Int32) (x1 : Int32) (x2 : Int32) (x3 : Int32), V w h f0 g0 f g → 0 ≤ x3 → 0 ≤ x1 ∧ x1 < 30 → mu (x1 + 1) < m2 → mu (x3) < n → wpX11_ticks_b17 B2 n f g x1 x2 x3 K := by
  induction n with
  | zero => intro f g x1 x2 x3 hV hi0 hi1 hi2 hm; exact absurd hm (Nat.not_lt_zero _)
  | succ n ih =>
    intro f g x1 x2 x3 hV hi0 hi1 hi2 hm
    have b12_i := hV.b12
    have e13_i := fun i => hV.g13 (i := i)
    have e14_i := fun i => hV.g14 (i := i)
    have hm2 := hi2
    unfold wpX11_ticks_b17 wpX11_ticks_b17_body
    refine ⟨vI (c := 60) rfl (by first | assumption | grind | (simp [pt_r, upd_r] <;> grind)) (by first | assumption | grind | (simp [pt_r, upd_r] <;> grind)), ?_⟩
    refine ⟨fun c0 => ?_, fun c0 => ?_⟩
    · unfold wpX11_ticks_b48
      refine ⟨fun c1 => ?_, fun c1 => ?_⟩
      · exact ⟨_, l_X11_ticks_b60 hK _ _ _ _ _ hV (by first | assumption | (exact lt1 (mu_lt (by assumption)) hm) | grind) (by first | assumption | (exact lt1 (mu_lt (by assumption)) hm) | grind) (Nat.lt_succ_self _)⟩
      · exact hB2 _ _ _ hV (by first | assumption | (exact lt1 (mu_lt (by assumption)) hm) | grind) hm2
    · refine ⟨fun c1 => ?_, fun c1 => ?_⟩
      · unfold wpX11_ticks_b48
        refine ⟨fun c2 => ?_, fun c2 => ?_⟩
        · exact ⟨_, l_X11_ticks_b60 hK _ _ _ _ _ hV (by first | assumption | (exact lt1 (mu_lt (by assumption)) hm) | grind) (by first | assumption | (exact lt1 (mu_lt (by assumption)) hm) | grind) (Nat.lt_succ_self _)⟩
        · exact hB2 _ _ _ hV (by first | assumption | (exact lt1 (mu_lt (by assumption)) hm) | grind) hm2
      · refine s_X11_holds hV (by first | assumption | grind | (simp [pt_r, upd_r] <;> grind)) (fun r38 hb38 => ?_)
        try dsimp only
        exact ih _ _ _ _ _ hV (by first | assumption | (exact lt1 (mu_lt (by assumption)) hm) | grind) (by first | assumption | (exact lt1 (mu_lt (by assumption)) hm) | grind) (by first | assumption | (exact lt1 (mu_lt (by assumption)) hm) | grind) (lt1 (mu_lt c0) hm)
set_option maxHeartbeats 1000000 in
theorem l_X11_ticks_b2 {w h : Nat} {f0 : Nat → Int32} {g0 : Nat → Nat → Int32} {K : Int32 → ((Nat → Int32) × (Nat → Nat → Int32)) → Prop} (hK : ∀ v : Int32, ∀ u : mS, V w h f0 g0 u.1 u.2 → K v u) (n : Nat) : ∀ (f : Nat → Int32) (g : Nat → Nat → Int32) (x1 : Int32), V w h f0 g0 f g → 0 ≤ x1 → mu (x1) < n → wpX11_ticks_b2 n f g x1 K := by
  induction n with
  | zero => intro f g x1 hV hi0 hm; exact absurd hm (Nat.not_lt_zero _)
  | succ n ih =>
    intro f g x1 hV hi0 hm
    have b12_i := hV.b12
    have e13_i := fun i => hV.g13 (i := i)
    have e14_i := fun i => hV.g14 (i := i)
    unfold wpX11_ticks_b2 wpX11_ticks_b2_body
    refine ⟨fun c0 => ?_, fun c0 => ?_⟩
    · exact hK _ _ hV
    · exact ⟨_, l_X11_ticks_b17 hK ih _ _ _ _ _ _ hV (by first | assumption | (exact lt1 (mu_lt (by assumption)) hm) | grind) (by first | assumption | (exact lt1 (mu_lt (by assumption)) hm) | grind) (by first | assumption | (exact lt1 (mu_lt (by assumption)) hm) | grind) (Nat.lt_succ_self _)⟩
set_option maxHeartbeats 1000000 in
theorem s_X11_ticks {w h : Nat} {f0 : Nat → Int32} {g0 : Nat → Nat → Int32} {f : Nat → Int32} {g : Nat → Nat → Int32} {K : Int32 → ((Nat → Int32) × (Nat → Nat → Int32)) → Prop} (hV : V w h f0 g0 f g) (hK : ∀ v : Int32, ∀ u : mS, V w h f0 g0 u.1 u.2 → K v u) : wpX11_ticks f g K := by
  have b12_i := hV.b12
  have e13_i := fun i => hV.g13 (i := i)
  have e14_i := fun i => hV.g14 (i := i)
  unfold wpX11_ticks
  unfold wpX11_ticks_b0
  exact ⟨_, l_X11_ticks_b2 hK _ _ _ _ hV (by first | assumption | (exact lt1 (mu_lt (by assumption)) hm) | grind) (Nat.lt_succ_self _)⟩
set_option maxHeartbeats 1000000 in
theorem l_X11_tick_b22 {w h : Nat} {f0 : Nat → Int32} {g0 : Nat → Nat → Int32} {K : Int32 → ((Nat → Int32) × (Nat → Nat → Int32)) → Prop} (hK : ∀ v : Int32, ∀ u : mS, V w h f0 g0 u.1 u.2 → K v u) (n : Nat) : ∀ (f : Nat → Int32) (g : Nat → Nat → Int32) (x1 : Int32) (x2 : Int32) (x3 : Int32), V w h f0 g0 f g → 0 ≤ x3 → mu (x3) < n → wpX11_tick_b22 n f g x1 x2 x3 K := by
  induction n with
  | zero => intro f g x1 x2 x3 hV hi0 hm; exact absurd hm (Nat.not_lt_zero _)
  | succ n ih =>
    intro f g x1 x2 x3 hV hi0 hm
    unfold wpX11_tick_b22 wpX11_tick_b22_body
    refine ⟨fun c0 => ?_, fun c0 => ?_⟩
    · exact hK _ _ hV
    · refine s_X11_ticks hV (fun r29 u29 hV29 => ?_)
      refine ⟨fun c1 => ?_, fun c1 => ?_⟩
      · unfold wpX11_tick_b48
        exact ih _ _ _ _ _ (Vf (k := 51) rfl hV29) (by first | assumption | grind | (simp [pt_r, upd_r] <;> grind)) (lt1 (mu_lt c0) hm)
      · unfold wpX11_tick_b48
        exact ih _ _ _ _ _ (Vf (k := 51) rfl hV29) (by first | assumption | grind | (simp [pt_r, upd_r] <;> grind)) (lt1 (mu_lt c0) hm)
set_option maxHeartbeats 1000000 in
theorem s_X11_tick {w h : Nat} {f0 : Nat → Int32} {g0 : Nat → Nat → Int32} {f : Nat → Int32} {g : Nat → Nat → Int32} {x1 : Int32} {K : Int32 → ((Nat → Int32) × (Nat → Nat → Int32)) → Prop} (hV : V w h f0 g0 f g) (hK : ∀ v : Int32, ∀ u : mS, V w h f0 g0 u.1 u.2 → K v u) : wpX11_tick f g x1 K := by
  unfold wpX11_tick
  unfold wpX11_tick_b0
  refine s_X11_isIn (fun r10 hb10 hp10 => ?_)
  refine ⟨fun c0 => ?_, fun c0 => ?_⟩
  · exact ⟨_, l_X11_tick_b22 hK _ _ _ _ _ _ (Vf (k := 2) rfl hV) (by first | assumption | grind | (simp [pt_r, upd_r] <;> grind)) (Nat.lt_succ_self _)⟩
  · exact hK _ _ (Vf (k := 2) rfl hV)
set_option maxHeartbeats 1000000 in
theorem l_X11_run_b20 {w h : Nat} {f0 : Nat → Int32} {g0 : Nat → Nat → Int32} {K : Int32 → ((Nat → Int32) × (Nat → Nat → Int32)) → Prop} (hK : ∀ v : Int32, ∀ u : mS, V w h f0 g0 u.1 u.2 → K v u) (n : Nat) : ∀ (f : Nat → Int32) (g : Nat → Nat → Int32) (x1 : Int32) (x2 : Int32), V w h f0 g0 f g → 0 ≤ x2 ∧ x2 ≤ x1 → mu (x2) < n → wpX11_run_b20 n f g x1 x2 K := by
  induction n with
  | zero => intro f g x1 x2 hV hi0 hm; exact absurd hm (Nat.not_lt_zero _)
  | succ n ih =>
    intro f g x1 x2 hV hi0 hm
    unfold wpX11_run_b20 wpX11_run_b20_body
    refine ⟨fun c0 => ?_, fun c0 => ?_⟩
    · exact hK _ _ hV
    · refine ⟨fun c1 => ?_, fun c1 => ?_⟩
      · refine s_X11_ticks hV (fun r41 u41 hV41 => ?_)
        exact ih _ _ _ _ (Vf (k := 51) rfl hV41) (by first | assumption | grind | (simp [pt_r, upd_r] <;> grind)) (lt1 (mu_lt (N := x1) (by first | assumption | grind | (simp [pt_r, upd_r] <;> grind))) hm)
      · exact hK _ _ hV
set_option maxHeartbeats 1000000 in
theorem s_X11_run {w h : Nat} {f0 : Nat → Int32} {g0 : Nat → Nat → Int32} {f : Nat → Int32} {g : Nat → Nat → Int32} {x1 : Int32} {K : Int32 → ((Nat → Int32) × (Nat → Nat → Int32)) → Prop} (hV : V w h f0 g0 f g) (hK : ∀ v : Int32, ∀ u : mS, V w h f0 g0 u.1 u.2 → K v u) : wpX11_run f g x1 K := by
  unfold wpX11_run
  unfold wpX11_run_b0
  refine s_X11_isIn (fun r10 hb10 hp10 => ?_)
  refine ⟨fun c0 => ?_, fun c0 => ?_⟩
  · exact ⟨_, l_X11_run_b20 hK _ _ _ _ _ (Vf (k := 2) rfl hV) (by first | assumption | grind | (simp [pt_r, upd_r] <;> grind)) (Nat.lt_succ_self _)⟩
  · exact hK _ _ (Vf (k := 2) rfl hV)
set_option maxHeartbeats 1000000 in
theorem l_X11_comesIn_b2 {w h : Nat} {f0 : Nat → Int32} {g0 : Nat → Nat → Int32} {K : Int32 → ((Nat → Int32) × (Nat → Nat → Int32)) → Prop} (hK : ∀ v : Int32, ∀ u : mS, V w h f0 g0 u.1 u.2 → K v u) (n : Nat) : ∀ (f : Nat → Int32) (g : Nat → Nat → Int32) (x1 : Int32) (x2 : Int32), V w h f0 g0 f g → 0 ≤ x2 ∧ x2 ≤ x1 → mu (x2) < n → wpX11_comesIn_b2 n f g x1 x2 K := by
  induction n with
  | zero => intro f g x1 x2 hV hi0 hm; exact absurd hm (Nat.not_lt_zero _)
  | succ n ih =>
    intro f g x1 x2 hV hi0 hm
    unfold wpX11_comesIn_b2 wpX11_comesIn_b2_body
    refine ⟨fun c0 => ?_, fun c0 => ?_⟩
    · exact hK _ _ hV
    · refine ⟨fun c1 => ?_, fun c1 => ?_⟩
      · refine s_X11_ticks hV (fun r22 u22 hV22 => ?_)
        exact ih _ _ _ _ hV22 (by first | assumption | grind | (simp [pt_r, upd_r] <;> grind)) (lt1 (mu_lt (N := x1) (by first | assumption | grind | (simp [pt_r, upd_r] <;> grind))) hm)
      · exact hK _ _ hV
set_option maxHeartbeats 1000000 in
theorem s_X11_comesIn {w h : Nat} {f0 : Nat → Int32} {g0 : Nat → Nat → Int32} {f : Nat → Int32} {g : Nat → Nat → Int32} {x1 : Int32} {K : Int32 → ((Nat → Int32) × (Nat → Nat → Int32)) → Prop} (hV : V w h f0 g0 f g) (hp : 0 ≤ x1) (hK : ∀ v : Int32, ∀ u : mS, V w h f0 g0 u.1 u.2 → K v u) : wpX11_comesIn f g x1 K := by
  unfold wpX11_comesIn
  unfold wpX11_comesIn_b0
  exact ⟨_, l_X11_comesIn_b2 hK _ _ _ _ _ hV (by first | assumption | grind | (simp [pt_r, upd_r] <;> grind)) (Nat.lt_succ_self _)⟩
set_option maxHeartbeats 1000000 in
theorem s_X11_mouse {w h : Nat} {f0 : Nat → Int32} {g0 : Nat → Nat → Int32} {f : Nat → Int32} {g : Nat → Nat → Int32} {x1 : Int32} {K : Int32 → ((Nat → Int32) × (Nat → Nat → Int32)) → Prop} (hV : V w h f0 g0 f g) (hK : ∀ v : Int32, ∀ u : mS, V w h f0 g0 u.1 u.2 → K v u) : wpX11_mouse f g x1 K := by
  unfold wpX11_mouse
  unfold wpX11_mouse_b0
  refine ⟨fun c0 => ?_, fun c0 => ?_, fun c0 => ?_, fun c0 => ?_, fun c0 => ?_, fun c0 => ?_⟩
  · exact hK _ _ (Vf (k := 2) rfl hV)
  · exact hK _ _ (Vf (k := 2) rfl hV)
  · exact hK _ _ (Vf (k := 2) rfl hV)
  · exact hK _ _ (Vf (k := 2) rfl hV)
  · exact hK _ _ (Vf (k := 2) rfl hV)
  · exact hK _ _ (Vf (k := 2) rfl hV)
set_option maxHeartbeats 1000000 in
theorem s_X11_fails {w h : Nat} {f0 : Nat → Int32} {g0 : Nat → Nat → Int32} {f : Nat → Int32} {g : Nat → Nat → Int32} {x1 : Int32} {K : Int32 → ((Nat → Int32) × (Nat → Nat → Int32)) → Prop} (hV : V w h f0 g0 f g) (hK : ∀ v : Int32, ∀ u : mS, V w h f0 g0 u.1 u.2 → K v u) : wpX11_fails f g x1 K := by
  unfold wpX11_fails
  unfold wpX11_fails_b0
  exact hK _ _ (Vf (k := 2) rfl hV)
/-- how many squares are marked -/
def cn (F : Nat → Int32) : Nat → Nat
  | 0 => 0
  | m + 1 => cn F m + (if F m = -1 then 0 else 1)
theorem cn_le (F : Nat → Int32) (m : Nat) : cn F m ≤ m := by
  induction m with
  | zero => exact Nat.le_refl _
  | succ m ih => unfold cn; split <;> omega
theorem cn_lt {F : Nat → Int32} {t m : Nat} (ht : t < m) (h : F t = -1) : cn F m < m := by
  induction m with
  | zero => omega
  | succ m ih =>
    unfold cn
    have := cn_le F m
    by_cases e : t = m
    · subst e; rw [if_pos h]; omega
    · have := ih (by omega); split <;> omega
theorem cn_ge {F : Nat → Int32} {t m : Nat} {v : Int32} (ht : m ≤ t) : cn (upd F t v) m = cn F m := by
  induction m with
  | zero => rfl
  | succ m ih =>
    have e : upd F t v m = F m := by rw [upd_r, if_neg (by omega)]
    unfold cn
    rw [ih (by omega), e]
theorem cn_up {F : Nat → Int32} {t m : Nat} {v : Int32} (ht : t < m) (h : F t = -1) (hv : ¬ v = -1) : cn (upd F t v) m = cn F m + 1 := by
  induction m with
  | zero => omega
  | succ m ih =>
    unfold cn
    by_cases e : t = m
    · subst e
      have e1 : upd F t v t = v := by rw [upd_r, if_pos rfl]
      rw [cn_ge (Nat.le_refl _), e1, if_neg hv, if_pos h]
    · have e1 : upd F t v m = F m := by rw [upd_r, if_neg (fun q => e q.symm)]
      rw [ih (by omega), e1]
      omega
theorem cn_0 {F : Nat → Int32} {m : Nat} (h : ∀ s, s < m → F s = -1) : cn F m = 0 := by
  induction m with
  | zero => rfl
  | succ m ih => unfold cn; rw [ih (fun s hs => h s (by omega)), if_pos (h m (by omega))]
def LI (w h n : Nat) (g : Nat → Nat → Int32) : Prop := cn (g 54) (w * h) = n ∧ (∀ j, j < n → ∃ s, s < w * h ∧ g 55 j = nI s ∧ 0 ≤ g 54 s) ∧ ∀ s, s < w * h → -1 ≤ g 54 s ∧ g 54 s < nI n
def G45 (g g' : Nat → Nat → Int32) : Prop := ∀ k, k ≠ 54 → k ≠ 55 → g' k = g k
section LF
variable {w h : Nat} {f : Nat → Int32} {g0 : Nat → Nat → Int32} {K : mS → Prop}
theorem lf_step {n k : Nat} {g : Nat → Nat → Int32} {t : Nat} (e : (2 ≤ w ∧ w ≤ 6) ∧ 2 ≤ h ∧ h ≤ 6) (hI : LI w h n g) (hk : k < n) (ht : t < w * h) (hf : g 54 t = -1) : n < w * h ∧ LI w h (n + 1) (pt (pt g 54 t (g 54 (ix (g 55 k)) + 1)) 55 n (nI t)) ∧ vp_in (g 55 k) 36 := by
  have h36 := (wh36 e).2
  obtain ⟨h1, h2, h3⟩ := hI
  have hn : n < w * h := by rw [← h1]; exact cn_lt ht hf
  obtain ⟨s, hs, hq, h0⟩ := h2 k hk
  have hsn := (h3 s hs).2
  have ei : ix (g 55 k) = s := by rw [hq]; exact ix_nI (by omega)
  have hnb : nI n < 36 := nI_lt (b := 36) (by omega) (by omega)
  have e1 : nI (n + 1) = nI n + 1 := nI_succ n
  have hv0 : 0 ≤ g 54 s + 1 := by grind
  have hv1 : g 54 s + 1 < nI (n + 1) := by rw [e1]; grind
  have hvn : ¬ g 54 s + 1 = -1 := by grind
  refine ⟨hn, ⟨?_, fun j hj => ?_, fun q hq' => ?_⟩, by rw [hq]; exact vin (by omega) (by decide)⟩
  · rw [pt_ne (by decide), pt_at, ei, cn_up ht hf hvn, h1]
  · by_cases hjn : j = n
    · subst hjn
      refine ⟨t, ht, by rw [pt_at, upd_r, if_pos rfl], ?_⟩
      rw [pt_ne (by decide), pt_at, upd_r, if_pos rfl, ei]
      exact hv0
    · obtain ⟨s', hs', hq', h0'⟩ := h2 j (by omega)
      refine ⟨s', hs', by rw [pt_at, upd_r, if_neg hjn, pt_ne (by decide)]; exact hq', ?_⟩
      rw [pt_ne (by decide), pt_at, upd_r]
      by_cases q : s' = t
      · rw [if_pos q, ei]; exact hv0
      · rw [if_neg q]; exact h0'
  · rw [pt_ne (by decide), pt_at, upd_r]
    by_cases q2 : q = t
    · rw [if_pos q2, ei]; exact ⟨by grind, hv1⟩
    · rw [if_neg q2]
      have := h3 q hq'
      exact ⟨this.1, by rw [e1]; grind⟩
theorem lf_52 {g00 : Nat → Nat → Int32} {B45 : (Nat → Int32) → (Nat → Nat → Int32) → Int32 → Int32 → Prop} {k : Nat} (e : GE w h f) (hr : RM w h (g00 46)) (hB : ∀ (g : Nat → Nat → Int32) (n : Nat), G45 g00 g → LI w h n g → k < n → B45 f g (nI n) (nI k + 1)) (m : Nat) : ∀ (g : Nat → Nat → Int32) (n d : Nat), G45 g00 g → LI w h n g → k < n → d ≤ 4 → 4 - d < m → wpX11_layFar_b52 B45 m f g (nI n) (nI k) (nI d) K := by
  have h36 := (wh36 e.2).2
  induction m with
  | zero => intro g n d _ _ _ _ hm; exact absurd hm (Nat.not_lt_zero _)
  | succ m ih =>
    intro g n d hG hI hk hd hm
    have hn36 : n ≤ w * h := by rw [← hI.1]; exact cn_le _ _
    unfold wpX11_layFar_b52 wpX11_layFar_b52_body
    refine ⟨fun _ => hB g n hG hI hk, fun c => ?_⟩
    have hd4 : d < 4 := by
      rcases Nat.lt_or_ge d 4 with q | q
      · exact q
      · exact absurd (nI_le (a := 4) q (by omega)) c
    have vk : vp_in (nI k) 36 := vin (by omega) (by decide)
    have ek : ix (nI k) = k := ix_nI (by omega)
    obtain ⟨s, hs, hq, h0⟩ := hI.2.1 k hk
    have hx : GX w h f g := ⟨e, by rw [hG 46 (by decide) (by decide)]; exact hr⟩
    have nx : ∀ g n, G45 g00 g → LI w h n g → k < n → wpX11_layFar_b132 B45 (fun f g x1 x2 x3 => wpX11_layFar_b52 B45 m f g x1 x2 x3 K) f g (nI n) (nI k) (nI d) K := fun g n a b c => by
      unfold wpX11_layFar_b132
      rw [nI_1]
      exact ih g n (d + 1) a b c (by omega) (by omega)
    refine ⟨vk, ?_⟩
    rw [ek]
    refine s_X11_isWall hx ⟨by rw [hq]; exact nI_pos' (by omega), by rw [hq]; exact nI_lt hs (by omega)⟩ ⟨nI_pos' (by omega), nI_le (b := 3) (by omega) (by omega)⟩ (fun r hb hp => ⟨fun c1 => ?_, fun _ => nx g n hG hI hk⟩)
    refine ⟨vk, s_X11_ahead hx (hp c1) (fun r2 h2 => ?_)⟩
    obtain ⟨t, ht, rfl⟩ := inN h36 h2
    have et : ix (nI t) = t := ix_nI (by omega)
    dsimp only
    rw [et]
    refine ⟨vin (by omega) (by decide), fun c2 => ?_, fun _ => nx g n hG hI hk⟩
    obtain ⟨hn, hI2, v2⟩ := lf_step e.2 hI hk ht c2
    refine ⟨vk, v2, vin (by omega) (by decide), vin (by omega) (by decide), ?_⟩
    rw [ix_nI (by omega), nI_1]
    refine nx _ (n + 1) (fun q h4 h5 => ?_) hI2 (by omega)
    rw [pt_ne h5, pt_ne h4]
    exact hG q h4 h5
theorem lf_45 {g00 : Nat → Nat → Int32} (e : GE w h f) (hr : RM w h (g00 46)) (hK : ∀ g', G45 g00 g' → K (f, g')) (m : Nat) : ∀ (g : Nat → Nat → Int32) (n k : Nat), G45 g00 g → LI w h n g → k ≤ n → 40 - k < m → wpX11_layFar_b45 m f g (nI n) (nI k) K := by
  have h36 := (wh36 e.2).2
  induction m with
  | zero => intro g n k _ _ _ hm; exact absurd hm (Nat.not_lt_zero _)
  | succ m ih =>
    intro g n k hG hI hk hm
    have hn36 : n ≤ w * h := by rw [← hI.1]; exact cn_le _ _
    unfold wpX11_layFar_b45 wpX11_layFar_b45_body
    refine ⟨fun _ => hK g hG, fun c => ?_⟩
    have hkn : k < n := by
      rcases Nat.lt_or_ge k n with q | q
      · exact q
      · exact absurd (nI_le q (by omega)) c
    refine ⟨5, lf_52 (k := k) e hr (fun g' n' a b c' => ?_) 5 g n 0 hG hI hkn (by omega) (by omega)⟩
    rw [nI_1]
    exact ih g' n' (k + 1) a b (by omega) (by omega)
theorem lf_2 {g00 : Nat → Nat → Int32} (e : GE w h f) (hr : RM w h (g00 46)) (hb : 0 ≤ f 40 ∧ f 40 < nI (w * h)) (hK : ∀ g', G45 g00 g' → K (f, g')) (m : Nat) : ∀ (g : Nat → Nat → Int32) (i : Nat), G45 g00 g → (∀ s, s < i → g 54 s = -1) → i ≤ 36 → 36 - i < m → wpX11_layFar_b2 m f g (nI i) K := by
  have h36 := (wh36 e.2).2
  induction m with
  | zero => intro g i _ _ _ hm; exact absurd hm (Nat.not_lt_zero _)
  | succ m ih =>
    intro g i hG hI hi hm
    unfold wpX11_layFar_b2 wpX11_layFar_b2_body
    refine ⟨fun c => ?_, fun c => ?_⟩
    · have hi36 : i = 36 := by
        rcases Nat.lt_or_ge i 36 with q | q
        · exact absurd c (nI_ge (b := 36) q (by omega))
        · omega
      subst hi36
      obtain ⟨b, hbl, eb⟩ := inN h36 hb
      have e0 : ix (0 : Int32) = 0 := rfl
      rw [eb, ix_nI (by omega), e0]
      refine ⟨vin (by omega) (by decide), vin (n := 0) (by decide) (by decide), 50, ?_⟩
      refine lf_45 e hr hK 50 _ 1 0 (fun q h4 h5 => ?_) ⟨?_, fun j hj => ?_, fun s hs => ?_⟩ (by omega) (by omega)
      · rw [pt_ne h5, pt_ne h4]; exact hG q h4 h5
      · rw [pt_ne (by decide), pt_at, cn_up hbl (hI b (by omega)) (by decide), cn_0 (fun s hs => hI s (by omega))]
      · have : j = 0 := by omega
        subst this
        refine ⟨b, hbl, by rw [pt_at, upd_r, if_pos rfl], ?_⟩
        rw [pt_ne (by decide), pt_at, upd_r, if_pos rfl]
        decide
      · rw [pt_ne (by decide), pt_at, upd_r]
        by_cases q : s = b
        · rw [if_pos q]; decide
        · rw [if_neg q, hI s (by omega)]; decide
    · have hi36 : i < 36 := by
        rcases Nat.lt_or_ge i 36 with q | q
        · exact q
        · exact absurd (nI_le (a := 36) q (by omega)) c
      refine ⟨vin hi36 (by decide), ?_⟩
      rw [ix_nI (by omega), nI_1]
      refine ih _ (i + 1) (fun q h4 h5 => ?_) (fun s hs => ?_) (by omega) (by omega)
      · rw [pt_ne h4]; exact hG q h4 h5
      · rw [pt_at, upd_r]
        by_cases q : s = i
        · rw [if_pos q]
        · rw [if_neg q]; exact hI s (by omega)
/-- the search, wherever the mouse is -/
theorem m_layFar {g : Nat → Nat → Int32} (e : GE w h f) (hr : RM w h (g 46)) (hb : 0 ≤ f 40 ∧ f 40 < nI (w * h)) (hK : ∀ g', G45 g g' → K (f, g')) : wpX11_layFar f g K := by
  unfold wpX11_layFar wpX11_layFar_b0
  exact ⟨40, lf_2 e hr hb hK 40 g 0 (fun _ _ _ => rfl) (fun s hs => by omega) (by omega) (by omega)⟩
theorem V.g45 {f0 : Nat → Int32} {g00 g g' : Nat → Nat → Int32} (hV : V w h f0 g00 f g) (hG : G45 g g') : V w h f0 g00 f g' := by
  refine ⟨⟨hV.1.1, fun k i => ?_, hV.1.2.2.1, ?_⟩, ⟨hV.2.1.1, by rw [hG 46 (by decide) (by decide)]; exact hV.2.1.2.1, by rw [hG 56 (by decide) (by decide)]; exact hV.2.1.2.2.1, by rw [hG 57 (by decide) (by decide)]; exact hV.2.1.2.2.2⟩, hV.2.2⟩
  · by_cases h4 : k = 54
    · subst h4; exact gb_f rfl
    · by_cases h5 : k = 55
      · subst h5; exact gb_f rfl
      · rw [hG k h4 h5]; exact hV.1.2.1 k i
  · unfold NK
    rw [hG 27 (by decide) (by decide), hG 28 (by decide) (by decide), hG 29 (by decide) (by decide)]
    exact hV.1.2.2.2
theorem s_X11_layFar {f0 : Nat → Int32} {g00 g : Nat → Nat → Int32} (hV : V w h f0 g00 f g) (hK : ∀ u : mS, V w h f0 g00 u.1 u.2 → K u) : wpX11_layFar f g K :=
  m_layFar hV.ge hV.rm hV.b40 (fun g' hG => hK _ (hV.g45 hG))
end LF
set_option maxHeartbeats 1000000 in
theorem s_X11_look {w h : Nat} {f0 : Nat → Int32} {g0 : Nat → Nat → Int32} {f : Nat → Int32} {g : Nat → Nat → Int32} {x1 : Int32} {x2 : Int32} {K : Int32 → ((Nat → Int32) × (Nat → Nat → Int32)) → Prop} (hV : V w h f0 g0 f g) (hK : ∀ v : Int32, ∀ u : mS, V w h f0 g0 u.1 u.2 → K v u) : wpX11_look f g x1 x2 K := by
  have n_i := hV.n
  unfold wpX11_look
  unfold wpX11_look_b0
  refine s_X11_isSquare (Vf (k := 2) rfl hV) (fun r7 hb7 hp7 => ?_)
  try dsimp only
  refine ⟨fun c0 => ?_, fun c0 => ?_⟩
  · refine ⟨fun c1 => ?_, fun c1 => ?_, fun c1 => ?_, fun c1 => ?_, fun c1 => ?_⟩
    · refine ⟨vI (c := 36) rfl (by first | assumption | grind | (simp [pt_r, upd_r] <;> grind)) (by first | assumption | grind | (simp [pt_r, upd_r] <;> grind)), ?_⟩
      exact hK _ _ (Vf (k := 2) rfl hV)
    · refine ⟨vI (c := 36) rfl (by first | assumption | grind | (simp [pt_r, upd_r] <;> grind)) (by first | assumption | grind | (simp [pt_r, upd_r] <;> grind)), ?_⟩
      exact hK _ _ (Vf (k := 2) rfl hV)
    · refine ⟨vI (c := 36) rfl (by first | assumption | grind | (simp [pt_r, upd_r] <;> grind)) (by first | assumption | grind | (simp [pt_r, upd_r] <;> grind)), ?_⟩
      exact hK _ _ (Vf (k := 2) rfl hV)
    · refine s_X11_layFar (Vf (k := 2) rfl hV) (fun u74 hV74 => ?_)
      have n_74 := hV74.n
      refine ⟨vI (c := 36) rfl (by first | assumption | grind | (simp [pt_r, upd_r] <;> grind)) (by first | assumption | grind | (simp [pt_r, upd_r] <;> grind)), ?_⟩
      exact hK _ _ hV74
    · refine s_X11_fails (Vf (k := 2) rfl hV) (fun r86 u86 hV86 => ?_)
      have n_86 := hV86.n
      exact hK _ _ hV86
  · refine s_X11_fails (Vf (k := 2) rfl hV) (fun r15 u15 hV15 => ?_)
    have n_15 := hV15.n
    exact hK _ _ hV15
/-- an image of a mouse and its floor -/
def IM (w h k : Nat) (p : Nat → Int32) : Prop := ((p (120 * k) = nI w ∧ p (120 * k + 1) = nI h) ∧ (2 ≤ w ∧ w ≤ 6) ∧ 2 ≤ h ∧ h ≤ 6) ∧ (0 ≤ p (120 * k + 2) ∧ p (120 * k + 2) < nI (w * h)) ∧ (0 ≤ p (120 * k + 3) ∧ p (120 * k + 3) < nI (w * h)) ∧ (0 ≤ p (120 * k + 4) ∧ p (120 * k + 4) ≤ 3) ∧ RM w h (fun s => p (120 * k + 8 + s)) ∧ ∀ s, s < 36 → 0 ≤ p (120 * k + 44 + s) ∧ p (120 * k + 44 + s) ≤ 3
theorem IM.eq {w h k : Nat} {p p' : Nat → Int32} (hi : IM w h k p) (e : ∀ i, 120 * k ≤ i → i < 120 * k + 120 → p' i = p i) : IM w h k p' := by
  have h36 := (wh36 hi.1.2).2
  obtain ⟨⟨⟨a1, a2⟩, a3⟩, b, c, d, r, y⟩ := hi
  refine ⟨⟨⟨by rw [e _ (by omega) (by omega)]; exact a1, by rw [e _ (by omega) (by omega)]; exact a2⟩, a3⟩, by rw [e _ (by omega) (by omega)]; exact b, by rw [e _ (by omega) (by omega)]; exact c, by rw [e _ (by omega) (by omega)]; exact d, fun s hs => ?_, fun s hs => by rw [e _ (by omega) (by omega)]; exact y s hs⟩
  have q := r s hs
  dsimp only at q ⊢
  rw [e _ (by omega) (by omega)]
  exact q
/-- images that a hand keeps stay -/
def KE (g g' : Nat → Nat → Int32) : Prop := g' 56 = g 56 ∧ ∀ i, i < 480 → g' 57 i = g 57 i
