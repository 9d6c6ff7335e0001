set_option maxHeartbeats 1000000 in
theorem l_X11_relayRead_b2 {w h : Nat} {f0 : Nat → Int32} {g0 : Nat → Nat → Int32} {f : Nat → Int32} {g : Nat → Nat → Int32} {K : Int32 → ((Nat → Int32) × (Nat → Nat → Int32)) → Prop} (hV : V w h f0 g0 f g) (hK : ∀ v : Int32, (v = -1 ∨ (0 ≤ v ∧ v < 20)) → K v (f, g)) (n : Nat) : ∀ (x1 : Int32) (x2 : Int32), 0 ≤ x2 → mu (x2) < n → wpX11_relayRead_b2 n f g x1 x2 K := by
  induction n with
  | zero => intro x1 x2 hi0 hm; exact absurd hm (Nat.not_lt_zero _)
  | succ n ih =>
    intro x1 x2 hi0 hm
    have b21_i := hV.b21
    unfold wpX11_relayRead_b2 wpX11_relayRead_b2_body
    refine ⟨fun c0 => ?_, fun c0 => ?_⟩
    · exact hK _ (by first | assumption | grind | (simp [pt_r, upd_r] <;> grind))
    · refine ⟨vI (c := 40) rfl (by first | assumption | grind | (simp [pt_r, upd_r] <;> grind)) (by first | assumption | grind | (simp [pt_r, upd_r] <;> grind)), ?_⟩
      refine ⟨fun c1 => ?_, fun c1 => ?_⟩
      · exact ih _ _ (by first | assumption | grind | (simp [pt_r, upd_r] <;> grind)) (lt1 (mu_lt c0) hm)
      · exact hK _ (by first | assumption | grind | (simp [pt_r, upd_r] <;> grind))
set_option maxHeartbeats 1000000 in
theorem s_X11_relayRead {w h : Nat} {f0 : Nat → Int32} {g0 : Nat → Nat → Int32} {f : Nat → Int32} {g : Nat → Nat → Int32} {x1 : Int32} {K : Int32 → ((Nat → Int32) × (Nat → Nat → Int32)) → Prop} (hV : V w h f0 g0 f g) (hK : ∀ v : Int32, (v = -1 ∨ (0 ≤ v ∧ v < 20)) → K v (f, g)) : wpX11_relayRead f g x1 K := by
  have b21_i := hV.b21
  unfold wpX11_relayRead
  unfold wpX11_relayRead_b0
  exact ⟨_, l_X11_relayRead_b2 hV hK _ _ _ (by first | assumption | grind | (simp [pt_r, upd_r] <;> grind)) (Nat.lt_succ_self _)⟩
section NL
variable {w h : Nat} {f0 : Nat → Int32} {g0 : Nat → Nat → Int32} {K : Int32 → mS → Prop}
theorem nl_195 {a f : Nat → Int32} {g : Nat → Nat → Int32} {x1 : Int32} (hV : V w h f0 g0 f g) (hx : 0 ≤ x1 ∧ x1 < 24) (hQ : f 23 ≤ f 36) (ha : a 7 ≤ f 7) (hK1 : ∀ u : mS, QS w h f0 g0 a u → K 1 u) (hK0 : ∀ u : mS, V w h f0 g0 u.1 u.2 → K 0 u) : wpX11_netLine_b195 f g x1 K := by
  have z : ∀ u : mS, V w h f0 g0 u.1 u.2 → wpX11_netLine_b220 u.1 u.2 K := fun u hu => by
    unfold wpX11_netLine_b220 wpX11_netLine_b221
    exact ⟨Or.inl rfl, hK0 _ hu⟩
  unfold wpX11_netLine_b195
  refine s_X11_take hV (fun f1 hV1 hT1 => ?_)
  refine s_X11_signRead hV1 (fun f2 hV2 hT2 => ⟨fun e => absurd e (by decide), fun _ => ?_⟩) (fun u hu => ⟨fun _ => z u hu, fun e => absurd rfl e⟩)
  refine s_X11_partRead hV2 hx ?_ (fun u hu => ⟨fun e => absurd e (by decide), fun _ => ?_⟩) (fun u hu => ⟨fun _ => z u hu, fun e => absurd rfl e⟩)
  · dsimp only
    rw [hT2.1 23 (by decide) (by decide) (by decide) (by decide), hT2.1 36 (by decide) (by decide) (by decide) (by decide)]
    dsimp only
    rw [hT1.1 23 (by decide) (by decide) (by decide) (by decide), hT1.1 36 (by decide) (by decide) (by decide) (by decide)]
    exact hQ
  · unfold wpX11_netLine_b221
    refine ⟨Or.inr rfl, hK1 _ ⟨hu.1, ⟨?_, ?_⟩, hu.2.2⟩⟩
    · have h1 := hT1.2.1
      have h2 := hT2.2.1
      have h3 := hu.2.1.1
      dsimp only at h2 h3
      grind
    · have h1 := hT1.2.1
      have h2 := hT2.2.1
      have h3 := hu.2.1.2
      dsimp only at h2 h3
      grind
theorem s_X11_netLine {f : Nat → Int32} {g : Nat → Nat → Int32} (hV : V w h f0 g0 f g) (hQ : f 23 ≤ f 36) (hK1 : ∀ u : mS, ¬ f 8 = 0 → QS w h f0 g0 f u → K 1 u) (hK0 : ∀ u : mS, V w h f0 g0 u.1 u.2 → K 0 u) : wpX11_netLine f g K := by
  have k8 : ∀ {r x : Int32}, (r = 0 ∨ (f 8 = 1 ∧ f 9 = x)) → ¬ r = 0 → ¬ f 8 = 0 := fun hp hr => by rw [(hp.resolve_left hr).1]; decide
  have wr : ∀ (f : Nat → Int32) (k : Int32), V w h f0 g0 f g → wpX11_wrong f g k (fun r u => isB r ∧ K r (u.1, u.2)) := fun f k hV => s_X11_wrong hV (fun v f' hV' hb hv _ => ⟨hb, by rw [hv]; exact hK0 _ hV'⟩)
  have s170 : ¬ f 8 = 0 → ∀ k : Int32, 0 ≤ k ∧ k < 24 → wpX11_netLine_b170 f g k K := fun h8 k hk => by
    unfold wpX11_netLine_b170
    exact ⟨vI (c := 48) rfl (by grind) (by grind), fun _ => nl_195 hV hk hQ (Int32.le_refl _) (fun u hu => hK1 u h8 hu) hK0, fun _ => wr f _ hV⟩
  have s126 : ¬ f 8 = 0 → wpX11_netLine_b126 f g K := fun h8 => by
    unfold wpX11_netLine_b126
    exact ⟨fun _ => ⟨fun _ => ⟨fun _ => s170 h8 _ (by decide), fun _ => s170 h8 _ (by decide)⟩, fun _ => s170 h8 _ (by decide)⟩, fun _ => s170 h8 _ (by decide)⟩
  unfold wpX11_netLine wpX11_netLine_b0
  refine s_X11_isKey hV (fun r3 _ hp3 => ⟨fun _ => ?_, fun d => ?_⟩)
  · refine s_X11_isKey hV (fun r1 _ hp1 => ⟨fun d => s126 (k8 hp1 d), fun _ => ?_⟩)
    refine s_X11_isKey hV (fun r2 _ hp2 => ⟨fun d => s126 (k8 hp2 d), fun _ => ?_⟩)
    refine s_X11_isKey hV (fun r4 _ hp4 => ⟨fun d => s126 (k8 hp4 d), fun _ => ?_⟩)
    exact s_X11_isKey hV (fun r5 _ hp5 => ⟨fun _ => wr f _ hV, fun d => s126 (k8 hp5 d)⟩)
  · have h8 := k8 hp3 d
    have b21 := hV.b21
    refine ⟨fun c20 => ?_, fun _ => wr f _ hV⟩
    dsimp only at c20 ⊢
    refine s_X11_take hV (fun f1 hV1 hT1 => ?_)
    dsimp only
    have e21 : f1 21 = f 21 := hT1.1 21 (by decide) (by decide) (by decide) (by decide)
    refine ⟨fun _ => ?_, fun _ => wr f1 _ hV1⟩
    refine s_X11_relayRead hV1 (fun r47 hp47 => ⟨fun _ => ?_, fun _ => wr f1 _ hV1⟩)
    dsimp only
    have hlt : f1 21 < 20 := by rw [e21]; grind
    have h0 : 0 ≤ f1 21 := by rw [e21]; exact b21.1
    refine ⟨vI (c := 40) rfl (by grind) (by grind), ?_⟩
    refine nl_195 (a := f) (Vu21 (by grind) (Vg (k := 24) rfl hV1)) (by grind) ?_ ?_ (fun u hu => hK1 u h8 hu) hK0
    · rw [upd_r, if_neg (by decide), upd_r, if_neg (by decide), hT1.1 23 (by decide) (by decide) (by decide) (by decide), hT1.1 36 (by decide) (by decide) (by decide) (by decide)]; exact hQ
    · rw [upd_r, if_neg (by decide)]; exact hT1.2.1
end NL
set_option maxHeartbeats 1000000 in
theorem s_X11_forgets {w h : Nat} {f0 : Nat → Int32} {g0 : Nat → Nat → Int32} {f : Nat → Int32} {g : Nat → Nat → Int32} {K : ((Nat → Int32) × (Nat → Nat → Int32)) → Prop} (hV : V w h f0 g0 f g) (hK : ∀ u : mS, V w h f0 g0 u.1 u.2 → K u) : wpX11_forgets f g K := by
  unfold wpX11_forgets
  unfold wpX11_forgets_b0
  exact hK _ (Vf (k := 66) rfl hV)
section NT
variable {w h : Nat} {f0 : Nat → Int32} {g0 : Nat → Nat → Int32} {K : Int32 → mS → Prop}
theorem V.re {f : Nat → Int32} {g : Nat → Nat → Int32} (hV : V w h f0 g0 f g) : V w h f g f g := ⟨hV.1, ⟨⟨rfl, rfl, rfl⟩, rfl, rfl, rfl⟩, ⟨hV.ge, hV.rm, hV.b40⟩, hV.b41⟩
theorem V_56 {f : Nat → Int32} {g : Nat → Nat → Int32} {i : Nat} {v : Int32} (hV : V w h f g f g) : V w h f (pt g 56 i v) f (pt g 56 i v) := by
  refine ⟨⟨hV.1.1, fun q j => ?_, hV.1.2.2.1, ?_⟩, ⟨⟨rfl, rfl, rfl⟩, rfl, rfl, rfl⟩, ⟨hV.ge, by rw [pt_ne (by decide)]; exact hV.rm, hV.b40⟩, hV.b41⟩
  · by_cases e : q = 56
    · subst e; exact ⟨fun e => absurd e (by decide), fun e => absurd e (by decide), fun e => absurd e (by decide), fun e => absurd e (by decide), fun e => absurd e (by decide)⟩
    · rw [pt_ne e]; exact hV.1.2.1 q j
  · unfold NK
    rw [pt_ne (by decide), pt_ne (by decide), pt_ne (by decide)]
    exact hV.1.2.2.2
theorem nt_296 (hK2 : ∀ v : Int32, ∀ u : mS, V w h u.1 u.2 u.1 u.2 → (∀ k, k < 4 → u.2 56 k = 0) → K v u) (m : Nat) : ∀ (f : Nat → Int32) (g : Nat → Nat → Int32) (i : Nat), V w h f g f g → i ≤ 4 → (∀ k, k < i → g 56 k = 0) → 4 - i < m → wpX11_net_b296 m f g (nI i) K := by
  induction m with
  | zero => intro f g i _ _ _ hm; exact absurd hm (Nat.not_lt_zero _)
  | succ m ih =>
    intro f g i hV hi hz hm
    unfold wpX11_net_b296 wpX11_net_b296_body
    refine ⟨fun c => ?_, fun c => ?_⟩
    · have h4 : i = 4 := by
        rcases Nat.lt_or_ge i 4 with q | q
        · exact absurd c (nI_ge (b := 4) q (by omega))
        · omega
      subst h4
      exact hK2 _ _ hV hz
    · have h4 : i < 4 := by
        rcases Nat.lt_or_ge i 4 with q | q
        · exact q
        · exact absurd (nI_le (a := 4) q (by omega)) c
      refine ⟨vin h4 (by decide), ?_⟩
      rw [ix_nI (by omega), nI_1, nz0]
      refine ih _ _ (i + 1) (V_56 hV) (by omega) (fun k hk => ?_) (by omega)
      rw [pt_at, upd_r]
      by_cases e : k = i
      · rw [if_pos e]
      · rw [if_neg e]; exact hz k (by omega)
theorem nt_233 (hK2 : ∀ v : Int32, ∀ u : mS, V w h u.1 u.2 u.1 u.2 → (∀ k, k < 4 → u.2 56 k = 0) → K v u) (n : Nat) : ∀ (f : Nat → Int32) (g : Nat → Nat → Int32) (x2 : Int32), V w h f0 g0 f g → 0 ≤ x2 → mu x2 < n → wpX11_net_b233 n f g x2 K := by
  induction n with
  | zero => intro f g x2 _ _ hm; exact absurd hm (Nat.not_lt_zero _)
  | succ n ih =>
    intro f g x2 hV h0 hm
    unfold wpX11_net_b233 wpX11_net_b233_body
    refine ⟨fun c => ?_, fun c => ?_⟩
    · refine s_X11_forgets (Vf (k := 50) rfl (Vf (k := 49) rfl (Vf (k := 45) rfl hV))) (fun u hu => ⟨5, ?_⟩)
      exact nt_296 hK2 5 u.1 u.2 0 hu.re (by omega) (fun k hk => by omega) (by omega)
    · have v1 : vp_in ((24 : Int32) + x2) 48 := vI (c := 48) rfl (by grind) (by grind)
      have v2 : vp_in x2 48 := vI (c := 48) rfl h0 (by grind)
      exact ⟨v1, v2, v1, v2, ih _ _ _ (Vg26 hV.g26 (Vg25 hV.g25 hV)) (by grind) (lt1 (mu_lt c) hm)⟩
theorem nt_174 (hK2 : ∀ v : Int32, ∀ u : mS, V w h u.1 u.2 u.1 u.2 → (∀ k, k < 4 → u.2 56 k = 0) → K v u) (n : Nat) : ∀ (f : Nat → Int32) (g : Nat → Nat → Int32) (x2 : Int32), V w h f0 g0 f g → 0 ≤ x2 → mu x2 < n → wpX11_net_b174 n f g x2 K := by
  induction n with
  | zero => intro f g x2 _ _ hm; exact absurd hm (Nat.not_lt_zero _)
  | succ n ih =>
    intro f g x2 hV h0 hm
    unfold wpX11_net_b174 wpX11_net_b174_body
    refine ⟨fun c => ⟨_, nt_233 hK2 _ _ _ _ hV (by decide) (Nat.lt_succ_self _)⟩, fun c => ?_⟩
    have v1 : vp_in ((64 : Int32) + x2) 128 := vI (c := 128) rfl (by grind) (by grind)
    have v2 : vp_in x2 128 := vI (c := 128) rfl h0 (by grind)
    refine ⟨v1, v2, v1, v2, v1, v2, ih _ _ _ (V_nk hV (fun k h7 h8 h9 => ?_) (NK_p hV.1.2.2.2 (hV.1.2.2.2 _))) (by grind) (lt1 (mu_lt c) hm)⟩
    rw [pt_ne h9, pt_ne h8, pt_ne h7]
theorem nt_85 (hK : ∀ v : Int32, ∀ u : mS, V w h f0 g0 u.1 u.2 → K v u) (hK2 : ∀ v : Int32, ∀ u : mS, V w h u.1 u.2 u.1 u.2 → (∀ k, k < 4 → u.2 56 k = 0) → K v u) (n : Nat) : ∀ (f : Nat → Int32) (g : Nat → Nat → Int32) (x2 : Int32), V w h f0 g0 f g → 0 ≤ x2 → mu x2 < n → wpX11_net_b85 n f g x2 K := by
  induction n with
  | zero => intro f g x2 _ _ hm; exact absurd hm (Nat.not_lt_zero _)
  | succ n ih =>
    intro f g x2 hV h0 hm
    have b23 := hV.b23
    unfold wpX11_net_b85 wpX11_net_b85_body
    refine ⟨fun c => ⟨_, nt_174 hK2 _ _ _ _ (Vf (k := 22) rfl (Vu20 hV.b21 hV)) (by decide) (Nat.lt_succ_self _)⟩, fun c => ?_⟩
    have v2 : vp_in x2 128 := vI (c := 128) rfl h0 (by grind)
    have nx : ∀ g : Nat → Nat → Int32, V w h f0 g0 f g → wpX11_net_b150 (fun f g x2 => wpX11_net_b85 n f g x2 K) f g x2 K := fun g hV => by
      unfold wpX11_net_b150
      exact ih _ _ _ hV (by grind) (lt1 (mu_lt c) hm)
    refine ⟨v2, fun c4 => ⟨v2, ?_⟩, fun _ => nx g hV⟩
    refine s_X11_relayRead hV (fun r hp => ⟨fun _ => ⟨v2, nx _ ?_⟩, fun _ => ⟨v2, ?_⟩⟩)
    · refine V_nk hV (fun k h7 h8 h9 => pt_ne h8) (fun j => ?_)
      have e8 : ∀ a, pt g 28 (ix x2) a 28 j = if j = ix x2 then a else g 28 j := fun a => by rw [pt_at, upd_r]
      have e7 : pt g 28 (ix x2) r 27 = g 27 := pt_ne (by decide)
      have e9 : pt g 28 (ix x2) r 29 = g 29 := pt_ne (by decide)
      dsimp only
      rw [e7, e9, e8]
      by_cases e : j = ix x2
      · subst e
        rw [c4]
        exact ⟨fun e => absurd e (by decide), fun e => absurd e (by decide)⟩
      · rw [if_neg e]; exact hV.1.2.2.2 j
    · exact s_X11_wrong (Vf (k := 10) rfl hV) (fun v f' hV' _ _ _ => hK _ _ hV')
theorem nt_66 (hK : ∀ v : Int32, ∀ u : mS, V w h f0 g0 u.1 u.2 → K v u) (hK2 : ∀ v : Int32, ∀ u : mS, V w h u.1 u.2 u.1 u.2 → (∀ k, k < 4 → u.2 56 k = 0) → K v u) (n : Nat) : ∀ (f : Nat → Int32) (g : Nat → Nat → Int32), V w h f0 g0 f g → f 23 ≤ f 36 → mt f < n → wpX11_net_b66 n f g K := by
  induction n with
  | zero => intro f g _ _ hm; exact absurd hm (Nat.not_lt_zero _)
  | succ n ih =>
    intro f g hV hQ hm
    unfold wpX11_net_b66 wpX11_net_b66_body
    refine ⟨fun _ => ⟨_, nt_85 hK hK2 _ _ _ _ hV (by decide) (Nat.lt_succ_self _)⟩, fun c => ?_⟩
    refine s_X11_netLine hV hQ (fun u h8 hu => ⟨fun _ => ?_, fun e => absurd e (by decide)⟩) (fun u hu => ⟨fun e => absurd rfl e, fun _ => hK _ _ hu⟩)
    have b7 := hu.1.b7
    have b6 := hu.1.b6
    exact ih _ _ hu.1 hu.2.2 (lt1 (mt_lt h8 hu.2.1 (Int32.le_trans b7.2 b6.2)) hm)
theorem nt_34 (hK : ∀ v : Int32, ∀ u : mS, V w h f0 g0 u.1 u.2 → K v u) (hK2 : ∀ v : Int32, ∀ u : mS, V w h u.1 u.2 u.1 u.2 → (∀ k, k < 4 → u.2 56 k = 0) → K v u) (n : Nat) : ∀ (f : Nat → Int32) (g : Nat → Nat → Int32) (x2 : Int32), V w h f0 g0 f g → f 23 ≤ f 36 → 0 ≤ x2 → mu x2 < n → wpX11_net_b34 n f g x2 K := by
  induction n with
  | zero => intro f g x2 _ _ _ hm; exact absurd hm (Nat.not_lt_zero _)
  | succ n ih =>
    intro f g x2 hV hQ h0 hm
    unfold wpX11_net_b34 wpX11_net_b34_body
    refine ⟨fun _ => ⟨_, nt_66 hK hK2 _ _ _ hV hQ (Nat.lt_succ_self _)⟩, fun c => ?_⟩
    have v1 : vp_in ((24 : Int32) + x2) 48 := vI (c := 48) rfl (by grind) (by grind)
    exact ⟨v1, v1, ih _ _ _ (Vg26 (by decide) (Vg25 (by decide) hV)) hQ (by grind) (lt1 (mu_lt c) hm)⟩
theorem s_X11_net {f : Nat → Int32} {g : Nat → Nat → Int32} {x1 : Int32} (hV : V w h f0 g0 f g) (hK : ∀ v : Int32, ∀ u : mS, V w h f0 g0 u.1 u.2 → K v u) (hK2 : ∀ v : Int32, ∀ u : mS, V w h u.1 u.2 u.1 u.2 → (∀ k, k < 4 → u.2 56 k = 0) → K v u) : wpX11_net f g x1 K := by
  unfold wpX11_net wpX11_net_b0
  refine s_X11_starts (Vf (k := 2) rfl hV) (Or.inr rfl) (fun r u hu _ => ⟨fun _ => ⟨_, nt_34 hK hK2 _ _ _ _ (Vu36 (by decide) (Vu23 (by decide) (Vu21 (by decide) hu))) ?_ (by decide) (Nat.lt_succ_self _)⟩, fun _ => hK _ _ hu⟩)
  simp [upd_r]
end NT
set_option maxHeartbeats 1000000 in
theorem s_X11_isSquare {w h : Nat} {f0 : Nat → Int32} {g0 : Nat → Nat → Int32} {f : Nat → Int32} {g : Nat → Nat → Int32} {x1 : Int32} {K : Int32 → ((Nat → Int32) × (Nat → Nat → Int32)) → Prop} (hV : V w h f0 g0 f g) (hK : ∀ v : Int32, isB v → (v = 0 ∨ (0 ≤ x1 ∧ x1 < nI (w * h))) → K v (f, g)) : wpX11_isSquare f g x1 K := by
  have b41_i := hV.b41
  have b42_i := hV.b42
  have n_i := hV.n
  unfold wpX11_isSquare
  unfold wpX11_isSquare_b0
  refine ⟨fun c0 => ?_, fun c0 => ?_⟩
  · unfold wpX11_isSquare_b16
    unfold wpX11_isSquare_b17
    refine ⟨(by first | exact Or.inl rfl | exact Or.inr rfl | assumption), ?_⟩
    exact hK _ (by first | exact Or.inl rfl | exact Or.inr rfl | assumption) (by first | assumption | grind | (simp [pt_r, upd_r] <;> grind))
  · refine s_X11_squares (hV).gx (fun r6 hp6 => ?_)
    try dsimp only
    refine ⟨fun c1 => ?_, fun c1 => ?_⟩
    · unfold wpX11_isSquare_b16
      unfold wpX11_isSquare_b17
      refine ⟨(by first | exact Or.inl rfl | exact Or.inr rfl | assumption), ?_⟩
      exact hK _ (by first | exact Or.inl rfl | exact Or.inr rfl | assumption) (by first | assumption | grind | (simp [pt_r, upd_r] <;> grind))
    · unfold wpX11_isSquare_b17
      refine ⟨(by first | exact Or.inl rfl | exact Or.inr rfl | assumption), ?_⟩
      exact hK _ (by first | exact Or.inl rfl | exact Or.inr rfl | assumption) (by first | assumption | grind | (simp [pt_r, upd_r] <;> grind))
/-- the walls around a floor w wide of n squares, at x -/
def pv (w n x : Int32) : Int32 := (((if w ≤ x then 0 else 1) ||| (if jrem x w = w - 1 then 2 else 0)) ||| (if x < n - w then 0 else 4)) ||| (if jrem x w = 0 then 8 else 0)
def pz (w n : Int32) (g : Nat → Nat → Int32) (i : Nat) : Nat → Nat → Int32 := fun k s => if k = 46 ∧ s < i then pv w n (nI s) else g k s
theorem pz_0 {w n : Int32} {g : Nat → Nat → Int32} : pz w n g 0 = g := by funext k s; simp [pz]
theorem pz_s {w n : Int32} {g : Nat → Nat → Int32} {i : Nat} : pt (pz w n g i) 46 i (pv w n (nI i)) = pz w n g (i + 1) := by
  funext k s
  rw [pt_r]
  unfold pz
  by_cases hk : k = 46
  · by_cases hs : s = i
    · simp [hk, hs]
    · by_cases h2 : s < i
      · simp [hk, hs, h2, Nat.lt_succ_of_lt h2]
      · have h3 : ¬ s < i + 1 := by omega
        simp [hk, hs, h2, h3]
  · simp [hk]
theorem m_plain {f : Nat → Int32} {g : Nat → Nat → Int32} {K : mS → Prop} {n : Nat} (hn : f 38 * f 39 = nI n) (h36 : n ≤ 36) (hw : ¬ f 38 = 0) (hk : K (f, pz (f 38) (nI n) g n)) : wpX11_plainWalls f g K := by
  unfold wpX11_plainWalls wpX11_plainWalls_b0
  refine lpz (w := fun n a x => wpX11_plainWalls_b2 n f a x K) (pz (f 38) (nI n) g) n pz_0 (fun m => ?_) (fun m i hi ih => ?_)
  · unfold wpX11_plainWalls_b2 wpX11_plainWalls_b2_body wpX11_squares wpX11_squares_b0
    rw [hn]
    exact ⟨fun _ => hk, fun h => absurd (nI_le (Nat.le_refl n) (by omega)) h⟩
  · have leaf : ∀ a b c d : Int32, (if f 38 ≤ nI i then (0 : Int32) else 1) = a → (if jrem (nI i) (f 38) = f 38 - 1 then (2 : Int32) else 0) = b → (if nI i < nI n - f 38 then (0 : Int32) else 4) = c → (if jrem (nI i) (f 38) = 0 then (8 : Int32) else 0) = d →
        wpX11_plainWalls_b83 (fun f g x1 => wpX11_plainWalls_b2 m f g x1 K) f (pz (f 38) (nI n) g i) (nI i) ((a ||| b) ||| c) d (nI i) K := by
      intro a b c d ha hb hc hd
      unfold wpX11_plainWalls_b83
      refine ⟨vin (by omega) (by decide), ?_⟩
      show wpX11_plainWalls_b2 m f (pt (pz (f 38) (nI n) g i) 46 (ix (nI i)) (((a ||| b) ||| c) ||| d)) (nI i + 1) K
      have e : (((a ||| b) ||| c) ||| d) = pv (f 38) (nI n) (nI i) := by
        unfold pv
        rw [ha, hb, hc, hd]
      rw [e, ix_nI (by omega), pz_s, nI_1]
      exact ih
    have l67 : ∀ a b c : Int32, (if f 38 ≤ nI i then (0 : Int32) else 1) = a → (if jrem (nI i) (f 38) = f 38 - 1 then (2 : Int32) else 0) = b → (if nI i < nI n - f 38 then (0 : Int32) else 4) = c →
        wpX11_plainWalls_b67 (fun f g x1 => wpX11_plainWalls_b2 m f g x1 K) f (pz (f 38) (nI n) g i) (nI i) (a ||| b) c (nI i) K := by
      intro a b c ha hb hc
      unfold wpX11_plainWalls_b67
      exact ⟨hw, fun h => leaf a b c 0 ha hb hc (if_neg h), fun h => leaf a b c 8 ha hb hc (if_pos h)⟩
    have l48 : ∀ a b : Int32, (if f 38 ≤ nI i then (0 : Int32) else 1) = a → (if jrem (nI i) (f 38) = f 38 - 1 then (2 : Int32) else 0) = b →
        wpX11_plainWalls_b48 (fun f g x1 => wpX11_plainWalls_b2 m f g x1 K) f (pz (f 38) (nI n) g i) (nI i) a b (nI i) K := by
      intro a b ha hb
      unfold wpX11_plainWalls_b48 wpX11_squares wpX11_squares_b0
      rw [hn]
      exact ⟨fun h => l67 a b 0 ha hb (if_pos h), fun h => l67 a b 4 ha hb (if_neg h)⟩
    have l28 : ∀ a : Int32, (if f 38 ≤ nI i then (0 : Int32) else 1) = a →
        wpX11_plainWalls_b28 (fun f g x1 => wpX11_plainWalls_b2 m f g x1 K) f (pz (f 38) (nI n) g i) (nI i) a (nI i) K := by
      intro a ha
      unfold wpX11_plainWalls_b28
      exact ⟨hw, fun h => l48 a 0 ha (if_neg h), fun h => l48 a 2 ha (if_pos h)⟩
    unfold wpX11_plainWalls_b2 wpX11_plainWalls_b2_body wpX11_squares wpX11_squares_b0
    rw [hn]
    exact ⟨fun h => absurd h (nI_ge hi (by omega)), fun _ => ⟨fun h => l28 0 (if_pos h), fun h => l28 1 (if_neg h)⟩⟩
theorem pv_c : ∀ w, w < 7 → ∀ h, h < 7 → ∀ s, s < 36 → ∀ d, d < 4 → (!(decide (2 ≤ w) && decide (2 ≤ h) && decide (s < w * h) && arB w h s d) || bt (pv (nI w) (nI (w * h)) (nI s)) d) = true := by decide +kernel
theorem pv_b {w h s d : Nat} (e : (2 ≤ w ∧ w ≤ 6) ∧ 2 ≤ h ∧ h ≤ 6) (hs : s < w * h) (hd : d < 4) (ha : arB w h s d = true) : bt (pv (nI w) (nI (w * h)) (nI s)) d = true := by
  have h36 := (wh36 e).2
  have k := pv_c w (by omega) h (by omega) s (by omega) d hd
  simp only [e.1.1, e.2.1, hs, ha, decide_true, Bool.and_self, Bool.not_true, Bool.false_or] at k
  exact k
theorem m_plainW {w h : Nat} {f : Nat → Int32} {g : Nat → Nat → Int32} {K : mS → Prop} (e : GE w h f) (hK : ∀ g' : Nat → Nat → Int32, (∀ j, j ≠ 46 → g' j = g j) → RM w h (g' 46) → K (f, g')) : wpX11_plainWalls f g K := by
  have h36 := (wh36 e.2).2
  refine m_plain e.sq h36 (by rw [e.1.1]; exact nI_ne0 (by have := e.2; omega) (by have := e.2; omega)) (hK _ (fun j hj => ?_) (fun s hs => ?_))
  · funext s; unfold pz; rw [if_neg (fun q => hj q.1)]
  · have ev : pz (f 38) (nI (w * h)) g (w * h) 46 s = pv (nI w) (nI (w * h)) (nI s) := by unfold pz; rw [if_pos ⟨rfl, hs⟩, e.1.1]
    rw [ev]
    refine ⟨fun q => pv_b e.2 hs (by decide) ?_, fun q => pv_b e.2 hs (by decide) ?_, fun q => pv_b e.2 hs (by decide) ?_, fun q => pv_b e.2 hs (by decide) ?_⟩
    · simp [arB, q]
    · simp [arB, q]
    · simp [arB, q]
    · simp [arB, q]
/-- arrays that are bound -/
def cj (j : Nat) : Bool := [3, 13, 14, 25, 26, 32, 47, 27, 28, 29].contains j
def cf (j : Nat) : Bool := [1, 6, 7, 12, 20, 21, 23, 36].contains j
theorem gb_o {k i : Nat} {v : Int32} (hk : cj k = false) : gb k i v := by
  have h : ∀ j, cj j = true → k ≠ j := fun j hj e => by rw [e, hj] at hk; cases hk
  exact ⟨fun e => absurd e (h 3 rfl), fun e => e.elim (fun e => absurd e (h 13 rfl)) (fun e => absurd e (h 14 rfl)), fun e => e.elim (fun e => absurd e (h 25 rfl)) (fun e => absurd e (h 26 rfl)), fun e => absurd e (h 32 rfl), fun e => absurd e (h 47 rfl)⟩
theorem M0.g {f : Nat → Int32} {g g' : Nat → Nat → Int32} (h : M0 f g) (hg : ∀ j, j ≠ 47 → cj j = true → g' j = g j) (h47 : ∀ i, 0 ≤ g' 47 i ∧ g' 47 i ≤ 3) : M0 f g' := by
  refine ⟨h.1, fun k i => ?_, h.2.2.1, ?_⟩
  · by_cases e : k = 47
    · subst e; exact ⟨fun e => absurd e (by decide), fun e => absurd e (by decide), fun e => absurd e (by decide), fun e => absurd e (by decide), fun _ => h47 i⟩
    · cases hc : cj k with
      | false => exact gb_o hc
      | true => rw [hg k e hc]; exact h.2.1 k i
  · unfold NK
    rw [hg 27 (by decide) rfl, hg 28 (by decide) rfl, hg 29 (by decide) rfl]
    exact h.2.2.2
theorem M0.g47 {f : Nat → Int32} {g : Nat → Nat → Int32} (h : M0 f g) {i : Nat} : 0 ≤ g 47 i ∧ g 47 i ≤ 3 := (h.2.1 47 i).2.2.2.2 rfl
theorem M0.b42 {f : Nat → Int32} {g : Nat → Nat → Int32} (h : M0 f g) : 0 ≤ f 42 ∧ f 42 ≤ 3 := (h.1 42).2.2.2.2.2.2.2.2 rfl
theorem M0.f {f f' : Nat → Int32} {g : Nat → Nat → Int32} (h : M0 f g) (hf : ∀ j, cf j = true → f' j = f j) (h42 : 0 ≤ f' 42 ∧ f' 42 ≤ 3) : M0 f' g := by
  refine ⟨fun k => ?_, h.2.1, by rw [hf 6 rfl, hf 7 rfl]; exact h.2.2.1, h.2.2.2⟩
  cases hc : cf k with
  | true => rw [hf k hc]; exact h.1 k
  | false =>
    have q : ∀ j, cf j = true → k ≠ j := fun j hj e => by rw [e, hj] at hc; cases hc
    by_cases e : k = 42
    · subst e; exact ⟨fun e => absurd e (by decide), fun e => absurd e (by decide), fun e => absurd e (by decide), fun e => absurd e (by decide), fun e => absurd e (by decide), fun e => absurd e (by decide), fun e => absurd e (by decide), fun e => absurd e (by decide), fun _ => h42⟩
    · exact ⟨fun e => absurd e (q 1 rfl), fun e => absurd e (q 6 rfl), fun e => absurd e (q 7 rfl), fun e => absurd e (q 12 rfl), fun e => absurd e (q 20 rfl), fun e => absurd e (q 21 rfl), fun e => absurd e (q 23 rfl), fun e => absurd e (q 36 rfl), fun e' => absurd e' e⟩
theorem mkV {w h : Nat} {f : Nat → Int32} {g : Nat → Nat → Int32} (hm : M0 f g) (hg : GR w h f g) (hs : 0 ≤ f 41 ∧ f 41 < nI (w * h)) : V w h f g f g := ⟨hm, ⟨⟨rfl, rfl, rfl⟩, rfl, rfl, rfl⟩, hg, hs⟩
theorem V.gr {w h : Nat} {f0 f : Nat → Int32} {g0 g : Nat → Nat → Int32} (hV : V w h f0 g0 f g) : GR w h f g := ⟨hV.ge, hV.rm, hV.b40⟩
section BG
variable {w h : Nat} {K : mS → Prop}
theorem bg_95 (hK : ∀ u : mS, V w h u.1 u.2 u.1 u.2 → (∀ k, k < 4 → u.2 56 k = 0) → K u) (m : Nat) : ∀ (f : Nat → Int32) (g : Nat → Nat → Int32) (i : Nat), V w h f g f g → i ≤ 4 → (∀ k, k < i → g 56 k = 0) → 4 - i < m → wpX11_begins_b95 m f g (nI i) K := by
  induction m with
  | zero => intro f g i _ _ _ hm; exact absurd hm (Nat.not_lt_zero _)
  | succ m ih =>
    intro f g i hV hi hz hm
    unfold wpX11_begins_b95 wpX11_begins_b95_body
    refine ⟨fun c => ?_, fun c => ?_⟩
    · have h4 : i = 4 := by
        rcases Nat.lt_or_ge i 4 with q | q
        · exact absurd c (nI_ge (b := 4) q (by omega))
        · omega
      subst h4
      exact hK _ hV hz
    · have h4 : i < 4 := by
        rcases Nat.lt_or_ge i 4 with q | q
        · exact q
        · exact absurd (nI_le (a := 4) q (by omega)) c
      refine ⟨vin h4 (by decide), ?_⟩
      rw [ix_nI (by omega), nI_1, nz0]
      refine ih _ _ (i + 1) (V_56 hV) (by omega) (fun k hk => ?_) (by omega)
      rw [pt_at, upd_r]
      by_cases e : k = i
      · rw [if_pos e]
      · rw [if_neg e]; exact hz k (by omega)
theorem bg_58 (hK : ∀ u : mS, V w h u.1 u.2 u.1 u.2 → (∀ k, k < 4 → u.2 56 k = 0) → K u) (n : Nat) : ∀ (f : Nat → Int32) (g : Nat → Nat → Int32) (x3 : Int32), V w h f g f g → 0 ≤ x3 → mu x3 < n → wpX11_begins_b58 n f g x3 K := by
  induction n with
  | zero => intro f g x3 _ _ hm; exact absurd hm (Nat.not_lt_zero _)
  | succ n ih =>
    intro f g x3 hV h0 hm
    unfold wpX11_begins_b58 wpX11_begins_b58_body
    refine ⟨fun _ => ?_, fun c => ?_⟩
    · refine s_X11_forgets (Vf (k := 51) rfl hV) (fun u hu => ⟨5, ?_⟩)
      exact bg_95 hK 5 u.1 u.2 0 hu.re (by omega) (fun k hk => by omega) (by omega)
    · have v : vp_in x3 36 := vI (c := 36) rfl h0 (by grind)
      exact ⟨v, v, ih _ _ _ (Vg (k := 48) rfl (Vg47 (by decide) hV)).re (by grind) (lt1 (mu_lt c) hm)⟩
theorem m_begins {f : Nat → Int32} {g : Nat → Nat → Int32} (hm : M0 f g) (e : (2 ≤ w ∧ w ≤ 6) ∧ 2 ≤ h ∧ h ≤ 6) (hK : ∀ u : mS, V w h u.1 u.2 u.1 u.2 → (∀ k, k < 4 → u.2 56 k = 0) → K u) : wpX11_begins f g (nI w) (nI h) K := by
  have h36 := wh36 e
  unfold wpX11_begins wpX11_begins_b0
  have eb : nI w * nI h - 1 = nI (w * h - 1) := by rw [pk_mul, show (1 : Int32) = nI 1 from rfl, pk_sub (by omega)]
  rw [eb]
  have ge : GE w h (upd (upd (upd (upd (upd (upd (upd (upd f 38 (nI w)) 39 (nI h)) 40 (nI (w * h - 1))) 41 0) 42 0) 43 0) 44 0) 45 (f 49 &&& f 50)) := ⟨⟨by simp [upd_r], by simp [upd_r]⟩, e⟩
  refine m_plainW ge (fun g' hg hr => ⟨_, bg_58 hK _ _ _ _ ?_ (by decide) (Nat.lt_succ_self _)⟩)
  refine mkV ((hm.g (g' := g') (fun j _ hj => hg j (fun e => by subst e; cases hj)) (fun i => by rw [hg 47 (by decide)]; exact hm.g47)).f (fun j hj => ?_) (by simp [upd_r])) ⟨ge, hr, ?_, ?_⟩ ⟨?_, ?_⟩
  · have q : ∀ k, cf k = false → j ≠ k := fun k hk e => by rw [e, hk] at hj; cases hj
    simp [upd_r, q 38 rfl, q 39 rfl, q 40 rfl, q 41 rfl, q 42 rfl, q 43 rfl, q 44 rfl, q 45 rfl]
  · simp only [upd_r]; exact nI_pos' (by omega)
  · simp only [upd_r]; exact nI_lt (by omega) (by omega)
  · simp [upd_r]
  · simp only [upd_r]; exact nI_lt (a := 0) (by omega) (by omega)
end BG
