set_option maxHeartbeats 1000000 in
theorem l_X11_relayRead_b2 {w h : Nat} {f0 : Nat → Int32} {g0 : Nat → Nat → Int32} {f : Nat → Int32} {g : Nat → Nat → Int32} {K : Int32 → ((Nat → Int32) × (Nat → Nat → Int32)) → Prop} (hV : V w h f0 g0 f g) (hK : ∀ v : Int32, (v = -1 ∨ (0 ≤ v ∧ v < 20)) → K v (f, g)) (n : Nat) : ∀ (x1 : Int32) (x2 : Int32), 0 ≤ x2 → mu (x2) < n → wpX11_relayRead_b2 n f g x1 x2 K := by
  induction n with
  | zero => intro x1 x2 hi0 hm; exact absurd hm (Nat.not_lt_zero _)
  | succ n ih =>
    intro x1 x2 hi0 hm
    have b21_i := hV.b21
    unfold wpX11_relayRead_b2 wpX11_relayRead_b2_body
    refine ⟨fun c0 => ?_, fun c0 => ?_⟩
    · exact hK _ (by first | assumption | grind | (simp [pt_r, upd_r] <;> grind))
    · refine ⟨vI (c := 40) rfl (by first | assumption | grind | (simp [pt_r, upd_r] <;> grind)) (by first | assumption | grind | (simp [pt_r, upd_r] <;> grind)), ?_⟩
      refine ⟨fun c1 => ?_, fun c1 => ?_⟩
      · exact ih _ _ (by first | assumption | grind | (simp [pt_r, upd_r] <;> grind)) (lt1 (mu_lt c0) hm)
      · exact hK _ (by first | assumption | grind | (simp [pt_r, upd_r] <;> grind))
set_option maxHeartbeats 1000000 in
theorem s_X11_relayRead {w h : Nat} {f0 : Nat → Int32} {g0 : Nat → Nat → Int32} {f : Nat → Int32} {g : Nat → Nat → Int32} {x1 : Int32} {K : Int32 → ((Nat → Int32) × (Nat → Nat → Int32)) → Prop} (hV : V w h f0 g0 f g) (hK : ∀ v : Int32, (v = -1 ∨ (0 ≤ v ∧ v < 20)) → K v (f, g)) : wpX11_relayRead f g x1 K := by
  have b21_i := hV.b21
  unfold wpX11_relayRead
  unfold wpX11_relayRead_b0
  exact ⟨_, l_X11_relayRead_b2 hV hK _ _ _ (by first | assumption | grind | (simp [pt_r, upd_r] <;> grind)) (Nat.lt_succ_self _)⟩
section NL
variable {w h : Nat} {f0 : Nat → Int32} {g0 : Nat → Nat → Int32} {K : Int32 → mS → Prop}
theorem nl_195 {a f : Nat → Int32} {g : Nat → Nat → Int32} {x1 : Int32} (hV : V w h f0 g0 f g) (hx : 0 ≤ x1 ∧ x1 < 24) (hQ : f 23 ≤ f 36) (ha : a 7 ≤ f 7) (hK1 : ∀ u : mS, QS w h f0 g0 a u → K 1 u) (hK0 : ∀ u : mS, V w h f0 g0 u.1 u.2 → K 0 u) : wpX11_netLine_b195 f g x1 K := by
  have z : ∀ u : mS, V w h f0 g0 u.1 u.2 → wpX11_netLine_b220 u.1 u.2 K := fun u hu => by
    unfold wpX11_netLine_b220 wpX11_netLine_b221
    exact ⟨Or.inl rfl, hK0 _ hu⟩
  unfold wpX11_netLine_b195
  refine s_X11_take hV (fun f1 hV1 hT1 => ?_)
  refine s_X11_signRead hV1 (fun f2 hV2 hT2 => ⟨fun e => absurd e (by decide), fun _ => ?_⟩) (fun u hu => ⟨fun _ => z u hu, fun e => absurd rfl e⟩)
  refine s_X11_partRead hV2 hx ?_ (fun u hu => ⟨fun e => absurd e (by decide), fun _ => ?_⟩) (fun u hu => ⟨fun _ => z u hu, fun e => absurd rfl e⟩)
  · dsimp only
    rw [hT2.1 23 (by decide) (by decide) (by decide) (by decide), hT2.1 36 (by decide) (by decide) (by decide) (by decide)]
    dsimp only
    rw [hT1.1 23 (by decide) (by decide) (by decide) (by decide), hT1.1 36 (by decide) (by decide) (by decide) (by decide)]
    exact hQ
  · unfold wpX11_netLine_b221
    refine ⟨Or.inr rfl, hK1 _ ⟨hu.1, ⟨?_, ?_⟩, hu.2.2⟩⟩
    · have h1 := hT1.2.1
      have h2 := hT2.2.1
      have h3 := hu.2.1.1
      dsimp only at h2 h3
      grind
    · have h1 := hT1.2.1
      have h2 := hT2.2.1
      have h3 := hu.2.1.2
      dsimp only at h2 h3
      grind
theorem s_X11_netLine {f : Nat → Int32} {g : Nat → Nat → Int32} (hV : V w h f0 g0 f g) (hQ : f 23 ≤ f 36) (hK1 : ∀ u : mS, ¬ f 8 = 0 → QS w h f0 g0 f u → K 1 u) (hK0 : ∀ u : mS, V w h f0 g0 u.1 u.2 → K 0 u) : wpX11_netLine f g K := by
  have k8 : ∀ {r x : Int32}, (r = 0 ∨ (f 8 = 1 ∧ f 9 = x)) → ¬ r = 0 → ¬ f 8 = 0 := fun hp hr => by rw [(hp.resolve_left hr).1]; decide
  have wr : ∀ (f : Nat → Int32) (k : Int32), V w h f0 g0 f g → wpX11_wrong f g k (fun r u => isB r ∧ K r (u.1, u.2)) := fun f k hV => s_X11_wrong hV (fun v f' hV' hb hv _ => ⟨hb, by rw [hv]; exact hK0 _ hV'⟩)
  have s170 : ¬ f 8 = 0 → ∀ k : Int32, 0 ≤ k ∧ k < 24 → wpX11_netLine_b170 f g k K := fun h8 k hk => by
    unfold wpX11_netLine_b170
    exact ⟨vI (c := 48) rfl (by grind) (by grind), fun _ => nl_195 hV hk hQ (Int32.le_refl _) (fun u hu => hK1 u h8 hu) hK0, fun _ => wr f _ hV⟩
  have s126 : ¬ f 8 = 0 → wpX11_netLine_b126 f g K := fun h8 => by
    unfold wpX11_netLine_b126
    exact ⟨fun _ => ⟨fun _ => ⟨fun _ => s170 h8 _ (by decide), fun _ => s170 h8 _ (by decide)⟩, fun _ => s170 h8 _ (by decide)⟩, fun _ => s170 h8 _ (by decide)⟩
  unfold wpX11_netLine wpX11_netLine_b0
  refine s_X11_isKey hV (fun r3 _ hp3 => ⟨fun _ => ?_, fun d => ?_⟩)
  · refine s_X11_isKey hV (fun r1 _ hp1 => ⟨fun d => s126 (k8 hp1 d), fun _ => ?_⟩)
    refine s_X11_isKey hV (fun r2 _ hp2 => ⟨fun d => s126 (k8 hp2 d), fun _ => ?_⟩)
    refine s_X11_isKey hV (fun r4 _ hp4 => ⟨fun d => s126 (k8 hp4 d), fun _ => ?_⟩)
    exact s_X11_isKey hV (fun r5 _ hp5 => ⟨fun _ => wr f _ hV, fun d => s126 (k8 hp5 d)⟩)
  · have h8 := k8 hp3 d
    have b21 := hV.b21
    refine ⟨fun c20 => ?_, fun _ => wr f _ hV⟩
    dsimp only at c20 ⊢
    refine s_X11_take hV (fun f1 hV1 hT1 => ?_)
    dsimp only
    have e21 : f1 21 = f 21 := hT1.1 21 (by decide) (by decide) (by decide) (by decide)
    refine ⟨fun _ => ?_, fun _ => wr f1 _ hV1⟩
    refine s_X11_relayRead hV1 (fun r47 hp47 => ⟨fun _ => ?_, fun _ => wr f1 _ hV1⟩)
    dsimp only
    have hlt : f1 21 < 20 := by rw [e21]; grind
    have h0 : 0 ≤ f1 21 := by rw [e21]; exact b21.1
    refine ⟨vI (c := 40) rfl (by grind) (by grind), ?_⟩
    refine nl_195 (a := f) (Vu21 (by grind) (Vg (k := 24) rfl hV1)) (by grind) ?_ ?_ (fun u hu => hK1 u h8 hu) hK0
    · rw [upd_r, if_neg (by decide), upd_r, if_neg (by decide), hT1.1 23 (by decide) (by decide) (by decide) (by decide), hT1.1 36 (by decide) (by decide) (by decide) (by decide)]; exact hQ
    · rw [upd_r, if_neg (by decide)]; exact hT1.2.1
end NL
set_option maxHeartbeats 1000000 in
theorem s_X11_forgets {w h : Nat} {f0 : Nat → Int32} {g0 : Nat → Nat → Int32} {f : Nat → Int32} {g : Nat → Nat → Int32} {K : ((Nat → Int32) × (Nat → Nat → Int32)) → Prop} (hV : V w h f0 g0 f g) (hK : ∀ u : mS, V w h f0 g0 u.1 u.2 → K u) : wpX11_forgets f g K := by
  unfold wpX11_forgets
  unfold wpX11_forgets_b0
  exact hK _ (Vf (k := 66) rfl hV)
section NT
variable {w h : Nat} {f0 : Nat → Int32} {g0 : Nat → Nat → Int32} {K : Int32 → mS → Prop}
theorem V.re {f : Nat → Int32} {g : Nat → Nat → Int32} (hV : V w h f0 g0 f g) : V w h f g f g := ⟨hV.1, ⟨⟨rfl, rfl, rfl⟩, rfl, rfl, rfl⟩, ⟨hV.ge, hV.rm, hV.b40⟩, hV.b41⟩
theorem V_56 {f : Nat → Int32} {g : Nat → Nat → Int32} {i : Nat} {v : Int32} (hV : V w h f g f g) : V w h f (pt g 56 i v) f (pt g 56 i v) := by
  refine ⟨⟨hV.1.1, fun q j => ?_, hV.1.2.2.1, ?_⟩, ⟨⟨rfl, rfl, rfl⟩, rfl, rfl, rfl⟩, ⟨hV.ge, by rw [pt_ne (by decide)]; exact hV.rm, hV.b40⟩, hV.b41⟩
  · by_cases e : q = 56
    · subst e; exact ⟨fun e => absurd e (by decide), fun e => absurd e (by decide), fun e => absurd e (by decide), fun e => absurd e (by decide), fun e => absurd e (by decide)⟩
    · rw [pt_ne e]; exact hV.1.2.1 q j
  · unfold NK
    rw [pt_ne (by decide), pt_ne (by decide), pt_ne (by decide)]
    exact hV.1.2.2.2
theorem nt_296 (hK2 : ∀ v : Int32, ∀ u : mS, V w h u.1 u.2 u.1 u.2 → (∀ k, k < 4 → u.2 56 k = 0) → K v u) (m : Nat) : ∀ (f : Nat → Int32) (g : Nat → Nat → Int32) (i : Nat), V w h f g f g → i ≤ 4 → (∀ k, k < i → g 56 k = 0) → 4 - i < m → wpX11_net_b296 m f g (nI i) K := by
  induction m with
  | zero => intro f g i _ _ _ hm; exact absurd hm (Nat.not_lt_zero _)
  | succ m ih =>
    intro f g i hV hi hz hm
    unfold wpX11_net_b296 wpX11_net_b296_body
    refine ⟨fun c => ?_, fun c => ?_⟩
    · have h4 : i = 4 := by
        rcases Nat.lt_or_ge i 4 with q | q
        · exact absurd c (nI_ge (b := 4) q (by omega))
        · omega
      subst h4
      exact hK2 _ _ hV hz
    · have h4 : i < 4 := by
        rcases Nat.lt_or_ge i 4 with q | q
        · exact q
        · exact absurd (nI_le (a := 4) q (by omega)) c
      refine ⟨vin h4 (by decide), ?_⟩
      rw [ix_nI (by omega), nI_1, nz0]
      refine ih _ _ (i + 1) (V_56 hV) (by omega) (fun k hk => ?_) (by omega)
      rw [pt_at, upd_r]
      by_cases e : k = i
      · rw [if_pos e]
      · rw [if_neg e]; exact hz k (by omega)
theorem nt_233 (hK2 : ∀ v : Int32, ∀ u : mS, V w h u.1 u.2 u.1 u.2 → (∀ k, k < 4 → u.2 56 k = 0) → K v u) (n : Nat) : ∀ (f : Nat → Int32) (g : Nat → Nat → Int32) (x2 : Int32), V w h f0 g0 f g → 0 ≤ x2 → mu x2 < n → wpX11_net_b233 n f g x2 K := by
  induction n with
  | zero => intro f g x2 _ _ hm; exact absurd hm (Nat.not_lt_zero _)
  | succ n ih =>
    intro f g x2 hV h0 hm
    unfold wpX11_net_b233 wpX11_net_b233_body
    refine ⟨fun c => ?_, fun c => ?_⟩
    · refine s_X11_forgets (Vf (k := 50) rfl (Vf (k := 49) rfl (Vf (k := 45) rfl hV))) (fun u hu => ⟨5, ?_⟩)
      exact nt_296 hK2 5 u.1 u.2 0 hu.re (by omega) (fun k hk => by omega) (by omega)
    · have v1 : vp_in ((24 : Int32) + x2) 48 := vI (c := 48) rfl (by grind) (by grind)
      have v2 : vp_in x2 48 := vI (c := 48) rfl h0 (by grind)
      exact ⟨v1, v2, v1, v2, ih _ _ _ (Vg26 hV.g26 (Vg25 hV.g25 hV)) (by grind) (lt1 (mu_lt c) hm)⟩
theorem nt_174 (hK2 : ∀ v : Int32, ∀ u : mS, V w h u.1 u.2 u.1 u.2 → (∀ k, k < 4 → u.2 56 k = 0) → K v u) (n : Nat) : ∀ (f : Nat → Int32) (g : Nat → Nat → Int32) (x2 : Int32), V w h f0 g0 f g → 0 ≤ x2 → mu x2 < n → wpX11_net_b174 n f g x2 K := by
  induction n with
  | zero => intro f g x2 _ _ hm; exact absurd hm (Nat.not_lt_zero _)
  | succ n ih =>
    intro f g x2 hV h0 hm
    unfold wpX11_net_b174 wpX11_net_b174_body
    refine ⟨fun c => ⟨_, nt_233 hK2 _ _ _ _ hV (by decide) (Nat.lt_succ_self _)⟩, fun c => ?_⟩
    have v1 : vp_in ((64 : Int32) + x2) 128 := vI (c := 128) rfl (by grind) (by grind)
    have v2 : vp_in x2 128 := vI (c := 128) rfl h0 (by grind)
    refine ⟨v1, v2, v1, v2, v1, v2, ih _ _ _ (V_nk hV (fun k h7 h8 h9 => ?_) (NK_p hV.1.2.2.2 (hV.1.2.2.2 _))) (by grind) (lt1 (mu_lt c) hm)⟩
    rw [pt_ne h9, pt_ne h8, pt_ne h7]
theorem nt_85 (hK : ∀ v : Int32, ∀ u : mS, V w h f0 g0 u.1 u.2 → K v u) (hK2 : ∀ v : Int32, ∀ u : mS, V w h u.1 u.2 u.1 u.2 → (∀ k, k < 4 → u.2 56 k = 0) → K v u) (n : Nat) : ∀ (f : Nat → Int32) (g : Nat → Nat → Int32) (x2 : Int32), V w h f0 g0 f g → 0 ≤ x2 → mu x2 < n → wpX11_net_b85 n f g x2 K := by
  induction n with
  | zero => intro f g x2 _ _ hm; exact absurd hm (Nat.not_lt_zero _)
  | succ n ih =>
    intro f g x2 hV h0 hm
    have b23 := hV.b23
    unfold wpX11_net_b85 wpX11_net_b85_body
    refine ⟨fun c => ⟨_, nt_174 hK2 _ _ _ _ (Vf (k := 22) rfl (Vu20 hV.b21 hV)) (by decide) (Nat.lt_succ_self _)⟩, fun c => ?_⟩
    have v2 : vp_in x2 128 := vI (c := 128) rfl h0 (by grind)
    have nx : ∀ g : Nat → Nat → Int32, V w h f0 g0 f g → wpX11_net_b150 (fun f g x2 => wpX11_net_b85 n f g x2 K) f g x2 K := fun g hV => by
      unfold wpX11_net_b150
      exact ih _ _ _ hV (by grind) (lt1 (mu_lt c) hm)
    refine ⟨v2, fun c4 => ⟨v2, ?_⟩, fun _ => nx g hV⟩
    refine s_X11_relayRead hV (fun r hp => ⟨fun _ => ⟨v2, nx _ ?_⟩, fun _ => ⟨v2, ?_⟩⟩)
    · refine V_nk hV (fun k h7 h8 h9 => pt_ne h8) (fun j => ?_)
      have e8 : ∀ a, pt g 28 (ix x2) a 28 j = if j = ix x2 then a else g 28 j := fun a => by rw [pt_at, upd_r]
      have e7 : pt g 28 (ix x2) r 27 = g 27 := pt_ne (by decide)
      have e9 : pt g 28 (ix x2) r 29 = g 29 := pt_ne (by decide)
      dsimp only
      rw [e7, e9, e8]
      by_cases e : j = ix x2
      · subst e
        rw [c4]
        exact ⟨fun e => absurd e (by decide), fun e => absurd e (by decide)⟩
      · rw [if_neg e]; exact hV.1.2.2.2 j
    · exact s_X11_wrong (Vf (k := 10) rfl hV) (fun v f' hV' _ _ _ => hK _ _ hV')
theorem nt_66 (hK : ∀ v : Int32, ∀ u : mS, V w h f0 g0 u.1 u.2 → K v u) (hK2 : ∀ v : Int32, ∀ u : mS, V w h u.1 u.2 u.1 u.2 → (∀ k, k < 4 → u.2 56 k = 0) → K v u) (n : Nat) : ∀ (f : Nat → Int32) (g : Nat → Nat → Int32), V w h f0 g0 f g → f 23 ≤ f 36 → mt f < n → wpX11_net_b66 n f g K := by
  induction n with
  | zero => intro f g _ _ hm; exact absurd hm (Nat.not_lt_zero _)
  | succ n ih =>
    intro f g hV hQ hm
    unfold wpX11_net_b66 wpX11_net_b66_body
    refine ⟨fun _ => ⟨_, nt_85 hK hK2 _ _ _ _ hV (by decide) (Nat.lt_succ_self _)⟩, fun c => ?_⟩
    refine s_X11_netLine hV hQ (fun u h8 hu => ⟨fun _ => ?_, fun e => absurd e (by decide)⟩) (fun u hu => ⟨fun e => absurd rfl e, fun _ => hK _ _ hu⟩)
    have b7 := hu.1.b7
    have b6 := hu.1.b6
    exact ih _ _ hu.1 hu.2.2 (lt1 (mt_lt h8 hu.2.1 (Int32.le_trans b7.2 b6.2)) hm)
theorem nt_34 (hK : ∀ v : Int32, ∀ u : mS, V w h f0 g0 u.1 u.2 → K v u) (hK2 : ∀ v : Int32, ∀ u : mS, V w h u.1 u.2 u.1 u.2 → (∀ k, k < 4 → u.2 56 k = 0) → K v u) (n : Nat) : ∀ (f : Nat → Int32) (g : Nat → Nat → Int32) (x2 : Int32), V w h f0 g0 f g → f 23 ≤ f 36 → 0 ≤ x2 → mu x2 < n → wpX11_net_b34 n f g x2 K := by
  induction n with
  | zero => intro f g x2 _ _ _ hm; exact absurd hm (Nat.not_lt_zero _)
  | succ n ih =>
    intro f g x2 hV hQ h0 hm
    unfold wpX11_net_b34 wpX11_net_b34_body
    refine ⟨fun _ => ⟨_, nt_66 hK hK2 _ _ _ hV hQ (Nat.lt_succ_self _)⟩, fun c => ?_⟩
    have v1 : vp_in ((24 : Int32) + x2) 48 := vI (c := 48) rfl (by grind) (by grind)
    exact ⟨v1, v1, ih _ _ _ (Vg26 (by decide) (Vg25 (by decide) hV)) hQ (by grind) (lt1 (mu_lt c) hm)⟩
theorem s_X11_net {f : Nat → Int32} {g : Nat → Nat → Int32} {x1 : Int32} (hV : V w h f0 g0 f g) (hK : ∀ v : Int32, ∀ u : mS, V w h f0 g0 u.1 u.2 → K v u) (hK2 : ∀ v : Int32, ∀ u : mS, V w h u.1 u.2 u.1 u.2 → (∀ k, k < 4 → u.2 56 k = 0) → K v u) : wpX11_net f g x1 K := by
  unfold wpX11_net wpX11_net_b0
  refine s_X11_starts (Vf (k := 2) rfl hV) (Or.inr rfl) (fun r u hu _ => ⟨fun _ => ⟨_, nt_34 hK hK2 _ _ _ _ (Vu36 (by decide) (Vu23 (by decide) (Vu21 (by decide) hu))) ?_ (by decide) (Nat.lt_succ_self _)⟩, fun _ => hK _ _ hu⟩)
  simp [upd_r]
end NT
set_option maxHeartbeats 1000000 in
theorem s_X11_isSquare {w h : Nat} {f0 : Nat → Int32} {g0 : Nat → Nat → Int32} {f : Nat → Int32} {g : Nat → Nat → Int32} {x1 : Int32} {K : Int32 → ((Nat → Int32) × (Nat → Nat → Int32)) → Prop} (hV : V w h f0 g0 f g) (hK : ∀ v : Int32, isB v → (v = 0 ∨ (0 ≤ x1 ∧ x1 < nI (w * h))) → K v (f, g)) : wpX11_isSquare f g x1 K := by
  have b41_i := hV.b41
  have b42_i := hV.b42
  have n_i := hV.n
  unfold wpX11_isSquare
  unfold wpX11_isSquare_b0
  refine ⟨fun c0 => ?_, fun c0 => ?_⟩
  · unfold wpX11_isSquare_b16
    unfold wpX11_isSquare_b17
    refine ⟨(by first | exact Or.inl rfl | exact Or.inr rfl | assumption), ?_⟩
    exact hK _ (by first | exact Or.inl rfl | exact Or.inr rfl | assumption) (by first | assumption | grind | (simp [pt_r, upd_r] <;> grind))
  · refine s_X11_squares (hV).gx (fun r6 hp6 => ?_)
    try dsimp only
    refine ⟨fun c1 => ?_, fun c1 => ?_⟩
    · unfold wpX11_isSquare_b16
      unfold wpX11_isSquare_b17
      refine ⟨(by first | exact Or.inl rfl | exact Or.inr rfl | assumption), ?_⟩
      exact hK _ (by first | exact Or.inl rfl | exact Or.inr rfl | assumption) (by first | assumption | grind | (simp [pt_r, upd_r] <;> grind))
    · unfold wpX11_isSquare_b17
      refine ⟨(by first | exact Or.inl rfl | exact Or.inr rfl | assumption), ?_⟩
      exact hK _ (by first | exact Or.inl rfl | exact Or.inr rfl | assumption) (by first | assumption | grind | (simp [pt_r, upd_r] <;> grind))
set_option maxHeartbeats 1000000 in
theorem l_X11_wipes_b2 {w h : Nat} {f0 : Nat → Int32} {g0 : Nat → Nat → Int32} {K : ((Nat → Int32) × (Nat → Nat → Int32)) → Prop} (hK : ∀ u : mS, V w h f0 g0 u.1 u.2 → K u) (n : Nat) : ∀ (f : Nat → Int32) (g : Nat → Nat → Int32) (x1 : Int32), V w h f0 g0 f g → 0 ≤ x1 → mu (x1) < n → wpX11_wipes_b2 n f g x1 K := by
  induction n with
  | zero => intro f g x1 hV hi0 hm; exact absurd hm (Nat.not_lt_zero _)
  | succ n ih =>
    intro f g x1 hV hi0 hm
    have b41_i := hV.b41
    have b42_i := hV.b42
    have n_i := hV.n
    unfold wpX11_wipes_b2 wpX11_wipes_b2_body
    refine s_X11_squares (hV).gx (fun r4 hp4 => ?_)
    try dsimp only
    refine ⟨fun c0 => ?_, fun c0 => ?_⟩
    · exact hK _ hV
    · refine ⟨vI (c := 36) rfl (by first | assumption | grind | (simp [pt_r, upd_r] <;> grind)) (by first | assumption | grind | (simp [pt_r, upd_r] <;> grind)), ?_⟩
      refine ⟨vI (c := 36) rfl (by first | assumption | grind | (simp [pt_r, upd_r] <;> grind)) (by first | assumption | grind | (simp [pt_r, upd_r] <;> grind)), ?_⟩
      exact ih _ _ _ (Vg (k := 48) rfl (Vg47 (by first | assumption | grind | (simp [pt_r, upd_r] <;> grind)) hV)) (by first | assumption | grind | (simp [pt_r, upd_r] <;> grind)) (lt1 (mu_lt c0) hm)
set_option maxHeartbeats 1000000 in
theorem s_X11_wipes {w h : Nat} {f0 : Nat → Int32} {g0 : Nat → Nat → Int32} {f : Nat → Int32} {g : Nat → Nat → Int32} {K : ((Nat → Int32) × (Nat → Nat → Int32)) → Prop} (hV : V w h f0 g0 f g) (hK : ∀ u : mS, V w h f0 g0 u.1 u.2 → K u) : wpX11_wipes f g K := by
  have b41_i := hV.b41
  have b42_i := hV.b42
  have n_i := hV.n
  unfold wpX11_wipes
  unfold wpX11_wipes_b0
  exact ⟨_, l_X11_wipes_b2 hK _ _ _ _ hV (by first | assumption | grind | (simp [pt_r, upd_r] <;> grind)) (Nat.lt_succ_self _)⟩
set_option maxHeartbeats 1000000 in
theorem l_X11_wipe_b9 {w h : Nat} {f0 : Nat → Int32} {g0 : Nat → Nat → Int32} {K : Int32 → ((Nat → Int32) × (Nat → Nat → Int32)) → Prop} (hK : ∀ v : Int32, ∀ u : mS, V w h f0 g0 u.1 u.2 → K v u) (n : Nat) : ∀ (f : Nat → Int32) (g : Nat → Nat → Int32) (x1 : Int32) (x2 : Int32), V w h f0 g0 f g → 0 ≤ x2 → mu (x2) < n → wpX11_wipe_b9 n f g x1 x2 K := by
  induction n with
  | zero => intro f g x1 x2 hV hi0 hm; exact absurd hm (Nat.not_lt_zero _)
  | succ n ih =>
    intro f g x1 x2 hV hi0 hm
    have b41_i := hV.b41
    have b42_i := hV.b42
    have n_i := hV.n
    unfold wpX11_wipe_b9 wpX11_wipe_b9_body
    refine s_X11_squares (hV).gx (fun r11 hp11 => ?_)
    try dsimp only
    refine ⟨fun c0 => ?_, fun c0 => ?_⟩
    · refine s_X11_wipes hV (fun u50 hV50 => ?_)
      have b41_50 := hV50.b41
      have b42_50 := hV50.b42
      have n_50 := hV50.n
      exact hK _ _ (Vf (k := 45) rfl (Vf (k := 44) rfl (Vf (k := 43) rfl hV50)))
    · refine ⟨vI (c := 36) rfl (by first | assumption | grind | (simp [pt_r, upd_r] <;> grind)) (by first | assumption | grind | (simp [pt_r, upd_r] <;> grind)), ?_⟩
      refine ⟨fun c1 => ?_, fun c1 => ?_⟩
      · unfold wpX11_wipe_b36
        unfold wpX11_wipe_b41
        exact ih _ _ _ _ hV (by first | assumption | grind | (simp [pt_r, upd_r] <;> grind)) (lt1 (mu_lt c0) hm)
      · refine ⟨vI (c := 36) rfl (by first | assumption | grind | (simp [pt_r, upd_r] <;> grind)) (by first | assumption | grind | (simp [pt_r, upd_r] <;> grind)), ?_⟩
        refine ⟨fun c2 => ?_, fun c2 => ?_⟩
        · unfold wpX11_wipe_b41
          exact ih _ _ _ _ hV (by first | assumption | grind | (simp [pt_r, upd_r] <;> grind)) (lt1 (mu_lt c0) hm)
        · unfold wpX11_wipe_b36
          unfold wpX11_wipe_b41
          exact ih _ _ _ _ hV (by first | assumption | grind | (simp [pt_r, upd_r] <;> grind)) (lt1 (mu_lt c0) hm)
set_option maxHeartbeats 1000000 in
theorem s_X11_wipe {w h : Nat} {f0 : Nat → Int32} {g0 : Nat → Nat → Int32} {f : Nat → Int32} {g : Nat → Nat → Int32} {K : Int32 → ((Nat → Int32) × (Nat → Nat → Int32)) → Prop} (hV : V w h f0 g0 f g) (hK : ∀ v : Int32, ∀ u : mS, V w h f0 g0 u.1 u.2 → K v u) : wpX11_wipe f g K := by
  have b41_i := hV.b41
  have b42_i := hV.b42
  have n_i := hV.n
  unfold wpX11_wipe
  unfold wpX11_wipe_b0
  exact ⟨_, l_X11_wipe_b9 hK _ _ _ _ _ (Vf (k := 2) rfl hV) (by first | assumption | grind | (simp [pt_r, upd_r] <;> grind)) (Nat.lt_succ_self _)⟩
set_option maxHeartbeats 1000000 in
theorem s_X11_goes {w h : Nat} {f0 : Nat → Int32} {g0 : Nat → Nat → Int32} {f : Nat → Int32} {g : Nat → Nat → Int32} {K : ((Nat → Int32) × (Nat → Nat → Int32)) → Prop} (hV : V w h f0 g0 f g) (hK : ∀ u : mS, V w h f0 g0 u.1 u.2 → K u) : wpX11_goes f g K := by
  have b41_i := hV.b41
  have b42_i := hV.b42
  have n_i := hV.n
  unfold wpX11_goes
  unfold wpX11_goes_b0
  refine s_X11_isWall (hV).gx (by first | assumption | grind | (simp [pt_r, upd_r] <;> grind)) (by first | assumption | grind | (simp [pt_r, upd_r] <;> grind)) (fun r9 hb9 hp9 => ?_)
  try dsimp only
  refine ⟨fun c0 => ?_, fun c0 => ?_⟩
  · refine s_X11_ahead (hV).gx (by first | assumption | grind | (simp [pt_r, upd_r] <;> grind)) (fun r26 hp26 => ?_)
    try dsimp only
    exact hK _ (Vf (k := 53) rfl (Vu41 (by first | assumption | grind | (simp [pt_r, upd_r] <;> grind)) hV))
  · exact hK _ hV
set_option maxHeartbeats 1000000 in
theorem s_X11_holds {w h : Nat} {f0 : Nat → Int32} {g0 : Nat → Nat → Int32} {f : Nat → Int32} {g : Nat → Nat → Int32} {x1 : Int32} {K : Int32 → ((Nat → Int32) × (Nat → Nat → Int32)) → Prop} (hV : V w h f0 g0 f g) (hp : 0 ≤ x1 ∧ x1 < 720) (hK : ∀ v : Int32, isB v → K v (f, g)) : wpX11_holds f g x1 K := by
  have b41_i := hV.b41
  have b42_i := hV.b42
  have n_i := hV.n
  have w_i := fun i => hV.g47 (i := i)
  unfold wpX11_holds
  unfold wpX11_holds_b0
  refine ⟨vI (c := 720) rfl (by first | assumption | grind | (simp [pt_r, upd_r] <;> grind)) (by first | assumption | grind | (simp [pt_r, upd_r] <;> grind)), ?_⟩
  refine ⟨fun c0 => ?_, fun c0 => ?_, fun c0 => ?_, fun c0 => ?_, fun c0 => ?_, fun c0 => ?_⟩
  · refine s_X11_isWall (hV).gx (by first | assumption | grind | (simp [pt_r, upd_r] <;> grind)) (by first | assumption | grind | (simp [pt_r, upd_r] <;> grind)) (fun r49 hb49 hp49 => ?_)
    try dsimp only
    unfold wpX11_holds_b164
    refine ⟨vI (c := 720) rfl (by first | assumption | grind | (simp [pt_r, upd_r] <;> grind)) (by first | assumption | grind | (simp [pt_r, upd_r] <;> grind)), ?_⟩
    refine ⟨fun c1 => ?_, fun c1 => ?_⟩
    · unfold wpX11_holds_b179
      refine ⟨(by first | exact Or.inl rfl | exact Or.inr rfl | assumption), ?_⟩
      exact hK _ (by first | exact Or.inl rfl | exact Or.inr rfl | assumption)
    · unfold wpX11_holds_b179
      refine ⟨(by first | exact Or.inl rfl | exact Or.inr rfl | assumption), ?_⟩
      exact hK _ (by first | exact Or.inl rfl | exact Or.inr rfl | assumption)
  · refine ⟨fun c1 => ?_, fun c1 => ?_⟩
    · unfold wpX11_holds_b72
      unfold wpX11_holds_b164
      refine ⟨vI (c := 720) rfl (by first | assumption | grind | (simp [pt_r, upd_r] <;> grind)) (by first | assumption | grind | (simp [pt_r, upd_r] <;> grind)), ?_⟩
      refine ⟨fun c2 => ?_, fun c2 => ?_⟩
      · unfold wpX11_holds_b179
        refine ⟨(by first | exact Or.inl rfl | exact Or.inr rfl | assumption), ?_⟩
        exact hK _ (by first | exact Or.inl rfl | exact Or.inr rfl | assumption)
      · unfold wpX11_holds_b179
        refine ⟨(by first | exact Or.inl rfl | exact Or.inr rfl | assumption), ?_⟩
        exact hK _ (by first | exact Or.inl rfl | exact Or.inr rfl | assumption)
    · unfold wpX11_holds_b72
      unfold wpX11_holds_b164
      refine ⟨vI (c := 720) rfl (by first | assumption | grind | (simp [pt_r, upd_r] <;> grind)) (by first | assumption | grind | (simp [pt_r, upd_r] <;> grind)), ?_⟩
      refine ⟨fun c2 => ?_, fun c2 => ?_⟩
      · unfold wpX11_holds_b179
        refine ⟨(by first | exact Or.inl rfl | exact Or.inr rfl | assumption), ?_⟩
        exact hK _ (by first | exact Or.inl rfl | exact Or.inr rfl | assumption)
      · unfold wpX11_holds_b179
        refine ⟨(by first | exact Or.inl rfl | exact Or.inr rfl | assumption), ?_⟩
        exact hK _ (by first | exact Or.inl rfl | exact Or.inr rfl | assumption)
  · refine ⟨vI (c := 36) rfl (by first | assumption | grind | (simp [pt_r, upd_r] <;> grind)) (by first | assumption | grind | (simp [pt_r, upd_r] <;> grind)), ?_⟩
    refine ⟨fun c1 => ?_, fun c1 => ?_⟩
    · unfold wpX11_holds_b97
      unfold wpX11_holds_b164
      refine ⟨vI (c := 720) rfl (by first | assumption | grind | (simp [pt_r, upd_r] <;> grind)) (by first | assumption | grind | (simp [pt_r, upd_r] <;> grind)), ?_⟩
      refine ⟨fun c2 => ?_, fun c2 => ?_⟩
      · unfold wpX11_holds_b179
        refine ⟨(by first | exact Or.inl rfl | exact Or.inr rfl | assumption), ?_⟩
        exact hK _ (by first | exact Or.inl rfl | exact Or.inr rfl | assumption)
      · unfold wpX11_holds_b179
        refine ⟨(by first | exact Or.inl rfl | exact Or.inr rfl | assumption), ?_⟩
        exact hK _ (by first | exact Or.inl rfl | exact Or.inr rfl | assumption)
    · unfold wpX11_holds_b97
      unfold wpX11_holds_b164
      refine ⟨vI (c := 720) rfl (by first | assumption | grind | (simp [pt_r, upd_r] <;> grind)) (by first | assumption | grind | (simp [pt_r, upd_r] <;> grind)), ?_⟩
      refine ⟨fun c2 => ?_, fun c2 => ?_⟩
      · unfold wpX11_holds_b179
        refine ⟨(by first | exact Or.inl rfl | exact Or.inr rfl | assumption), ?_⟩
        exact hK _ (by first | exact Or.inl rfl | exact Or.inr rfl | assumption)
      · unfold wpX11_holds_b179
        refine ⟨(by first | exact Or.inl rfl | exact Or.inr rfl | assumption), ?_⟩
        exact hK _ (by first | exact Or.inl rfl | exact Or.inr rfl | assumption)
  · refine ⟨vI (c := 720) rfl (by first | assumption | grind | (simp [pt_r, upd_r] <;> grind)) (by first | assumption | grind | (simp [pt_r, upd_r] <;> grind)), ?_⟩
    refine ⟨fun c1 => ?_, fun c1 => ?_⟩
    · unfold wpX11_holds_b119
      unfold wpX11_holds_b164
      refine ⟨vI (c := 720) rfl (by first | assumption | grind | (simp [pt_r, upd_r] <;> grind)) (by first | assumption | grind | (simp [pt_r, upd_r] <;> grind)), ?_⟩
      refine ⟨fun c2 => ?_, fun c2 => ?_⟩
      · unfold wpX11_holds_b179
        refine ⟨(by first | exact Or.inl rfl | exact Or.inr rfl | assumption), ?_⟩
        exact hK _ (by first | exact Or.inl rfl | exact Or.inr rfl | assumption)
      · unfold wpX11_holds_b179
        refine ⟨(by first | exact Or.inl rfl | exact Or.inr rfl | assumption), ?_⟩
        exact hK _ (by first | exact Or.inl rfl | exact Or.inr rfl | assumption)
    · unfold wpX11_holds_b119
      unfold wpX11_holds_b164
      refine ⟨vI (c := 720) rfl (by first | assumption | grind | (simp [pt_r, upd_r] <;> grind)) (by first | assumption | grind | (simp [pt_r, upd_r] <;> grind)), ?_⟩
      refine ⟨fun c2 => ?_, fun c2 => ?_⟩
      · unfold wpX11_holds_b179
        refine ⟨(by first | exact Or.inl rfl | exact Or.inr rfl | assumption), ?_⟩
        exact hK _ (by first | exact Or.inl rfl | exact Or.inr rfl | assumption)
      · unfold wpX11_holds_b179
        refine ⟨(by first | exact Or.inl rfl | exact Or.inr rfl | assumption), ?_⟩
        exact hK _ (by first | exact Or.inl rfl | exact Or.inr rfl | assumption)
  · refine ⟨vI (c := 720) rfl (by first | assumption | grind | (simp [pt_r, upd_r] <;> grind)) (by first | assumption | grind | (simp [pt_r, upd_r] <;> grind)), ?_⟩
    refine ⟨fun c1 => ?_, fun c1 => ?_⟩
    · unfold wpX11_holds_b141
      unfold wpX11_holds_b164
      refine ⟨vI (c := 720) rfl (by first | assumption | grind | (simp [pt_r, upd_r] <;> grind)) (by first | assumption | grind | (simp [pt_r, upd_r] <;> grind)), ?_⟩
      refine ⟨fun c2 => ?_, fun c2 => ?_⟩
      · unfold wpX11_holds_b179
        refine ⟨(by first | exact Or.inl rfl | exact Or.inr rfl | assumption), ?_⟩
        exact hK _ (by first | exact Or.inl rfl | exact Or.inr rfl | assumption)
      · unfold wpX11_holds_b179
        refine ⟨(by first | exact Or.inl rfl | exact Or.inr rfl | assumption), ?_⟩
        exact hK _ (by first | exact Or.inl rfl | exact Or.inr rfl | assumption)
    · unfold wpX11_holds_b141
      unfold wpX11_holds_b164
      refine ⟨vI (c := 720) rfl (by first | assumption | grind | (simp [pt_r, upd_r] <;> grind)) (by first | assumption | grind | (simp [pt_r, upd_r] <;> grind)), ?_⟩
      refine ⟨fun c2 => ?_, fun c2 => ?_⟩
      · unfold wpX11_holds_b179
        refine ⟨(by first | exact Or.inl rfl | exact Or.inr rfl | assumption), ?_⟩
        exact hK _ (by first | exact Or.inl rfl | exact Or.inr rfl | assumption)
      · unfold wpX11_holds_b179
        refine ⟨(by first | exact Or.inl rfl | exact Or.inr rfl | assumption), ?_⟩
        exact hK _ (by first | exact Or.inl rfl | exact Or.inr rfl | assumption)
  · refine ⟨vI (c := 36) rfl (by first | assumption | grind | (simp [pt_r, upd_r] <;> grind)) (by first | assumption | grind | (simp [pt_r, upd_r] <;> grind)), ?_⟩
    refine ⟨vI (c := 720) rfl (by first | assumption | grind | (simp [pt_r, upd_r] <;> grind)) (by first | assumption | grind | (simp [pt_r, upd_r] <;> grind)), ?_⟩
    refine s_X11_isOf (fun r160 hb160 => ?_)
    unfold wpX11_holds_b164
    refine ⟨vI (c := 720) rfl (by first | assumption | grind | (simp [pt_r, upd_r] <;> grind)) (by first | assumption | grind | (simp [pt_r, upd_r] <;> grind)), ?_⟩
    refine ⟨fun c1 => ?_, fun c1 => ?_⟩
    · unfold wpX11_holds_b179
      refine ⟨(by first | exact Or.inl rfl | exact Or.inr rfl | assumption), ?_⟩
      exact hK _ (by first | exact Or.inl rfl | exact Or.inr rfl | assumption)
    · unfold wpX11_holds_b179
      refine ⟨(by first | exact Or.inl rfl | exact Or.inr rfl | assumption), ?_⟩
      exact hK _ (by first | exact Or.inl rfl | exact Or.inr rfl | assumption)
