def wt (k : Int32) : Int32 := if k = 5 then 3 else if k = 6 then 2 else if k = 7 then 1 else 0
theorem m_weight {k : Int32} {K : Int32 → Unit → Prop} (hK : K (wt k) ()) : wpX11_weight k K := by
  unfold wt at hK
  unfold wpX11_weight wpX11_weight_b0
  refine ⟨fun c => ⟨fun c1 => ⟨fun c2 => ?_, fun c2 => ?_⟩, fun c1 => ?_⟩, fun c => ?_⟩
  · rw [if_neg c, if_neg c1, if_neg c2] at hK; exact hK
  · rw [if_neg c, if_neg c1, if_pos c2] at hK; exact hK
  · rw [if_neg c, if_pos c1] at hK; exact hK
  · rw [if_pos c] at hK; exact hK

theorem l_X11_bind_b0 {w h : Nat} {f0 : Nat → Int32} {g0 : Nat → Nat → Int32} {W : Nat → Int32} {x1 : Int32} {K : mS → Prop} {B z : Nat} {fa : Nat → Int32} (hx : 1 ≤ x1) (hK : ∀ (u : mS) (n q : Nat), V w h f0 g0 u.1 u.2 → u.2 31 = W → PI u.1 W n 1 q B → cz W n = z → (∀ k, k ≠ 23 → k ≠ 33 → k ≠ 34 → u.1 k = fa k) → (n = 0 ∨ wt (W (n - 1)) < x1) → K u) (m : Nat) : ∀ (f : Nat → Int32) (g : Nat → Nat → Int32) (n q : Nat), V w h f0 g0 f g → g 31 = W → PI f W n 1 q B → cz W n = z → (∀ k, k ≠ 23 → k ≠ 33 → k ≠ 34 → f k = fa k) → n < m → wpX11_bind_b0 m f g x1 K := by
  induction m with
  | zero => intro f g n q _ _ _ _ _ hm; exact absurd hm (Nat.not_lt_zero _)
  | succ m ih =>
    intro f g n q hV hW hP hz hf hm
    obtain ⟨n72, n65, q64⟩ := hP.n
    obtain ⟨p33, p37, p1, pw, p34, p35, p8, p23, pq, pB⟩ := id hP
    unfold wpX11_bind_b0 wpX11_bind_b0_body wpX11_bind_b76
    refine ⟨fun c => ?_, fun c => ?_⟩
    · have hn : n = 0 := by
        rcases Nat.eq_zero_or_pos n with q | q
        · exact q
        · rw [p33] at c; exact absurd c (nI_nle q (by omega))
      exact hK (f, g) n q hV hW hP hz hf (Or.inl hn)
    · have hn : 0 < n := by
        rcases Nat.eq_zero_or_pos n with q | q
        · subst q; rw [p33] at c; exact absurd (by decide) c
        · exact q
      obtain ⟨n', rfl⟩ : ∃ n', n = n' + 1 := ⟨n - 1, by omega⟩
      have e33 : f 33 - 1 = nI n' := by rw [p33, nI_pred]
      have v : vp_in (f 33 - 1) 80 := by rw [e33]; exact vin (by omega) (by decide)
      have ei : ix (nI n') = n' := ix_nI (by omega)
      refine ⟨v, m_weight ⟨fun c1 => ?_, fun c1 => ⟨v, ?_⟩⟩⟩
      · rw [e33, ei, hW] at c1
        exact hK (f, g) (n' + 1) q hV hW hP hz hf (Or.inr c1)
      · rw [e33, ei, hW] at c1 ⊢
        have top := pw n' (by omega)
        have t0 : ¬ W n' = 0 := fun e => by
          rw [e] at c1
          exact c1 (by show (0 : Int32) < x1; grind)
        have hWO : WO W n' := fun i hi => pw i (by omega)
        have hzz : cz W (n' + 1) = cz W n' := by show cz W n' + _ = _; rw [if_neg t0, Nat.add_zero]
        have fin : ∀ (f2 : Nat → Int32) (b : Int32) (m2 : Nat), V w h f0 g0 f2 g → f2 23 = nI q → f2 33 = nI n' → (∀ k, k ≠ 23 → k ≠ 33 → k ≠ 34 → f2 k = fa k) → f2 37 = nI 1 → f2 35 = nI (cz W n') → f2 34 = nI (m2 + 1) → m2 = c6 W n' → q < 64 → q + 1 + c5 W n' + c6 W n' ≤ B → (∀ a : Int32, 0 ≤ a ∧ a < 64 → KO (W n') a b) → wpX11_bind_b58 (fun f g x1 => wpX11_bind_b0 m f g x1 K) f2 g b x1 (W n') K := by
          intro f2 b m2 hV2 h23 h33 hfr h37 h35 h34 hm2 hq4 hB hko
          unfold wpX11_bind_b58
          refine s_X11_drop hV2 h34 (by omega) (fun a ha hV3 => ?_)
          refine s_X11_grown (q := q) (m := m2) hV3 (by dsimp only; rw [upd_r, if_neg (by decide)]; exact h23) hq4 (by dsimp only; rw [upd_r, if_pos rfl]) (by omega) (hko a ha) (fun u hVu u23 u34 ufr u31 => ?_)
          refine ih u.1 u.2 n' (q + 1) hVu (by rw [u31]; exact hW) ⟨?_, ?_, Nat.le_refl _, hWO, ?_, ?_, by rw [← hzz]; exact p8, u23, by omega, pB⟩ (by rw [← hzz]; exact hz) (fun k k1 k2 k3 => ?_) (by omega)
          · rw [ufr 33 (by decide) (by decide)]; dsimp only; rw [upd_r, if_neg (by decide)]; exact h33
          · rw [ufr 37 (by decide) (by decide)]; dsimp only; rw [upd_r, if_neg (by decide)]; exact h37
          · rw [u34, hm2]
          · rw [ufr 35 (by decide) (by decide)]; dsimp only; rw [upd_r, if_neg (by decide)]; exact h35
          · rw [ufr k k1 k3]; dsimp only; rw [upd_r, if_neg k3]; exact hfr k k1 k2 k3
        have f23 : (upd f 33 (nI n')) 23 = nI q := by rw [upd_r, if_neg (by decide)]; exact p23
        have f33 : (upd f 33 (nI n')) 33 = nI n' := by rw [upd_r, if_pos rfl]
        have f37 : (upd f 33 (nI n')) 37 = nI 1 := by rw [upd_r, if_neg (by decide)]; exact p37
        have f35 : (upd f 33 (nI n')) 35 = nI (cz W n') := by rw [upd_r, if_neg (by decide), ← hzz]; exact p35
        have ffr : ∀ k, k ≠ 23 → k ≠ 33 → k ≠ 34 → (upd f 33 (nI n')) k = fa k := fun k k1 k2 k3 => by rw [upd_r, if_neg k2]; exact hf k k1 k2 k3
        have hV1 : V w h f0 g0 (upd f 33 (nI n')) g := Vf (k := 33) rfl hV
        refine ⟨fun c2 => ?_, fun c2 => ?_⟩
        · have e67 : W n' = 6 ∨ W n' = 7 := by
            rcases top with e | e | e | e
            · exact absurd e t0
            · exact absurd e c2
            · exact Or.inl e
            · exact Or.inr e
          have k5 : c5 W (n' + 1) = c5 W n' := by show c5 W n' + _ = _; rw [if_neg c2, Nat.add_zero]
          have k6 : c6 W (n' + 1) = c6 W n' + 1 := by show c6 W n' + _ = _; rw [if_pos e67]
          rw [k5, k6] at pq
          rw [k6] at p34 n65
          refine s_X11_drop (m := c6 W n' + 1) hV1 (by rw [upd_r, if_neg (by decide)]; exact p34) (by omega) (fun b hb hV2 => ?_)
          dsimp only
          refine fin _ b (c6 W n') hV2 ?_ ?_ (fun k k1 k2 k3 => ?_) ?_ ?_ ?_ rfl (by omega) (by omega) (fun a ha => ⟨fun e => absurd e c2, fun _ => ⟨ha, hb⟩⟩)
          · rw [upd_r, if_neg (by decide)]; exact f23
          · rw [upd_r, if_neg (by decide)]; exact f33
          · rw [upd_r, if_neg k3]; exact ffr k k1 k2 k3
          · rw [upd_r, if_neg (by decide)]; exact f37
          · rw [upd_r, if_neg (by decide)]; exact f35
          · rw [upd_r, if_pos rfl]
        · have k5 : c5 W (n' + 1) = c5 W n' + 1 := by show c5 W n' + _ = _; rw [if_pos c2]
          have k6 : c6 W (n' + 1) = c6 W n' := by show c6 W n' + _ = _; rw [if_neg (by rw [c2]; decide), Nat.add_zero]
          rw [k5, k6] at pq
          rw [k6] at p34 n65
          exact fin _ (-1) (c6 W n') hV1 f23 f33 ffr f37 f35 (by rw [upd_r, if_neg (by decide)]; exact p34) rfl (by omega) (by omega) (fun a ha => ⟨fun _ => ha, fun e => absurd e (by rw [c2]; decide)⟩)
theorem s_X11_bind {w h : Nat} {f0 : Nat → Int32} {g0 : Nat → Nat → Int32} {f : Nat → Int32} {g : Nat → Nat → Int32} {x1 : Int32} {K : mS → Prop} {B n q : Nat} (hV : V w h f0 g0 f g) (hx : 1 ≤ x1) (hP : PI f (g 31) n 1 q B) (hK : ∀ (u : mS) (n' q' : Nat), V w h f0 g0 u.1 u.2 → u.2 31 = g 31 → PI u.1 (g 31) n' 1 q' B → cz (g 31) n' = cz (g 31) n → (∀ k, k ≠ 23 → k ≠ 33 → k ≠ 34 → u.1 k = f k) → (n' = 0 ∨ wt (g 31 (n' - 1)) < x1) → K u) : wpX11_bind f g x1 K := by
  unfold wpX11_bind
  exact ⟨_, l_X11_bind_b0 hx hK _ f g n q hV rfl hP rfl (fun _ _ _ _ => rfl) (Nat.lt_succ_self _)⟩
theorem c64 {w h : Nat} {f0 : Nat → Int32} {g0 : Nat → Nat → Int32} {f : Nat → Int32} {g : Nat → Nat → Int32} (hV : V w h f0 g0 f g) : ∃ c, c ≤ 64 ∧ f 36 = nI c := i_mid (n := 64) (hi := 64) rfl hV.b36.1 hV.b36.2
theorem s_X11_isCounted {w h : Nat} {f0 : Nat → Int32} {g0 : Nat → Nat → Int32} {f : Nat → Int32} {g : Nat → Nat → Int32} {K : Int32 → mS → Prop} {c : Nat} (hV : V w h f0 g0 f g) (hc : f 36 = nI c) (hc4 : c ≤ 64) (h1 : c < 64 → V w h f0 g0 (upd f 36 (nI (c + 1))) g → K 1 (upd f 36 (nI (c + 1)), g)) (h0 : ∀ f' : Nat → Int32, V w h f0 g0 f' g → K 0 (f', g)) : wpX11_isCounted f g K := by
  unfold wpX11_isCounted wpX11_isCounted_b0
  rw [hc, nI_1]
  refine ⟨fun q => ?_, fun q => s_X11_wrong hV (fun v f' hV' hb hv _ => ⟨hb, by rw [hv]; exact h0 f' hV'⟩)⟩
  have : c ≠ 64 := fun e => q (by rw [e]; rfl)
  exact h1 (by omega) (Vu36 ⟨nI_pos' (by omega), nI_le (b := 64) (by omega) (by omega)⟩ hV)
/-- tokens go on -/
def PT (f f' : Nat → Int32) : Prop := f 7 ≤ f' 7 ∧ (f' 8 = 0 ∨ f 7 < f' 7)
theorem TK.pt {f f' a : Nat → Int32} (h : TK f f') (ha : a 7 = f 7) : PT a f' := by
  unfold PT; rw [ha]; exact h.2
/-- what a step of an expression leaves -/
def PS (w h : Nat) (f0 : Nat → Int32) (g0 : Nat → Nat → Int32) (f : Nat → Int32) (u : mS) : Prop := V w h f0 g0 u.1 u.2 ∧ ¬ f 8 = 0 ∧ PT f u.1 ∧ ∃ n t q c, PI u.1 (u.2 31) n t q c ∧ c ≤ 64 ∧ u.1 36 = nI c
theorem PI.tk {f f' W : Nat → Int32} {n t q B : Nat} (h : PI f W n t q B) (e : TK f f') : PI f' W n t q B := h.fr (fun k hk => e.1 k (by omega) (by omega) (by omega) (by omega))
section LR2
variable {w h : Nat} {f0 : Nat → Int32} {g0 : Nat → Nat → Int32} {f : Nat → Int32} {g : Nat → Nat → Int32} {K : Int32 → mS → Prop}
/-- an operand: counted, grown, then the next token -/
theorem lr_231 {n q c : Nat} (h8 : ¬ f 8 = 0) (hK1 : ∀ u : mS, PS w h f0 g0 f u → K 1 u) {u : mS} (hV : V w h f0 g0 u.1 u.2) (hW : u.2 31 = g 31) (hP : PI f (g 31) n 0 q c) (h23 : u.1 23 = nI (q + 1)) (h34 : u.1 34 = nI (c6 (g 31) n + 1)) (hc : c < 64) (h36 : u.1 36 = nI (c + 1)) (hfr : ∀ k, k ≠ 23 → k ≠ 34 → k ≠ 36 → u.1 k = f k) : wpX11_leafRead_b231 u.1 u.2 K := by
  obtain ⟨p33, p37, p1, pw, p34, p35, p8, p23, pq, pB⟩ := id hP
  unfold wpX11_leafRead_b231
  refine s_X11_take (Vf (k := 37) rfl hV) (fun f' hV' hT => hK1 _ ⟨hV', h8, hT.pt ?_, n, 1, q + 1, c + 1, ?_, by omega, ?_⟩)
  · rw [upd_r, if_neg (by decide), hfr 7 (by decide) (by decide) (by decide)]
  · refine PI.tk ?_ hT
    rw [hW]
    refine ⟨?_, ?_, Nat.le_refl _, pw, ?_, ?_, p8, ?_, by omega, by omega⟩
    · rw [upd_r, if_neg (by decide), hfr 33 (by decide) (by decide) (by decide)]; exact p33
    · rw [upd_r, if_pos rfl]; rfl
    · rw [upd_r, if_neg (by decide)]; exact h34
    · rw [upd_r, if_neg (by decide), hfr 35 (by decide) (by decide) (by decide)]; exact p35
    · rw [upd_r, if_neg (by decide)]; exact h23
  · dsimp only; rw [hT.1 36 (by decide) (by decide) (by decide) (by decide), upd_r, if_neg (by decide)]; exact h36
theorem KO_4 {a b : Int32} : KO 4 a b := ⟨fun e => absurd e (by decide), fun e => absurd e (by decide)⟩
theorem KO_0 {k a b : Int32} (h : k = 0 ∨ k = 1 ∨ k = 2 ∨ k = 3) : KO k a b := by
  rcases h with rfl | rfl | rfl | rfl <;> exact ⟨fun e => absurd e (by decide), fun e => absurd e (by decide)⟩
theorem lr_161 {n q c : Nat} {x1 : Int32} (hV : V w h f0 g0 f g) (h8 : ¬ f 8 = 0) (hP : PI f (g 31) n 0 q c) (hc : f 36 = nI c) (hK1 : ∀ u : mS, PS w h f0 g0 f u → K 1 u) (hK0 : ∀ u : mS, V w h f0 g0 u.1 u.2 → K 0 u) : wpX11_leafRead_b161 f g x1 K := by
  obtain ⟨n72, n65, q64⟩ := hP.n
  obtain ⟨p33, p37, p1, pw, p34, p35, p8, p23, pq, pB⟩ := id hP
  unfold wpX11_leafRead_b161
  refine s_X11_isCounted hV hc pB (fun hc4 hV1 => ⟨fun _ => ?_, fun e => absurd e (by decide)⟩) (fun f' hV' => ⟨fun e => absurd rfl e, fun _ => hK0 _ hV'⟩)
  have go : ∀ k a b : Int32, KO k a b → wpX11_grown (upd f 36 (nI (c + 1))) g k a b (fun u => wpX11_leafRead_b231 u.1 u.2 K) := fun k a b hk => by
    refine s_X11_grown (q := q) (m := c6 (g 31) n) hV1 (by rw [upd_r, if_neg (by decide)]; exact p23) (by omega) (by rw [upd_r, if_neg (by decide)]; exact p34) (by omega) hk (fun u hu u23 u34 ufr u31 => ?_)
    refine lr_231 h8 hK1 hu u31 hP u23 u34 hc4 ?_ (fun k k1 k2 k3 => ?_)
    · rw [ufr 36 (by decide) (by decide), upd_r, if_pos rfl]
    · rw [ufr k k1 k2, upd_r, if_neg k3]
  dsimp only
  have g2 : ∀ k : Int32, k = 0 ∨ k = 1 ∨ k = 2 ∨ k = 3 → wpX11_leafRead_b213 (upd f 36 (nI (c + 1))) g k K := fun k hk => by
    unfold wpX11_leafRead_b213; exact go k 0 0 (KO_0 hk)
  exact ⟨fun _ => go _ _ _ KO_4, fun _ => ⟨fun _ => ⟨fun _ => ⟨fun _ => g2 3 (by decide), fun _ => g2 2 (by decide)⟩, fun _ => g2 1 (by decide)⟩, fun _ => g2 0 (by decide)⟩⟩
theorem lr_142 {n q c : Nat} {x1 : Int32} (hV : V w h f0 g0 f g) (h8 : ¬ x1 = 0 → ¬ f 8 = 0) (hP : PI f (g 31) n 0 q c) (hc : f 36 = nI c) (hK1 : ∀ u : mS, PS w h f0 g0 f u → K 1 u) (hK0 : ∀ u : mS, V w h f0 g0 u.1 u.2 → K 0 u) : wpX11_leafRead_b142 f g x1 K := by
  unfold wpX11_leafRead_b142
  refine ⟨fun e => lr_161 hV (h8 e) hP hc hK1 hK0, fun e => ⟨fun e2 => lr_161 hV (by rw [e2]; decide) hP hc hK1 hK0, fun _ => ?_⟩⟩
  exact s_X11_wrong hV (fun v f' hV' hb hv _ => ⟨hb, by rw [hv]; exact hK0 _ hV'⟩)
theorem s_X11_leafRead {n q c : Nat} (hV : V w h f0 g0 f g) (hP : PI f (g 31) n 0 q c) (hc : f 36 = nI c) (hK1 : ∀ u : mS, PS w h f0 g0 f u → K 1 u) (hK0 : ∀ u : mS, V w h f0 g0 u.1 u.2 → K 0 u) : wpX11_leafRead f g K := by
  obtain ⟨n72, n65, q64⟩ := hP.n
  obtain ⟨p33, p37, p1, pw, p34, p35, p8, p23, pq, pB⟩ := id hP
  have v : vp_in (f 33) 80 := by rw [p33]; exact vin (by omega) (by decide)
  have e33 : ix (f 33) = n := by rw [p33]; exact ix_nI (by omega)
  unfold wpX11_leafRead wpX11_leafRead_b0 wpX11_leafRead_b137
  refine s_X11_isSign hV (fun r3 hb3 hp3 => ⟨fun c3 => ?_, fun c3 => ?_⟩)
  · refine s_X11_isKey hV (fun r62 hb62 hp62 => ⟨fun c62 => ?_, fun c62 => ?_⟩)
    · have go : ∀ v : Int32, (¬ v = 0 → ¬ f 8 = 0) → wpX11_leafRead_b142 f g v K := fun v hv => lr_142 hV hv hP hc hK1 hK0
      have k8 : ∀ {r x : Int32}, (r = 0 ∨ (f 8 = 1 ∧ f 9 = x)) → ¬ r = 0 → ¬ f 8 = 0 := fun hp hr => by rw [(hp.resolve_left hr).1]; decide
      refine s_X11_isKey hV (fun r1 _ hp1 => ⟨fun d => go 1 (fun _ => k8 hp1 d), fun _ => ?_⟩)
      refine s_X11_isKey hV (fun r2 _ hp2 => ⟨fun d => go 1 (fun _ => k8 hp2 d), fun _ => ?_⟩)
      refine s_X11_isKey hV (fun r4 _ hp4 => ⟨fun d => go 1 (fun _ => k8 hp4 d), fun _ => ?_⟩)
      exact s_X11_isKey hV (fun r5 _ hp5 => ⟨fun _ => go 0 (fun e => absurd rfl e), fun d => go 1 (fun _ => k8 hp5 d)⟩)
    · have h8 : ¬ f 8 = 0 := fun e => absurd ((hp62.resolve_left c62).1.symm.trans e) (by decide)
      refine s_X11_isCounted hV hc pB (fun hc4 hV1 => ⟨fun _ => ?_, fun e => absurd e (by decide)⟩) (fun f' hV' => ⟨fun e => absurd rfl e, fun _ => hK0 _ hV'⟩)
      dsimp only
      have e : (upd f 36 (nI (c + 1))) 33 = f 33 := by rw [upd_r, if_neg (by decide)]
      rw [e]
      refine ⟨v, ?_⟩
      rw [e33, p33, nI_1]
      refine s_X11_take (Vf (k := 33) rfl (Vg (k := 31) rfl hV1)) (fun f' hV' hT => hK1 _ ⟨hV', h8, hT.pt ?_, n + 1, 0, q, c + 1, ?_, by omega, ?_⟩)
      · rw [upd_r, if_neg (by decide), upd_r, if_neg (by decide)]
      · refine PI.tk ?_ hT
        dsimp only
        rw [pt_at]
        have k5 : c5 (upd (g 31) n 5) (n + 1) = c5 (g 31) n + 1 := by show c5 _ n + _ = _; rw [c5_u (Nat.le_refl _), upd_r, if_pos rfl]; rfl
        have k6 : c6 (upd (g 31) n 5) (n + 1) = c6 (g 31) n := by show c6 _ n + _ = _; rw [c6_u (Nat.le_refl _), upd_r, if_pos rfl]; rfl
        have kz : cz (upd (g 31) n 5) (n + 1) = cz (g 31) n := by show cz _ n + _ = _; rw [cz_u (Nat.le_refl _), upd_r, if_pos rfl]; rfl
        refine ⟨?_, ?_, by omega, WO_u pw (by decide), ?_, ?_, by rw [kz]; exact p8, ?_, by rw [k5, k6]; omega, by omega⟩
        · rw [upd_r, if_pos rfl]
        · rw [upd_r, if_neg (by decide), upd_r, if_neg (by decide)]; exact p37
        · rw [upd_r, if_neg (by decide), upd_r, if_neg (by decide), k6]; exact p34
        · rw [upd_r, if_neg (by decide), upd_r, if_neg (by decide), kz]; exact p35
        · rw [upd_r, if_neg (by decide), upd_r, if_neg (by decide)]; exact p23
      · dsimp only; rw [hT.1 36 (by decide) (by decide) (by decide) (by decide), upd_r, if_neg (by decide), upd_r, if_pos rfl]
  · have h8 : ¬ f 8 = 0 := fun e => absurd ((hp3.resolve_left c3).1.symm.trans e) (by decide)
    refine ⟨fun c8 => ?_, fun _ => s_X11_wrong hV (fun v f' hV' hb hv _ => ⟨hb, by rw [hv]; exact hK0 _ hV'⟩)⟩
    dsimp only at c8
    have hz : cz (g 31) n ≠ 8 := fun e => c8 (by rw [p35, e]; rfl)
    refine ⟨v, ?_⟩
    dsimp only
    rw [e33, p33, p35, nI_1, nI_1]
    refine s_X11_take (Vf (k := 33) rfl (Vf (k := 35) rfl (Vg (k := 31) rfl hV))) (fun f' hV' hT => hK1 _ ⟨hV', h8, hT.pt ?_, n + 1, 0, q, c, ?_, by omega, ?_⟩)
    · rw [upd_r, if_neg (by decide), upd_r, if_neg (by decide)]
    · refine PI.tk ?_ hT
      dsimp only
      rw [pt_at]
      have k5 : c5 (upd (g 31) n 0) (n + 1) = c5 (g 31) n := by show c5 _ n + _ = _; rw [c5_u (Nat.le_refl _), upd_r, if_pos rfl]; rfl
      have k6 : c6 (upd (g 31) n 0) (n + 1) = c6 (g 31) n := by show c6 _ n + _ = _; rw [c6_u (Nat.le_refl _), upd_r, if_pos rfl]; rfl
      have kz : cz (upd (g 31) n 0) (n + 1) = cz (g 31) n + 1 := by show cz _ n + _ = _; rw [cz_u (Nat.le_refl _), upd_r, if_pos rfl]; rfl
      refine ⟨?_, ?_, by omega, WO_u pw (by decide), ?_, ?_, by rw [kz]; omega, ?_, by rw [k5, k6]; omega, by omega⟩
      · rw [upd_r, if_pos rfl]
      · rw [upd_r, if_neg (by decide), upd_r, if_neg (by decide)]; exact p37
      · rw [upd_r, if_neg (by decide), upd_r, if_neg (by decide), k6]; exact p34
      · rw [upd_r, if_neg (by decide), upd_r, if_pos rfl, kz]
      · rw [upd_r, if_neg (by decide), upd_r, if_neg (by decide)]; exact p23
    · dsimp only; rw [hT.1 36 (by decide) (by decide) (by decide) (by decide), upd_r, if_neg (by decide), upd_r, if_neg (by decide)]; exact hc
end LR2
section SG
variable {w h : Nat} {f0 : Nat → Int32} {g0 : Nat → Nat → Int32} {f : Nat → Int32} {g : Nat → Nat → Int32} {K : Int32 → mS → Prop}
theorem sg_34 {n q c : Nat} {k0 : Int32} (h0 : k0 = 6 ∨ k0 = 7) (hV : V w h f0 g0 f g) (h8 : ¬ f 8 = 0) (hP : PI f (g 31) n 1 q c) (hc : f 36 = nI c) (hK1 : ∀ u : mS, PS w h f0 g0 f u → K 1 u) (hK0 : ∀ u : mS, V w h f0 g0 u.1 u.2 → K 0 u) : wpX11_signs_b34 f g k0 K := by
  have pB := hP.2.2.2.2.2.2.2.2.2
  unfold wpX11_signs_b34
  refine s_X11_isCounted hV hc pB (fun hc4 hV1 => ⟨fun _ => m_weight ?_, fun e => absurd e (by decide)⟩) (fun f' hV' => ⟨fun e => absurd rfl e, fun _ => hK0 _ hV'⟩)
  have hw : 1 ≤ wt k0 := by rcases h0 with rfl | rfl <;> decide
  refine s_X11_bind (n := n) (q := q) (B := c) hV1 hw (hP.fr (fun k hk => by dsimp only; rw [upd_r, if_neg (by omega)])) (fun u n' q' hVu hWu hPu hzu hfu _ => ?_)
  dsimp only at hWu hPu hzu hfu
  obtain ⟨n72, n65, q64⟩ := hPu.n
  obtain ⟨p33, p37, p1, pw, p34, p35, p8, p23, pq, _⟩ := id hPu
  have e33 : ix (u.1 33) = n' := by rw [p33]; exact ix_nI (by omega)
  refine ⟨by rw [p33]; exact vin (by omega) (by decide), ?_⟩
  rw [e33, p33, nI_1]
  refine s_X11_take (Vf (k := 37) rfl (Vf (k := 33) rfl (Vg (k := 31) rfl hVu))) (fun f' hV' hT => hK1 _ ⟨hV', h8, hT.pt ?_, n' + 1, 0, q', c + 1, ?_, by omega, ?_⟩)
  · rw [upd_r, if_neg (by decide), upd_r, if_neg (by decide), hfu 7 (by decide) (by decide) (by decide), upd_r, if_neg (by decide)]
  · refine PI.tk ?_ hT
    dsimp only
    rw [pt_at, hWu]
    have k5 : c5 (upd (g 31) n' k0) (n' + 1) = c5 (g 31) n' := by
      show c5 _ n' + _ = _; rw [c5_u (Nat.le_refl _)]
      have : upd (g 31) n' k0 n' = k0 := by rw [upd_r, if_pos rfl]
      rw [this]; rcases h0 with rfl | rfl <;> rfl
    have k6 : c6 (upd (g 31) n' k0) (n' + 1) = c6 (g 31) n' + 1 := by
      show c6 _ n' + _ = _; rw [c6_u (Nat.le_refl _)]
      have : upd (g 31) n' k0 n' = k0 := by rw [upd_r, if_pos rfl]
      rw [this, if_pos h0]
    have kz : cz (upd (g 31) n' k0) (n' + 1) = cz (g 31) n' := by
      show cz _ n' + _ = _; rw [cz_u (Nat.le_refl _)]
      have : upd (g 31) n' k0 n' = k0 := by rw [upd_r, if_pos rfl]
      rw [this]; rcases h0 with rfl | rfl <;> rfl
    refine ⟨?_, ?_, by omega, WO_u pw (by rcases h0 with e | e <;> simp [e]), ?_, ?_, by rw [kz]; exact p8, ?_, by rw [k5, k6]; omega, by omega⟩
    · rw [upd_r, if_neg (by decide), upd_r, if_pos rfl]
    · rw [upd_r, if_pos rfl]; rfl
    · rw [upd_r, if_neg (by decide), upd_r, if_neg (by decide), k6]; exact p34
    · rw [upd_r, if_neg (by decide), upd_r, if_neg (by decide), kz]; exact p35
    · rw [upd_r, if_neg (by decide), upd_r, if_neg (by decide)]; exact p23
  · dsimp only; rw [hT.1 36 (by decide) (by decide) (by decide) (by decide), upd_r, if_neg (by decide), upd_r, if_neg (by decide), hfu 36 (by decide) (by decide) (by decide), upd_r, if_pos rfl]
theorem wt_0 {k : Int32} (h : k = 0 ∨ k = 5 ∨ k = 6 ∨ k = 7) (hw : wt k < 1) : k = 0 := by
  rcases h with rfl | rfl | rfl | rfl
  · rfl
  · exact absurd hw (by decide)
  · exact absurd hw (by decide)
  · exact absurd hw (by decide)
theorem s_X11_signs {n q c : Nat} (hV : V w h f0 g0 f g) (hP : PI f (g 31) n 1 q c) (hc : f 36 = nI c) (hK1 : ∀ u : mS, PS w h f0 g0 f u → K 1 u) (hK0 : ∀ u : mS, V w h f0 g0 u.1 u.2 → K 0 u) : wpX11_signs f g K := by
  have pB := hP.2.2.2.2.2.2.2.2.2
  have k8 : ∀ {r x : Int32}, (r = 0 ∨ (f 8 = 1 ∧ f 9 = x)) → ¬ r = 0 → ¬ f 8 = 0 := fun hp hr => by rw [(hp.resolve_left hr).1]; decide
  have wr : wpX11_signs_b99 f g K := by
    unfold wpX11_signs_b99
    exact s_X11_wrong hV (fun v f' hV' hb hv _ => ⟨hb, by rw [hv]; exact hK0 _ hV'⟩)
  have s18 : ¬ f 8 = 0 → wpX11_signs_b18 f g K := fun h8 => by
    unfold wpX11_signs_b18
    exact ⟨fun _ => sg_34 (Or.inr rfl) hV h8 hP hc hK1 hK0, fun _ => sg_34 (Or.inl rfl) hV h8 hP hc hK1 hK0⟩
  unfold wpX11_signs wpX11_signs_b0
  refine s_X11_isKey hV (fun r3 _ hp3 => ⟨fun d => s18 (k8 hp3 d), fun _ => ?_⟩)
  refine s_X11_isKey hV (fun r12 _ hp12 => ⟨fun _ => ?_, fun d => s18 (k8 hp12 d)⟩)
  refine s_X11_isSign hV (fun r86 _ hp86 => ⟨fun _ => wr, fun d => ⟨fun c0 => ?_, fun _ => wr⟩⟩)
  have h8 : ¬ f 8 = 0 := fun e => absurd ((hp86.resolve_left d).1.symm.trans e) (by decide)
  dsimp only at c0 ⊢
  refine s_X11_bind (n := n) (q := q) (B := c) hV (by decide) hP (fun u n' q' hVu hWu hPu hzu hfu htop => ?_)
  obtain ⟨n72, n65, q64⟩ := hPu.n
  obtain ⟨p33, p37, p1, pw, p34, p35, p8, p23, pq, _⟩ := id hPu
  have hz1 : cz (g 31) n ≠ 0 := fun e => c0 (by rw [hP.2.2.2.2.2.1, e]; rfl)
  have hn0 : n' ≠ 0 := fun e => by subst e; rw [← hzu] at hz1; exact hz1 rfl
  obtain ⟨m, rfl⟩ : ∃ m, n' = m + 1 := ⟨n' - 1, by omega⟩
  have ht : g 31 m = 0 := wt_0 (pw m (by omega)) (by simpa using htop.resolve_left hn0)
  have kz : cz (g 31) (m + 1) = cz (g 31) m + 1 := by show cz (g 31) m + _ = _; rw [if_pos ht]
  have k5 : c5 (g 31) (m + 1) = c5 (g 31) m := by show c5 (g 31) m + _ = _; rw [if_neg (by rw [ht]; decide), Nat.add_zero]
  have k6 : c6 (g 31) (m + 1) = c6 (g 31) m := by show c6 (g 31) m + _ = _; rw [if_neg (by rw [ht]; decide), Nat.add_zero]
  have e35 : u.1 35 - 1 = nI (cz (g 31) m) := by rw [p35, kz, nI_pred]
  have e33 : u.1 33 - 1 = nI m := by rw [p33, nI_pred]
  rw [e35, e33]
  refine s_X11_take (Vf (k := 35) rfl (Vf (k := 33) rfl hVu)) (fun f' hV' hT => hK1 _ ⟨hV', h8, hT.pt ?_, m, 1, q', c, ?_, by omega, ?_⟩)
  · rw [upd_r, if_neg (by decide), upd_r, if_neg (by decide), hfu 7 (by decide) (by decide) (by decide)]
  · refine PI.tk ?_ hT
    rw [hWu]
    refine ⟨?_, ?_, by omega, fun i hi => pw i (by omega), ?_, ?_, by omega, ?_, by omega, by omega⟩
    · rw [upd_r, if_neg (by decide), upd_r, if_pos rfl]
    · rw [upd_r, if_neg (by decide), upd_r, if_neg (by decide)]; exact p37
    · rw [upd_r, if_neg (by decide), upd_r, if_neg (by decide), ← k6]; exact p34
    · rw [upd_r, if_pos rfl]
    · rw [upd_r, if_neg (by decide), upd_r, if_neg (by decide)]; exact p23
  · dsimp only; rw [hT.1 36 (by decide) (by decide) (by decide) (by decide), upd_r, if_neg (by decide), upd_r, if_neg (by decide), hfu 36 (by decide) (by decide) (by decide)]; exact hc
end SG
/-- what is left of a text -/
def mt (f : Nat → Int32) : Nat := (2 * (500 - (f 7).toInt) + (if f 8 = 0 then 0 else 1)).toNat
theorem mt_lt {f f' : Nat → Int32} (h8 : ¬ f 8 = 0) (hp : PT f f') (h5 : f' 7 ≤ 500) : mt f' < mt f := by
  unfold mt
  rw [if_neg h8]
  have h1 := hp.1
  rw [Int32.le_iff_toInt_le] at h1 h5
  have e5 : (500 : Int32).toInt = 500 := rfl
  rw [e5] at h5
  rcases hp.2 with h2 | h2
  · rw [if_pos h2]; omega
  · rw [Int32.lt_iff_toInt_lt] at h2
    split <;> omega
theorem PT.tr {a b c : Nat → Int32} (h1 : PT a b) (h2 : PT b c) : PT a c := by
  refine ⟨Int32.le_trans h1.1 h2.1, h2.2.imp id (fun q => ?_)⟩
  have := h1.1
  grind
/-- behind a part -/
def QS (w h : Nat) (f0 : Nat → Int32) (g0 : Nat → Nat → Int32) (f : Nat → Int32) (u : mS) : Prop := V w h f0 g0 u.1 u.2 ∧ PT f u.1 ∧ u.1 23 ≤ u.1 36
section PR
variable {w h : Nat} {f0 : Nat → Int32} {g0 : Nat → Nat → Int32} {K : Int32 → mS → Prop} {x1 : Int32}
theorem l_X11_partRead_b33 {a : Nat → Int32} (hx : 0 ≤ x1 ∧ x1 < 24) (hK1 : ∀ u : mS, QS w h f0 g0 a u → K 1 u) (hK0 : ∀ u : mS, V w h f0 g0 u.1 u.2 → K 0 u) (m : Nat) : ∀ (f : Nat → Int32) (g : Nat → Nat → Int32) (n t q c : Nat), V w h f0 g0 f g → PI f (g 31) n t q c → c ≤ 64 → f 36 = nI c → a 7 ≤ f 7 → mt f < m → wpX11_partRead_b33 m f g x1 K := by
  induction m with
  | zero => intro f g n t q c _ _ _ _ _ hm; exact absurd hm (Nat.not_lt_zero _)
  | succ m ih =>
    intro f g n t q c hV hP hc4 hc ha hm
    obtain ⟨p33, p37, p1, pw, p34, p35, p8, p23, pq, pB⟩ := id hP
    have step : wpX11_partRead_b56 (fun f g x1 => wpX11_partRead_b33 m f g x1 K) f g x1 K := by
      unfold wpX11_partRead_b56 wpX11_partRead_b80
      have nx : ∀ u : mS, PS w h f0 g0 f u → wpX11_partRead_b33 m u.1 u.2 x1 K := fun u hu => by
        obtain ⟨hVu, h8, hT, n', t', q', c', hP', hc', hc6⟩ := hu
        have b7 := hVu.b7
        have b6 := hVu.b6
        exact ih u.1 u.2 n' t' q' c' hVu hP' hc' hc6 (Int32.le_trans ha hT.1) (lt1 (mt_lt h8 hT (Int32.le_trans b7.2 b6.2)) hm)
      refine ⟨fun c0 => ?_, fun c0 => ?_⟩
      · have ht : t = 1 := by
          rcases (by omega : t = 0 ∨ t = 1) with e | e
          · subst e; exact absurd p37 c0
          · exact e
        subst ht
        exact s_X11_signs hV hP hc (fun u hu => ⟨fun _ => nx u hu, fun e => absurd e (by decide)⟩) (fun u hu => ⟨fun e => absurd rfl e, fun _ => hK0 _ hu⟩)
      · have ht : t = 0 := by
          rcases (by omega : t = 0 ∨ t = 1) with e | e
          · exact e
          · subst e; rw [p37] at c0; exact absurd c0 (by decide)
        subst ht
        exact s_X11_leafRead hV hP hc (fun u hu => ⟨fun e => absurd e (by decide), fun _ => nx u hu⟩) (fun u hu => ⟨fun _ => hK0 _ hu, fun e => absurd rfl e⟩)
    unfold wpX11_partRead_b33 wpX11_partRead_b33_body
    refine s_X11_isSign hV (fun r _ hp => ⟨fun _ => step, fun d => ⟨fun _ => step, fun c0 => ⟨fun c1 => ?_, fun _ => step⟩⟩⟩)
    dsimp only at c0 c1 ⊢
    have ht : t = 1 := by
      rcases (by omega : t = 0 ∨ t = 1) with e | e
      · subst e; exact absurd p37 c0
      · exact e
    subst ht
    have hz : cz (g 31) n = 0 := by
      rw [p35] at c1
      rcases Nat.eq_zero_or_pos (cz (g 31) n) with e | e
      · exact e
      · exact absurd c1 (nI_nle e (by omega))
    refine s_X11_bind (n := n) (q := q) (B := c) hV (by decide) hP (fun u n' q' hVu hWu hPu hzu hfu htop => ?_)
    have hn0 : n' = 0 := by
      rcases Nat.eq_zero_or_pos n' with e | e
      · exact e
      · obtain ⟨k, rfl⟩ : ∃ k, n' = k + 1 := ⟨n' - 1, by omega⟩
        have h0 : g 31 k = 0 := wt_0 (hPu.2.2.2.1 k (by omega)) (by simpa using htop.resolve_left (by omega))
        have kz : cz (g 31) (k + 1) = cz (g 31) k + 1 := by show cz (g 31) k + _ = _; rw [if_pos h0]
        omega
    subst hn0
    have p23' := hPu.2.2.2.2.2.2.2.1
    have pq' : q' + 0 + 0 ≤ c := hPu.2.2.2.2.2.2.2.2.1
    have hq : 0 ≤ u.1 23 ∧ u.1 23 ≤ 64 := hVu.b23
    have h36 : u.1 36 = nI c := by rw [hfu 36 (by decide) (by decide) (by decide)]; exact hc
    refine ⟨vI (c := 48) rfl (by grind) (by grind), ?_⟩
    refine s_X11_take (Vg26 hq hVu) (fun f' hV' hT => hK1 _ ⟨hV', ⟨?_, ?_⟩, ?_⟩)
    · have h7 := hT.2.1
      rw [hfu 7 (by decide) (by decide) (by decide)] at h7
      exact Int32.le_trans ha h7
    · have h7 := hT.2.2
      rw [hfu 7 (by decide) (by decide) (by decide)] at h7
      exact h7.imp id (fun e => by have := ha; grind)
    · show f' 23 ≤ f' 36
      rw [hT.1 23 (by decide) (by decide) (by decide) (by decide), hT.1 36 (by decide) (by decide) (by decide) (by decide), h36, p23']
      exact nI_le (by omega) (by omega)
theorem s_X11_partRead {f : Nat → Int32} {g : Nat → Nat → Int32} (hV : V w h f0 g0 f g) (hx : 0 ≤ x1 ∧ x1 < 24) (hQ : f 23 ≤ f 36) (hK1 : ∀ u : mS, QS w h f0 g0 f u → K 1 u) (hK0 : ∀ u : mS, V w h f0 g0 u.1 u.2 → K 0 u) : wpX11_partRead f g x1 K := by
  unfold wpX11_partRead wpX11_partRead_b0
  have hq := hV.b23
  obtain ⟨q, hq4, e23⟩ := i_mid (n := 64) (hi := 64) rfl hq.1 hq.2
  obtain ⟨c, hc4, e36⟩ := c64 hV
  have hqc : q ≤ c := by rw [e23, e36, nI_leI (by omega) (by omega)] at hQ; exact hQ
  refine ⟨vI (c := 48) rfl (by grind) (by grind), _, l_X11_partRead_b33 (a := f) hx hK1 hK0 _ _ _ 0 0 q c (Vf (k := 37) rfl (Vf (k := 35) rfl (Vf (k := 34) rfl (Vf (k := 33) rfl (Vg25 hq hV))))) ⟨?_, ?_, by omega, fun i hi => by omega, ?_, ?_, by show 0 ≤ 8; omega, ?_, hqc, hc4⟩ hc4 ?_ ?_ (Nat.lt_succ_self _)⟩
  · simp [upd_r]; rfl
  · simp [upd_r]; rfl
  · simp [upd_r]; rfl
  · simp [upd_r]; rfl
  · simp [upd_r]; exact e23
  · simp [upd_r]; exact e36
  · simp [upd_r]
end PR
