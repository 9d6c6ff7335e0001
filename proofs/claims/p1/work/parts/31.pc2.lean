/-! The class on a fresh object: ticks, looks, scouts. -/
theorem x_yes {a : Nat} {F : Nat → Nat → Int32} {L : Nat → Nat → Int64} {r : Nat → Nat → Nat} {x : Int32} {K : Int32 → cS → Prop} (hk : ∀ v, K v (F, L, r)) : wpX3_yesesOf a F L r x K := by
  unfold wpX3_yesesOf wpX3_yesesOf_b0
  refine lpi (w := fun n v i => wpX3_yesesOf_b4 a n F L r x v i K) (fun _ _ => True) 3 trivial (fun n v _ => ?_) (fun n i v hi _ ih => ?_)
  · unfold wpX3_yesesOf_b4 wpX3_yesesOf_b4_body
    exact ⟨fun _ => hk _, fun hc => absurd (Int32.le_refl _) hc⟩
  · unfold wpX3_yesesOf_b4 wpX3_yesesOf_b4_body
    refine ⟨fun hc => absurd hc (nI_ge hi (by decide)), fun _ => ⟨vin (by omega) (by decide), fun y _ => ?_⟩⟩
    rw [nI_1]
    exact ih _ trivial
theorem yes0 : ∀ s, s < 25 → ∀ i, i < 3 → (0 : Int32) ||| (jshl (Int64.toInt32 ((jlushr 0 (nI s)) &&& (1 : Int64))) (nI i)) = 0 := by decide +kernel
theorem x_yes0 {a : Nat} {F : Nat → Nat → Int32} {L : Nat → Nat → Int64} {r : Nat → Nat → Nat} {s : Nat} {K : Int32 → cS → Prop} (hs : s < 25) (hL : ∀ j, L (a + 1) j = 0) (hk : K 0 (F, L, r)) : wpX3_yesesOf a F L r (nI s) K := by
  unfold wpX3_yesesOf wpX3_yesesOf_b0
  refine lpi (w := fun n v i => wpX3_yesesOf_b4 a n F L r (nI s) v i K) (fun _ v => v = 0) 3 rfl (fun n v hv => ?_) (fun n i v hi hv ih => ?_)
  · subst hv
    unfold wpX3_yesesOf_b4 wpX3_yesesOf_b4_body
    exact ⟨fun _ => hk, fun hc => absurd (Int32.le_refl _) hc⟩
  · subst hv
    unfold wpX3_yesesOf_b4 wpX3_yesesOf_b4_body
    refine ⟨fun hc => absurd hc (nI_ge hi (by decide)), fun _ => ⟨vin (by omega) (by decide), fun y hy => ?_⟩⟩
    rw [hL, yes0 s hs i hi] at hy
    rw [nI_1]
    exact ih _ hy
theorem x_signs {a a1 : Nat} {F : Nat → Nat → Int32} {L : Nat → Nat → Int64} {r : Nat → Nat → Nat} {K : Int32 → cS → Prop} (hk : ∀ v, K v (F, L, r)) : wpX3_signs a a1 F L r K := by
  have h40 : ∀ v, wpX3_signs_b40 a a1 F L r v K := fun v => by
    unfold wpX3_signs_b40 wpX3_signs_b57 wpX3_wayOf wpX3_wayOf_b0 wpX3_signs_b78
    exact ⟨fun _ => ⟨fun _ => hk _, fun _ => hk _⟩, fun _ => ⟨fun _ => hk _, fun _ => hk _⟩⟩
  unfold wpX3_signs wpX3_signs_b0
  exact x_yes (fun v y _ => x_walled (fun _ => ⟨fun _ => h40 _, fun _ => h40 _⟩) (fun _ => ⟨fun _ => h40 _, fun _ => h40 _⟩))
theorem x_line0 {a : Nat} {F : Nat → Nat → Int32} {L : Nat → Nat → Int64} {r : Nat → Nat → Nat} {x y : Int32} {K : Int32 → cS → Prop} (h0 : F a 0 = 0) (hk : K (-1) (F, L, r)) : wpX6_lineFor a F L r x y K := by
  unfold wpX6_lineFor wpX6_lineFor_b0
  refine ⟨1, ?_⟩
  unfold wpX6_lineFor_b2 wpX6_lineFor_b2_body
  rw [h0]
  exact ⟨fun _ => hk, fun hc => absurd (by decide) hc⟩
theorem x_obey {a a1 a2 : Nat} {F : Nat → Nat → Int32} {L : Nat → Nat → Int64} {r : Nat → Nat → Nat} {K : cS → Prop} (h0 : F a1 0 = 0) (hk : K (pt F a 6 (-1), L, r)) : wpX3_obey a a1 a2 F L r K := by
  unfold wpX3_obey wpX3_obey_b0
  refine x_signs (fun v => x_line0 h0 ⟨fun hc => ?_, fun _ => hk⟩)
  exfalso
  revert hc
  simp [pt_r]
theorem x_tick {K : Int32 → cS → Prop} {x : Int32} (hk : ∀ u, K (if 0 ≤ x ∧ x ≤ 5000 then 0 else -1) u) : wpX10_tick cF0 cL0 cr0 x K := by
  unfold wpX10_tick wpX10_tick_b0 wpX10_tick_b11
  refine ⟨fun h => ?_, fun h1 => ⟨fun h2 => ?_, fun h => ?_⟩⟩
  · rw [if_neg (fun hc => absurd hc.1 (Int32.not_le.mpr h))] at hk; exact hk _
  · rw [if_pos ⟨i_nlt h1, h2⟩] at hk
    obtain ⟨j, hj, rfl⟩ := i_mid (n := 5000) rfl (i_nlt h1) h2
    refine lpi (w := fun n F x => wpX10_tick_b17 n F cL0 cr0 (nI j) 0 x K) (fun _ F => F 17 0 = 0) j rfl (fun n f _ => ?_) (fun n i f hi hf ih => ?_)
    · unfold wpX10_tick_b17 wpX10_tick_b17_body
      exact ⟨fun _ => hk _, fun hc => absurd (Int32.le_refl _) hc⟩
    · unfold wpX10_tick_b17 wpX10_tick_b17_body wpX10_tick_b51
      refine ⟨fun hc => absurd hc (nI_ge hi (by omega)), fun _ => ⟨(by show kd 17 = 6; decide), x_obey hf ⟨fun _ => ?_, fun hc => ?_⟩⟩⟩
      · rw [nI_1]
        exact ih _ (by simp [pt_r, hf])
      · exfalso
        apply hc
        simp [pt_r]
  · rw [if_neg (fun hc => absurd hc.2 h)] at hk; exact hk _
theorem x_arrN {a a1 a2 : Nat} {F : Nat → Nat → Int32} {L : Nat → Nat → Int64} {r : Nat → Nat → Nat} {x : Int32} {K : Int32 → cS → Prop} (h0 : F a1 0 = 0) (hb : ¬ F a 0 = F a2 3) (hk : ∀ v, K (-2) (F, L, r) ∧ K (-2) (pt F a 6 v, L, r)) : wpX3_arrive a a1 a2 F L r x K := by
  unfold wpX3_arrive wpX3_arrive_b0
  refine ⟨1, ?_⟩
  unfold wpX3_arrive_b3 wpX3_arrive_b3_body wpX3_arrive_b63
  refine ⟨fun _ => ⟨fun _ => (hk 0).1, fun hc => absurd hc hb⟩, fun _ => ⟨fun _ => x_obey h0 ⟨fun hc => ?_, fun _ => (hk _).2⟩, fun hc => absurd hc hb⟩⟩
  exfalso
  apply hc
  simp [pt_r]
theorem x_arrB {a a1 a2 : Nat} {F : Nat → Nat → Int32} {L : Nat → Nat → Int64} {r : Nat → Nat → Nat} {x : Int32} {K : Int32 → cS → Prop} (hx : ¬ x < 0) (hb : F a 0 = F a2 3) (hk : K 0 (F, L, r)) : wpX3_arrive a a1 a2 F L r x K := by
  unfold wpX3_arrive wpX3_arrive_b0
  refine ⟨1, ?_⟩
  unfold wpX3_arrive_b3 wpX3_arrive_b3_body wpX3_arrive_b63
  refine ⟨fun h => ⟨fun hc => absurd hb hc, fun _ => ?_⟩, fun _ => ⟨fun hc => absurd hb hc, fun _ => hk⟩⟩
  rw [i_z hx h]
  exact hk
theorem x_run {K : Int32 → cS → Prop} {x : Int32} (hk : ∀ u, K (if 0 ≤ x ∧ x ≤ 5000 then -2 else -1) u) : wpX10_run cF0 cL0 cr0 x K := by
  unfold wpX10_run wpX10_run_b0 wpX10_run_b11
  refine ⟨fun h => ?_, fun h1 => ⟨fun h2 => ?_, fun h => ?_⟩⟩
  · rw [if_neg (fun hc => absurd hc.1 (Int32.not_le.mpr h))] at hk; exact hk _
  · rw [if_pos ⟨i_nlt h1, h2⟩] at hk
    exact ⟨by decide, x_arrN rfl (by decide) (fun v => ⟨hk _, hk _⟩)⟩
  · rw [if_neg (fun hc => absurd hc.2 h)] at hk; exact hk _
theorem x_mouse {K : Int32 → cS → Prop} {x : Int32} (hk : ∀ u, K (if 0 ≤ x ∧ x ≤ 3 then 0 else -1) u) : wpX10_mouse cF0 cL0 cr0 x K := by
  unfold wpX10_mouse wpX10_mouse_b0
  refine ⟨fun h => ?_, fun h => ?_, fun h => ?_, fun h => ?_, fun h => ?_, fun h => ?_⟩
  · subst h; exact hk _
  · subst h; exact hk _
  · subst h; exact hk _
  · subst h; exact hk _
  · subst h; exact hk _
  · rw [if_neg] at hk
    · exact hk _
    · rintro ⟨a, b⟩
      rw [Int32.le_iff_toInt_le] at a b
      have e0 : (0 : Int32).toInt = 0 := rfl
      have e3 : (3 : Int32).toInt = 3 := rfl
      omega
def zw (s : Nat) : Nat → Int32
  | 0 => 0
  | i + 1 => if lg_cmp ((jlushr (cL0 47 (ix (nI i &&& 3))) (nI s)) &&& 1) 0 = 0 then zw s i else zw s i ||| jshl 1 (nI i)
theorem zw_5 : ∀ s, s < 25 → zw s 4 = W5 s := by decide +kernel
theorem x_wallsOf {K : Int32 → cS → Prop} {s : Nat} (hs : s < 25) (hk : K (W5 s) (cF0, cL0, cr0)) : wpX1_wallsOf 46 cF0 cL0 cr0 (nI s) K := by
  unfold wpX1_wallsOf wpX1_wallsOf_b0
  refine lpz (w := fun n v x => wpX1_wallsOf_b4 46 n cF0 cL0 cr0 (nI s) v x K) (zw s) 4 rfl (fun n => ?_) (fun n i hi ih => ?_)
  · unfold wpX1_wallsOf_b4 wpX1_wallsOf_b4_body
    rw [zw_5 s hs]
    exact ⟨fun _ => hk, fun hc => absurd (Int32.le_refl _) hc⟩
  · unfold wpX1_wallsOf_b4 wpX1_wallsOf_b4_body wpX1_wallsOf_b24
    refine ⟨fun hc => absurd hc (nI_ge hi (by decide)), fun _ => x_walled (fun h => ⟨fun _ => ?_, fun hc => absurd rfl hc⟩) (fun h => ⟨fun hc => absurd hc (by decide), fun _ => ?_⟩)⟩
    · have e : zw s (i + 1) = zw s i := if_pos h
      rw [e] at ih
      rw [nI_1]
      exact ih
    · have e : zw s (i + 1) = zw s i ||| jshl 1 (nI i) := if_neg h
      rw [e] at ih
      rw [nI_1]
      exact ih
def spr (x1 : Int64) : Int64 := (((x1 ||| (jlushr (x1 &&& ((cL0 47 0) ^^^ (-1 : Int64))) 5)) ||| (jlshl (x1 &&& ((cL0 47 1) ^^^ (-1 : Int64))) (1))) ||| (jlshl (x1 &&& ((cL0 47 2) ^^^ (-1 : Int64))) 5)) ||| (jlushr (x1 &&& ((cL0 47 3) ^^^ (-1 : Int64))) (1))
theorem x_spread {K : Int64 → cS → Prop} {v : Int64} (hk : K (spr v) (cF0, cL0, cr0)) : wpX1_spread 46 cF0 cL0 cr0 v K := by
  unfold wpX1_spread wpX1_spread_b0
  exact ⟨vin (n := 0) (by decide) (by decide), vin (n := 1) (by decide) (by decide), vin (n := 2) (by decide) (by decide), vin (n := 3) (by decide) (by decide), hk⟩
def zf (s : Nat) : Nat → Int64
  | 0 => jlshl 1 (nI s)
  | i + 1 => spr (zf s i)
def dN (s : Nat) : Nat := (D5.getD s 0).toInt.toNat
theorem zf_5 : ∀ s, s < 25 → (dN s < 25 ∧ nI (dN s) = D5.getD s 0 ∧ ¬ lg_cmp ((jlushr (zf s (dN s)) 24) &&& (1 : Int64)) 0 = 0) ∧ ∀ i, i < dN s → lg_cmp ((jlushr (zf s i) 24) &&& (1 : Int64)) 0 = 0 := by decide +kernel
theorem x_far {K : Int32 → cS → Prop} {s : Nat} (hs : s < 25) (hk : K (D5.getD s 0) (cF0, cL0, cr0)) : wpX1_far 46 cF0 cL0 cr0 (nI s) K := by
  unfold wpX1_far wpX1_far_b0
  obtain ⟨⟨h1, h2, h3⟩, h4⟩ := zf_5 s hs
  refine lpz (w := fun n v x => wpX1_far_b7 46 n cF0 cL0 cr0 v x K) (zf s) (dN s) rfl (fun n => ?_) (fun n i hi ih => ?_)
  · unfold wpX1_far_b7 wpX1_far_b7_body
    refine ⟨fun hc => absurd hc (nI_ge h1 (by decide)), fun _ => ⟨fun hc => absurd hc h3, fun _ => ?_⟩⟩
    rw [h2]
    exact hk
  · unfold wpX1_far_b7 wpX1_far_b7_body
    refine ⟨fun hc => absurd hc (nI_ge (b := 25) (by omega) (by decide)), fun _ => ⟨fun _ => x_spread ?_, fun hc => absurd (h4 i hi) hc⟩⟩
    rw [nI_1]
    exact ih
theorem way0 : ∀ s, s < 25 → (Int64.toInt32 ((jlushr (0 : Int64) (nI s)) &&& (1 : Int64))) + ((2) * (Int64.toInt32 ((jlushr (0 : Int64) (nI s)) &&& (1 : Int64)))) = 0 := by decide +kernel
theorem x_way0 {a : Nat} {F : Nat → Nat → Int32} {L : Nat → Nat → Int64} {r : Nat → Nat → Nat} {s : Nat} {K : Int32 → cS → Prop} (hs : s < 25) (h4 : L a 4 = 0) (h5 : L a 5 = 0) (hk : K 0 (F, L, r)) : wpX3_wayOf a F L r (nI s) K := by
  unfold wpX3_wayOf wpX3_wayOf_b0
  rw [h4, h5, way0 s hs]
  exact hk
def zr : Nat → Int64
  | 0 => jlshl 1 24
  | i + 1 => spr (zr i)
theorem zr_5 : ∀ s, s < 25 → ¬ lg_cmp ((jlushr (zr 24) (nI s)) &&& (1 : Int64)) 0 = 0 := by decide +kernel
theorem x_reach {K : Int64 → cS → Prop} (hk : K (zr 24) (cF0, cL0, cr0)) : wpX1_reach 46 cF0 cL0 cr0 K := by
  unfold wpX1_reach wpX1_reach_b0
  refine lp (w := fun n i => wpX1_reach_b9 46 n cF0 cL0 cr0 (zr i) (nI (i + 1)) K) 24 (fun n => ?_) (fun n i hi ih => ?_)
  · unfold wpX1_reach_b9 wpX1_reach_b9_body
    exact ⟨fun _ => hk, fun hc => absurd (Int32.le_refl _) hc⟩
  · unfold wpX1_reach_b9 wpX1_reach_b9_body
    refine ⟨fun hc => absurd hc (nI_ge (b := 25) (by omega) (by decide)), fun _ => x_spread ?_⟩
    rw [nI_1]
    exact ih
/-- what a scout's run leaves -/
def Sc (F : Nat → Nat → Int32) (L : Nat → Nat → Int64) : Prop := (∀ p, p ≠ 84 → F p = cF0 p) ∧ ∀ p, p ≠ 84 → p ≠ 85 → L p = cL0 p
theorem x_scout {F : Nat → Nat → Int32} {L : Nat → Nat → Int64} {x y : Int32} {K : Int32 → cS → Prop} (hS : Sc F L) (h1 : ¬ x = 24 → ∀ F' L', Sc F' L' → K (-2) (F', L', cr0)) (h2 : x = 24 → ∀ F' L', Sc F' L' → F' 84 7 = 0 → K 0 (F', L', cr0)) : wpX10_scoutRun F L cr0 x y K := by
  have h23 : ∀ F' L', Sc F' L' → F' 84 0 = x → wpX10_scoutRun_b23 F' L' cr0 K := fun F' L' hS' e0 => by
    unfold wpX10_scoutRun_b23
    refine ⟨(by show kd 17 = 6; decide), ?_⟩
    have q0 : pt F' 84 7 0 17 0 = 0 := by rw [pt_ne (by decide), hS'.1 17 (by decide)]; rfl
    have q1 : pt F' 84 7 0 84 0 = x := by simp [pt_r, e0]
    have q2 : pt F' 84 7 0 46 3 = 24 := by rw [pt_ne (by decide), hS'.1 46 (by decide)]; rfl
    by_cases hx : x = 24
    · refine x_arrB (by decide) (by rw [q1, q2, hx]) ?_
      exact h2 hx _ _ ⟨fun p hp => by simp only [pt_ne hp]; exact hS'.1 p hp, hS'.2⟩ (by simp [pt_r])
    · refine x_arrN q0 (by rw [q1, q2]; exact hx) (fun v => ⟨?_, ?_⟩)
      · exact h1 hx _ _ ⟨fun p hp => by simp only [pt_ne hp]; exact hS'.1 p hp, hS'.2⟩
      · exact h1 hx _ _ ⟨fun p hp => by simp only [pt_ne hp]; exact hS'.1 p hp, hS'.2⟩
  unfold wpX10_scoutRun wpX10_scoutRun_b0 wpX3_setDownWiped wpX3_setDownWiped_b0 wpX3_setDown wpX3_setDown_b0
  refine ⟨fun _ => ?_, fun _ => x_clearS (fun L' hL' _ _ => ?_)⟩
  · exact h23 _ _ ⟨fun p hp => by simp only [pt_ne hp]; exact hS.1 p hp, hS.2⟩ (by simp [pt_r])
  · exact h23 _ _ ⟨fun p hp => by simp only [pt_ne hp]; exact hS.1 p hp, fun p a b => (hL' p a b).trans (hS.2 p a b)⟩ (by simp [pt_r])
theorem Sc0 : Sc cF0 cL0 := ⟨fun _ _ => rfl, fun _ _ _ => rfl⟩
theorem x_comes {K : Int32 → cS → Prop} {x : Int32} (hk : ∀ u, K (if x = 0 then 24 else if x = 1 then 0 else -1) u) : wpX10_comes cF0 cL0 cr0 x K := by
  unfold wpX10_comes wpX10_comes_b0 wpX10_comes_b9
  refine ⟨fun h => ?_, fun h1 => ⟨fun h2 => ?_, fun h => ?_⟩⟩
  · rw [if_neg (fun hc => by rw [hc] at h; exact absurd h (by decide)), if_neg (fun hc => by rw [hc] at h; exact absurd h (by decide))] at hk; exact hk _
  · refine x_reach ?_
    refine lpi (w := fun n (a : (Nat → Nat → Int32) × (Nat → Nat → Int64) × Int32 × Int32) i => wpX10_comes_b28 n a.1 a.2.1 cr0 x (zr 24) a.2.2.1 a.2.2.2 i K) (a0 := (cF0, cL0, 0, -1)) (fun i a => Sc a.1 a.2.1 ∧ a.2.2.1 = nI (min i 24) ∧ a.2.2.2 = if i = 0 then -1 else 0) 25 ⟨Sc0, rfl, rfl⟩ (fun n a ha => ?_) (fun n i a hi ha ih => ?_)
    · obtain ⟨F, L, x4, x5⟩ := a
      obtain ⟨hS, e4, e5⟩ := ha
      have hS : Sc F L := hS
      have e4 : x4 = 24 := e4
      have e6 : x5 = 0 := e5
      have h46 : F 46 = cF0 46 := hS.1 46 (by decide)
      subst e4
      unfold wpX10_comes_b28 wpX10_comes_b28_body wpX10_comes_b93
      dsimp only
      rw [h46, e6]
      refine ⟨fun _ => ⟨fun hx => ?_, fun hx => ?_⟩, fun hc => absurd (Int32.le_refl _) hc⟩
      · obtain ⟨j, hj, rfl⟩ := i_mid (n := 1) rfl (i_nlt h1) h2
        have ej : j = 1 := by
          rcases Nat.lt_or_ge j 1 with h | h
          · have : j = 0 := by omega
            subst this
            exact absurd rfl hx
          · omega
        subst ej
        exact hk _
      · rw [if_pos hx] at hk
        exact hk _
    · obtain ⟨F, L, x4, x5⟩ := a
      obtain ⟨hS, e4, e5⟩ := ha
      have hS : Sc F L := hS
      have e4 : x4 = nI (min i 24) := e4
      have e5 : x5 = if i = 0 then -1 else 0 := e5
      unfold wpX10_comes_b28 wpX10_comes_b28_body wpX10_comes_b76
      dsimp only
      rw [hS.1 46 (by decide)]
      refine ⟨fun hc => absurd hc (nI_ge (b := 25) hi (by decide)), fun _ => ⟨fun hc => absurd hc (zr_5 i hi), fun _ => ?_⟩⟩
      refine x_scout hS (fun hx F' L' hS' => ⟨fun hc => absurd rfl hc, fun _ => ?_⟩) (fun hx F' L' hS' _ => ⟨fun _ => ?_, fun hc => absurd hc (by decide)⟩)
      · have h24 : i < 24 := by
          rcases Nat.lt_or_ge i 24 with h | h
          · exact h
          · have : i = 24 := by omega
            subst this
            exact absurd rfl hx
        have m1 : min i 24 = i := by omega
        have m2 : min (i + 1) 24 = i + 1 := by omega
        rw [nI_1]
        refine ⟨fun hc => ih (F', L', x4 + 1, x5) ⟨hS', ?_, ?_⟩, fun hc => ih (F', L', x4 + 1, nI i) ⟨hS', ?_, ?_⟩⟩
        · show x4 + 1 = _
          rw [e4, m1, m2, nI_1]
        · show x5 = _
          rw [e5, if_neg (show ¬ i + 1 = 0 by omega)]
          by_cases h0 : i = 0
          · rw [if_pos h0] at e5; exact absurd e5 hc
          · rw [if_neg h0]
        · show x4 + 1 = _
          rw [e4, m1, m2, nI_1]
        · show nI i = _
          rw [if_neg (show ¬ i + 1 = 0 by omega)]
          by_cases h0 : i = 0
          · rw [h0]; rfl
          · rw [if_neg h0, hc] at e5; exact absurd e5 (by decide)
      · have ei : i = 24 := (nI_eq (by omega) (by omega)).mp (show nI i = nI 24 from hx)
        subst ei
        exact ih (F', L', x4, x5) ⟨hS', e4, e5⟩
  · rw [if_neg (fun hc => by rw [hc] at h; exact absurd (by decide) h), if_neg (fun hc => by rw [hc] at h; exact absurd (by decide) h)] at hk; exact hk _
theorem x_second {K : Int32 → cS → Prop} {x y : Int32} (hk : ∀ u, K (if (¬ x < 0 ∧ ¬ (25 : Int32) ≤ x) ∧ 0 ≤ y ∧ y ≤ 3 then (if x = 24 then 0 else -2) else -1) u) : wpX10_second cF0 cL0 cr0 x y K := by
  unfold wpX10_second wpX10_second_b0 wpX10_second_b20
  refine x_has (fun h1 h2 => ⟨fun hc => absurd hc (by decide), fun _ => ⟨fun h => ?_, fun h3 => ⟨fun h4 => ?_, fun h => ?_⟩⟩⟩) (fun h => ⟨fun _ => ?_, fun hc => absurd rfl hc⟩)
  · rw [if_neg (fun hc => absurd hc.2.1 (Int32.not_le.mpr h))] at hk; exact hk _
  · rw [if_pos ⟨⟨h1, h2⟩, i_nlt h3, h4⟩] at hk
    have bN : ∀ F L, ¬ x = 24 → wpX10_second_b64 F L cr0 y (-2) K := fun F L hx => by
      rw [if_neg hx] at hk
      exact ⟨fun hc => absurd rfl hc, fun _ => hk _⟩
    have bB : ∀ F L, x = 24 → F 84 7 = 0 → wpX10_second_b64 F L cr0 y 0 K := fun F L hx e => by
      rw [if_pos hx] at hk
      unfold wpX10_second_b64 wpX10_second_b89
      rw [e]
      exact ⟨fun _ => ⟨fun _ => hk _, fun _ => hk _⟩, fun hc => absurd hc (by decide)⟩
    refine x_scout Sc0 (fun hx F L hS => ?_) (fun hx F L hS e7 => ?_)
    · unfold wpX10_second_b39 wpX10_second_b44
      exact ⟨fun _ => ⟨fun _ => bN _ _ hx, fun _ => ⟨fun _ => bN _ _ hx, fun hc => absurd rfl hc⟩⟩, fun _ => ⟨fun _ => ⟨fun _ => bN _ _ hx, fun _ => ⟨fun _ => bN _ _ hx, fun hc => absurd rfl hc⟩⟩, fun _ => ⟨fun _ => bN _ _ hx, fun _ => ⟨fun _ => bN _ _ hx, fun hc => absurd rfl hc⟩⟩⟩⟩
    · have bS : wpX10_second_b44 F L cr0 1 x y 0 K := ⟨fun hc => absurd hc (by decide), fun _ => ⟨fun hc => absurd hc (by decide), fun _ => x_scout hS (fun hc => absurd hx hc) (fun _ F' L' _ e => bB F' L' hx e)⟩⟩
      unfold wpX10_second_b39
      exact ⟨fun _ => bS, fun _ => ⟨fun _ => ⟨fun _ => bB _ _ hx e7, fun hc => absurd rfl hc⟩, fun _ => bS⟩⟩
  · rw [if_neg (fun hc => absurd hc.2.2 h)] at hk; exact hk _
  · rw [if_neg (fun hc => h.elim hc.1.1 hc.1.2)] at hk; exact hk _
