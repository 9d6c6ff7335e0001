/-! The class's public methods. -/
def KB (F : Nat → Nat → Int32) (sq : Int32) : Prop := F 46 2 = sq ∧ ∀ k : Nat, k < 4 → ¬ (jshr (F 0 11) (nI k)) &&& 1 = 0 → F (50 + 4 * k) 2 = sq
def CX (sq : Int32) (u : cS) : Prop := J u.1 u.1 u.2.2 ∧ KB u.1 sq
section PB
variable {F : Nat → Nat → Int32} {L : Nat → Nat → Int64} {r : Nat → Nat → Nat} {sq : Int32} {K : Int32 → cS → Prop}
theorem CX.of {u v : cS} (h : CX sq u) (hJ : J u.1 v.1 v.2.2) : CX sq v := by
  refine ⟨⟨hJ.1, hJ.2.1, fun _ _ => rfl⟩, ?_⟩
  have e46 := hJ.2.2 46 rfl
  have e0 := hJ.2.2 0 rfl
  refine ⟨by rw [e46]; exact h.2.1, fun k hk hb => ?_⟩
  rw [e0] at hb
  have hs : sp (50 + 4 * k) = true := by
    have : k = 0 ∨ k = 1 ∨ k = 2 ∨ k = 3 := by omega
    rcases this with rfl | rfl | rfl | rfl <;> rfl
  rw [hJ.2.2 _ hs]
  exact h.2.2 k hk hb
theorem jshr0 {k : Nat} (hk : k < 4) : (jshr 0 (nI k)) &&& 1 = 0 := by
  have : k = 0 ∨ k = 1 ∨ k = 2 ∨ k = 3 := by omega
  rcases this with rfl | rfl | rfl | rfl <;> decide
theorem J.self {F0 : Nat → Nat → Int32} (h : J F0 F r) : J F F r := ⟨h.1, h.2.1, fun _ _ => rfl⟩
/-- a number of position 0 is free -/
theorem CIb0 {i : Nat} {v : Int32} : CIb 0 i v := ⟨fun e => absurd e (by decide), fun e => absurd e (by decide), fun e => absurd e (by decide), fun e => absurd e (by decide), fun e => absurd e (by decide), fun e => absurd e (by decide), fun e => absurd e (by decide), fun e => absurd e (by decide), fun e => absurd e (by decide)⟩
theorem Janyp {p i : Nat} {v : Int32} (hb : CIb p i v) (h : J F F r) : J (pt F p i v) (pt F p i v) r := by
  refine ⟨fun q j => ?_, h.2.1, fun _ _ => rfl⟩
  rw [pt_r]
  by_cases hq : q = p
  · rw [if_pos hq]
    by_cases hj : j = i
    · rw [if_pos hj, hq, hj]; exact hb
    · rw [if_neg hj, hq]; exact h.1 p j
  · rw [if_neg hq]; exact h.1 q j
theorem Jfr2 {F' : Nat → Nat → Int32} {a0 : Nat} (ha : kd a0 = 1) (h : J F F r) (hf : ∀ p, p ≠ a0 → p ≠ a0 + 2 → F' p = F p) : J F' F' r := by
  refine ⟨fun p i => ?_, h.2.1, fun _ _ => rfl⟩
  by_cases h1 : p = a0
  · exact cb1 (Or.inl (h1 ▸ ha))
  · by_cases h2 : p = a0 + 2
    · exact cb1 (Or.inr (h2 ▸ kd1_2 ha))
    · rw [hf p h1 h2]; exact h.1 p i
theorem p_floor {x1 x2 : Int32} (hC : CX sq (F, L, r)) (h1 : ¬ x1 < 2 → ¬ 6 < x1 → ¬ x2 < 2 → x2 ≤ 6 → ∀ u, CX (x1 * x2) u → K 1 u) (h0 : (x1 < 2 ∨ 6 < x1 ∨ x2 < 2 ∨ ¬ x2 ≤ 6) → K 0 (F, L, r)) : wpX10_floor F L r x1 x2 K := by
  unfold wpX10_floor wpX10_floor_b0 wpX10_floor_b22
  refine ⟨fun c => h0 (Or.inl c), fun c => ⟨fun d => h0 (Or.inr (Or.inl d)), fun d => ⟨fun e => h0 (Or.inr (Or.inr (Or.inl e))), fun e => ⟨fun f => ?_, fun f => h0 (Or.inr (Or.inr (Or.inr f)))⟩⟩⟩⟩
  have hJ : J F F r := hC.1
  refine c_lay (fun u30 hr hf hsq => ?_)
  have hJ3 : J u30.1 u30.1 u30.2.2 := by
    rw [hr]
    exact Jfr2 kp46 hJ hf
  refine s_X3_setDownWiped hJ3 kp74 (fun u38 hJ38 => ?_)
  refine s_X0_release (Jf kp74 rfl hJ38) kp43 (fun u53 hJ53 => ?_)
  refine h1 c d e f _ ⟨Janyp CIb0 (J9_0 (v := 0) (by decide) hJ53.self).self, ?_, fun k hk hb => ?_⟩
  · show pt (pt u53.1 4 0 0) 0 11 0 46 2 = x1 * x2
    rw [pt_ne (by decide), pt_ne (by decide), hJ53.2.2 46 rfl]
    exact hsq
  · exact absurd (by show (jshr (pt (pt u53.1 4 0 0) 0 11 0 0 11) (nI k)) &&& 1 = 0; rw [pt_at, upd_r, if_pos rfl]; exact jshr0 hk) hb
theorem s_hasB {F0 : Nat → Nat → Int32} {a : Nat} {x : Int32} (h1 : ¬ x < 0 → ¬ F a 2 ≤ x → K 1 (F, L, r)) (h0 : (x < 0 ∨ F a 2 ≤ x) → K 0 (F, L, r)) : wpX1_has a F L r x K := by
  unfold wpX1_has wpX1_has_b0 wpX1_has_b16 wpX1_has_b17
  exact ⟨fun h => ⟨Or.inl rfl, h0 (Or.inl h)⟩, fun h => ⟨fun h' => ⟨Or.inl rfl, h0 (Or.inr h')⟩, fun h' => ⟨Or.inr rfl, h1 h h'⟩⟩⟩
theorem s_sideB {x : Int32} {K : Int32 → Unit → Prop} (h1 : ¬ x < 0 → ¬ (4 : Int32) ≤ x → K 1 ()) (h0 : (x < 0 ∨ (4 : Int32) ≤ x) → K 0 ()) : wpX10_isSide x K := by
  unfold wpX10_isSide wpX10_isSide_b0 wpX10_isSide_b13 wpX10_isSide_b14
  exact ⟨fun h => ⟨Or.inl rfl, h0 (Or.inl h)⟩, fun h => ⟨fun h' => ⟨Or.inl rfl, h0 (Or.inr h')⟩, fun h' => ⟨Or.inr rfl, h1 h h'⟩⟩⟩
theorem p_bell {x1 : Int32} (hC : CX sq (F, L, r)) (h1 : ¬ x1 < 0 → ¬ sq ≤ x1 → ∀ u, CX sq u → K 1 u) (h0 : (x1 < 0 ∨ sq ≤ x1) → K 0 (F, L, r)) : wpX10_bell F L r x1 K := by
  unfold wpX10_bell wpX10_bell_b0
  have hs : F 46 2 = sq := hC.2.1
  refine s_hasB (F0 := F) (fun a b => ⟨fun _ => ?_, fun hc => absurd hc (by decide)⟩) (fun a => ⟨fun hc => absurd rfl hc, fun _ => h0 (by rw [hs] at a; exact a)⟩)
  rw [hs] at b
  refine h1 a b _ ⟨Janyp (cb1 (Or.inl kp46)) hC.1, ?_, fun k hk hb => ?_⟩
  · show pt F 46 3 x1 46 2 = sq
    rw [pt_at, upd_r, if_neg (by decide)]
    exact hs
  · show pt F 46 3 x1 (50 + 4 * k) 2 = sq
    rw [pt_ne (by omega)]
    exact hC.2.2 k hk (by have hb' : ¬ (jshr (pt F 46 3 x1 0 11) (nI k)) &&& 1 = 0 := hb; rw [pt_ne (by decide)] at hb'; exact hb')
theorem p_lift {x1 x2 : Int32} (hC : CX sq (F, L, r)) (h1 : ¬ x1 < 0 → ¬ sq ≤ x1 → ¬ x2 < 0 → ¬ (4 : Int32) ≤ x2 → ∀ u, CX sq u → K 1 u) (h0 : ((x1 < 0 ∨ sq ≤ x1) ∨ (x2 < 0 ∨ (4 : Int32) ≤ x2)) → K 0 (F, L, r)) : wpX10_lift F L r x1 x2 K := by
  unfold wpX10_lift wpX10_lift_b0 wpX10_lift_b18
  have hs : F 46 2 = sq := hC.2.1
  refine s_hasB (F0 := F) (fun a b => ⟨fun hc => absurd hc (by decide), fun _ => ?_⟩) (fun a => ⟨fun _ => h0 (Or.inl (by rw [hs] at a; exact a)), fun hc => absurd rfl hc⟩)
  rw [hs] at b
  refine s_sideB (fun c d => ⟨fun _ => ?_, fun hc => absurd hc (by decide)⟩) (fun c => ⟨fun hc => absurd rfl hc, fun _ => h0 (Or.inr c)⟩)
  exact h1 a b c d _ (hC.of (v := (pt (pt F 74 0 x1) 74 1 x2, L, r)) (Jf kp74 rfl (Jf kp74 rfl hC.1)))
theorem p_keep {x1 : Int32} (hC : CX sq (F, L, r)) (h1 : ¬ x1 < 0 → x1 < 4 → ∀ u, CX sq u → K 1 u) (h0 : (x1 < 0 ∨ ¬ x1 < 4) → K 0 (F, L, r)) : wpX10_keep F L r x1 K := by
  unfold wpX10_keep wpX10_keep_b0 wpX10_keep_b9
  refine ⟨fun c => h0 (Or.inl c), fun c => ⟨fun d => ?_, fun d => h0 (Or.inr d)⟩⟩
  obtain ⟨q, hq, rfl⟩ := i_sq (n := 4) (hi := 4) rfl c (Int32.not_le.mpr d)
  have v : vp_in (nI q) 4 := vin hq (by decide)
  have hkF := kdF v
  have hkM := kdM v
  have eq : ix (nI q) = q := ix_nI (by omega)
  refine ⟨v, c_copy (fun u21 hr hf hsq => ⟨v, ?_⟩)⟩
  rw [eq] at hf hsq hkF hkM
  have hJ2 : J u21.1 u21.1 u21.2.2 := by
    rw [hr]
    exact Jfr2 hkF hC.1 hf
  have e46 : u21.1 46 = F 46 := hf 46 (by omega) (by omega)
  have e0 : u21.1 0 = F 0 := hf 0 (by omega) (by omega)
  refine s_X3_copyFrom hJ2 (kdM v) kp74 (fun u34 hJ34 => ⟨v, ?_⟩)
  have s46 : u34.1 46 2 = sq := by rw [hJ34.2.2 46 rfl, e46]; exact hC.2.1
  have sk : ∀ k, k < 4 → sp (50 + 4 * k) = true := by
    intro k hk
    have : k = 0 ∨ k = 1 ∨ k = 2 ∨ k = 3 := by omega
    rcases this with rfl | rfl | rfl | rfl <;> rfl
  refine h1 c d _ ⟨Janyp CIb0 (Jf kp3 rfl hJ34).self, ?_, fun k hk hb => ?_⟩
  · dsimp only
    rw [pt_ne (by decide), pt_ne (by decide)]
    exact s46
  · dsimp only at hb ⊢
    rw [pt_ne (by omega), pt_ne (by omega), hJ34.2.2 _ (sk k hk)]
    by_cases hkq : k = q
    · subst hkq
      rw [hsq (by omega)]
      exact hC.2.1
    · rw [hf _ (by omega) (by omega)]
      refine hC.2.2 k hk (fun hz => hb ?_)
      rw [pt_at, upd_r, if_pos rfl, pt_ne (by decide), hJ34.2.2 0 rfl, e0, of_0 (by omega), b_or, bt_shl (by omega) (by omega)]
      rw [of_0 (by omega)] at hz
      have hz' : bt (F 0 11) k = false := hz
      rw [hz']
      simp [hkq]
theorem p_restore {x1 : Int32} (hC : CX sq (F, L, r)) (hK : ∀ v u, CX sq u → K v u) : wpX10_restore F L r x1 K := by
  unfold wpX10_restore wpX10_restore_b0 wpX10_restore_b20
  refine ⟨fun _ => hK _ _ hC, fun c => ⟨fun _ => hK _ _ hC, fun d => ⟨fun e => ?_, fun _ => hK _ _ hC⟩⟩⟩
  obtain ⟨q, hq, rfl⟩ := i_sq (n := 4) (hi := 4) rfl c d
  have v : vp_in (nI q) 4 := vin hq (by decide)
  have eq : ix (nI q) = q := ix_nI (by omega)
  refine ⟨v, c_copy (fun u32 hr hf hsq => ⟨v, ?_⟩)⟩
  rw [eq] at hsq
  have hJ2 : J u32.1 u32.1 u32.2.2 := by
    rw [hr]
    exact Jfr2 kp46 hC.1 hf
  have e0 : u32.1 0 = F 0 := hf 0 (by omega) (by omega)
  have hC2 : CX sq u32 := by
    refine ⟨hJ2, ?_, fun k hk hb => ?_⟩
    · rw [hsq (by omega)]
      exact hC.2.2 q hq e
    · rw [hf _ (by omega) (by omega)]
      rw [e0] at hb
      exact hC.2.2 k hk hb
  refine s_X3_copyFrom hJ2 kp74 (kdM v) (fun u45 hJ45 => ⟨v, ?_⟩)
  refine s_X0_settle hJ45 kp43 (fun u58 hJ58 => ?_)
  exact hK _ _ (hC2.of hJ58)
theorem p_net {x1 : Int32} (hC : CX sq (F, L, r)) (hK : ∀ v u, CX sq u → K v u) : wpX10_net F L r x1 K := by
  unfold wpX10_net wpX10_net_b0 wpX10_net_b15
  have hJ : J F F r := hC.1
  refine ⟨fun _ => hK _ _ hC, fun c => ⟨fun d => ?_, fun _ => hK _ _ hC⟩⟩
  refine s_X5_read hJ (fun r23 u23 hJ23 hb23 => ⟨fun _ => ⟨hJ23.c04, ?_⟩, fun _ => hK _ _ (hC.of (v := u23) hJ23)⟩)
  refine s_X5_exchange hJ23 hJ23.c04 (fun r40 u40 hJ40 hp40 => ?_)
  refine s_X0_renew (Jr0_4 hp40 hJ40) kp43 (fun u50 hJ50 => ⟨hJ50.c04, ?_⟩)
  refine hK _ _ ⟨Janyp CIb0 hJ50.self, ?_, fun k hk hb => ?_⟩
  · show pt u50.1 0 11 0 46 2 = sq
    rw [pt_ne (by decide), hJ50.2.2 46 rfl]
    exact hC.2.1
  · exact absurd (by show (jshr (pt u50.1 0 11 0 0 11) (nI k)) &&& 1 = 0; rw [pt_at, upd_r, if_pos rfl]; exact jshr0 hk) hb
end PB
