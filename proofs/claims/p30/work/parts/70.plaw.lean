/-! The law over a script of any length. -/
def II (u : cS) (v : mS) : Prop := ∃ w h : Nat, CX (nI (w * h)) u ∧ MX w h v
theorem nI_mul (a b : Nat) : nI a * nI b = nI (a * b) := by
  unfold nI
  rw [Int32.ofNat_mul]
theorem fl_no {w : Nat} (h : 2 ≤ w ∧ w ≤ 6) : ¬ nI w < 2 ∧ ¬ 6 < nI w ∧ nI w ≤ 6 := by
  have : ∀ w, w < 7 → 2 ≤ w → ¬ nI w < 2 ∧ ¬ 6 < nI w ∧ nI w ≤ 6 := by decide
  exact this w (by omega) h.1
section PL
variable {B23 : (Nat → Nat → Int32) → (Nat → Nat → Int64) → (Nat → Nat → Nat) → (Nat → Int32) → (Nat → Nat → Int32) → (Nat → Int64) → Int32 → Prop} {N : Nat} {xs : Nat → Int32} {F : Nat → Nat → Int32} {L : Nat → Nat → Int64} {r : Nat → Nat → Nat} {f : Nat → Int32} {g : Nat → Nat → Int32} {ou : Nat → Int64} {x4 : Int32} {K : Int32 → lS → Prop}
theorem s_lookX {sq x y : Int32} {K : Int32 → cS → Prop} {KX : String → cS → Prop} (hC : CX sq (F, L, r)) (hk : ∀ v, K v (F, L, r)) (hi : KX XI (F, L, r)) (hn : KX XN (F, L, r)) : wpX10_lookX F L r x y K KX := by
  unfold wpX10_lookX
  have hJ : J F F r := hC.1
  refine s_hasB (F0 := F) (fun _ _ => ⟨fun _ => ?_, fun hc => absurd hc (by decide)⟩) (fun _ => ⟨fun hc => absurd rfl hc, fun _ => hi⟩)
  exact ⟨fun _ => s_X3_wayOf hJ kp74 (fun _ => hk _), fun _ => s_X3_yesesOf hJ kp74 (fun _ => hk _), fun _ => s_X1_wallsOf hJ kp46 (fun _ => hk _), fun _ => s_X1_far hJ kp46 (fun _ => hk _), fun _ => hn⟩
set_option maxHeartbeats 4000000 in
theorem lawS (hI : II (F, L, r) (f, g)) (hB : ∀ F L r f g ou, II (F, L, r) (f, g) → B23 F L r f g ou (x4 + 6)) (hx : ¬ (((Int32.ofNat N) - (6 : Int32)) < x4) → vp_in x4 N ∧ vp_in (x4 + 1) N ∧ vp_in (x4 + 2) N ∧ vp_in (x4 + 3) N ∧ vp_in (x4 + 4) N ∧ vp_in (x4 + 5) N) (h1 : ∀ u, K 1 u) : wpL_lawX_b23_body B23 N xs F L r f g ou x4 K := by
  unfold wpL_lawX_b23_body
  refine ⟨fun _ => h1 _, fun hl => ?_⟩
  obtain ⟨v0, v1, v2, v3, v4, v5⟩ := hx hl
  obtain ⟨w, h, hC, hM⟩ := hI
  have hJ : J F F r := hC.1
  have hV : V w h f g f g := hM.1
  have ha : ∀ (u : cS) (v : mS) (o : Nat → Int64), II u v → wpL_lawX_b1154 B23 N xs u.1 u.2.1 u.2.2 v.1 v.2 o x4 K := fun u v o hi => by
    unfold wpL_lawX_b1154
    exact hB _ _ _ _ _ _ hi
  have hb : ∀ (u : cS) (v : mS) (o : Nat → Int64), CX (nI (w * h)) u → MX w h v → wpL_lawX_b1154 B23 N xs u.1 u.2.1 u.2.2 v.1 v.2 o x4 K := fun u v o h1 h2 => ha u v o ⟨w, h, h1, h2⟩
  refine ⟨v0, fun _ => ?_, fun _ => ?_, fun _ => ?_, fun _ => ?_, fun _ => ?_, fun _ => ?_, fun _ => ?_, fun _ => ?_, fun _ => ?_, fun _ => ?_, fun _ => ?_, fun _ => ?_, fun _ => ?_, fun _ => ?_, fun _ => ?_, fun _ => ?_, fun _ => ?_, fun _ => ?_, fun _ => ?_, fun _ => ?_, fun _ => ?_, fun _ => ?_, fun _ => ?_, fun _ => ?_, fun _ => ?_, fun _ => ?_, fun _ => ?_, fun _ => ?_, fun _ => ?_, fun _ => ?_, fun _ => ?_, fun _ => hb (F, L, r) (f, g) _ hC hM⟩
  · exact ⟨v1, v2, v3, v4, v5, s_X10_feed hJ (fun _ u hu => ⟨v1, v2, v3, v4, v5, s_X11_feed hV (fun _ v hv => hb u v _ (hC.of (v := u) hu) (hM.v hv))⟩)⟩
  · exact ⟨v1, s_X10_rules hJ (fun _ u hu => ⟨v1, s_X11_rules hV (fun _ v hv => hb u v _ (hC.of (v := u) hu) (hM.v hv))⟩)⟩
  · exact ⟨v1, p_net hC (fun _ u hu => ⟨v1, s_X11_net hV (fun _ v hv => hb u v _ hu (hM.v hv)) (fun _ v hv hz => hb u v _ hu ⟨hv, fun k hk hne => absurd (hz k hk) hne⟩)⟩)⟩
  · exact ⟨v1, s_X10_fault hJ (fun _ => ⟨v1, s_X11_fault hV (fun _ v hv => hb (F, L, r) v _ hC (hM.v hv))⟩)⟩
  · exact ⟨v1, v2, p_floor hC (fun a b c d u hu => ⟨v1, v2, q_floor hV (fun w1 h1 e1 e2 hb1 v hv hz => ha u v _ ⟨w1, h1, by rw [← nI_mul, ← e1, ← e2]; exact hu, hv, fun k hk hne => absurd (hz k hk) hne⟩) (fun c v hv => by exfalso; grind)⟩) (fun a => ⟨v1, v2, q_floor hV (fun w1 h1 e1 e2 hb1 v hv hz => by exfalso; have q1 := fl_no hb1.1; have q2 := fl_no hb1.2; rw [← e1] at q1; rw [← e2] at q2; grind) (fun c v hv => hb (F, L, r) v _ hC (hM.v hv))⟩)⟩
  · have hW : ∀ a b c : Int32, wpL_lawX_b392 B23 N xs F L r f g ou a b c x4 K := fun a b c => by
      unfold wpL_lawX_b392
      have hW2 : ∀ (u : cS) (a b c : Int32), CX (nI (w * h)) u → wpL_lawX_b423 B23 N xs u.1 u.2.1 u.2.2 f g ou a b c x4 K := fun u a b c hu => by
        unfold wpL_lawX_b423
        exact q_wall hV (fun _ v hv e6 e7 => hb u v _ hu (hM.e hv (KE.of e6 e7)))
      exact s_X10_wall hJ (fun _ u hu _ => ⟨v1, v2, v3, fun _ => hW2 u _ _ _ (hC.of (v := u) hu), fun _ => hW2 u _ _ _ (hC.of (v := u) hu)⟩)
    exact ⟨v1, v2, v3, fun _ => hW _ _ _, fun _ => hW _ _ _⟩
  · exact ⟨v1, p_bell hC (fun a b u hu => ⟨v1, q_bell hV (fun c d v hv e => hb u v _ hu (hM.e hv (KE.of (by rw [e]) (by rw [e])))) (fun c v hv e => by exfalso; grind)⟩) (fun a => ⟨v1, q_bell hV (fun c d v hv e => by exfalso; grind) (fun c v hv e => hb (F, L, r) v _ hC (hM.e hv (KE.of (by rw [e]) (by rw [e]))))⟩)⟩
  · exact ⟨v1, v2, p_lift hC (fun a b c d u hu => ⟨v1, v2, q_lift hV (fun a1 b1 c1 d1 v hv => hb u v _ hu (hM.v hv)) (fun c1 v hv => by exfalso; grind)⟩) (fun a => ⟨v1, v2, q_lift hV (fun a1 b1 c1 d1 v hv => by exfalso; grind) (fun c1 v hv => hb (F, L, r) v _ hC (hM.v hv))⟩)⟩
  · exact s_X10_wipe hJ (fun _ u hu => s_X11_wipe hV (fun _ v hv => hb u v _ (hC.of (v := u) hu) (hM.v hv)))
  · exact ⟨v1, s_X10_tick hJ (fun _ u hu => ⟨v1, s_X11_tick hV (fun _ v hv => hb u v _ (hC.of (v := u) hu) (hM.v hv))⟩)⟩
  · exact ⟨v1, s_X10_run hJ (fun _ u hu => ⟨v1, s_X11_run hV (fun _ v hv => hb u v _ (hC.of (v := u) hu) (hM.v hv))⟩)⟩
  · exact ⟨v1, s_X10_mouse hJ (fun _ => ⟨v1, s_X11_mouse hV (fun _ v hv => hb (F, L, r) v _ hC (hM.v hv))⟩)⟩
  · refine ⟨v1, v2, ?_⟩
    unfold wpL_look
    have hq : ∀ o : Nat → Int64, vp_in (x4 + 1) N ∧ vp_in (x4 + 2) N ∧ wpX11_look f g (xs (ix (x4 + (1 : Int32)))) (xs (ix (x4 + (2 : Int32)))) (fun _ v => wpL_lawX_b1154 B23 N xs F L r v.1 v.2 o x4 K) := fun o => ⟨v1, v2, s_X11_look hV (fun _ v hv => hb (F, L, r) v _ hC (hM.v hv))⟩
    exact s_lookX hC (fun _ => hq _) (Or.inl ⟨rfl, hq _⟩) (Or.inr ⟨rfl, hq _⟩)
  · exact ⟨v1, s_X10_comes hJ (fun _ u hu => ⟨v1, q_comes hM (fun _ v hv => hb u v _ (hC.of (v := u) hu) hv)⟩)⟩
  · exact ⟨v1, v2, s_X10_second hJ (fun _ u hu => ⟨v1, v2, q_second hM (fun _ v hv => hb u v _ (hC.of (v := u) hu) hv)⟩)⟩
  · exact ⟨v1, v2, v3, s_X10_held hJ (fun _ u hu => ⟨v1, v2, v3, q_held hM (fun _ v hv => hb u v _ (hC.of (v := u) hu) hv)⟩)⟩
  · exact ⟨v1, v2, v3, s_X10_longest hJ (fun _ u hu => ⟨v1, v2, v3, q_longest hM (fun _ v hv => hb u v _ (hC.of (v := u) hu) hv)⟩)⟩
  · exact ⟨v1, v2, v3, s_X10_needs hJ (fun _ u hu => ⟨v1, v2, v3, q_needs hM (fun _ v hv => hb u v _ (hC.of (v := u) hu) hv)⟩)⟩
  · exact ⟨v1, s_X10_knows hJ (fun _ => ⟨v1, s_X11_knows hV (fun _ v hv => hb (F, L, r) v _ hC (hM.v hv))⟩)⟩
  · exact ⟨v1, s_X10_pull hJ (fun _ u hu => ⟨v1, s_X11_pull hV (fun _ v hv => hb u v _ (hC.of (v := u) hu) (hM.v hv))⟩)⟩
  · exact ⟨v1, s_X10_pullRun hJ (fun _ u hu => ⟨v1, s_X11_pullRun hV (fun _ v hv => hb u v _ (hC.of (v := u) hu) (hM.v hv))⟩)⟩
  · exact s_X10_relays hJ (fun _ => s_X11_relays hV (fun _ v hv => hb (F, L, r) v _ hC (hM.v hv)))
  · exact s_X10_race hJ (fun _ => s_X11_race hV (fun _ v hv => hb (F, L, r) v _ hC (hM.v hv)))
  · exact ⟨v1, v2, s_X10_stick hJ (fun _ u hu _ => ⟨v1, v2, s_X11_stick hV (fun _ v hv _ => hb u v _ (hC.of (v := u) hu) (hM.v hv))⟩)⟩
  · exact s_X10_stuck hJ (fun _ => s_X11_stuck hV (fun _ v hv => hb (F, L, r) v _ hC (hM.v hv)))
  · exact ⟨v1, s_X10_same hJ (fun _ u hu => ⟨v1, q_same hM (fun _ v hv => hb u v _ (hC.of (v := u) hu) hv)⟩)⟩
  · exact ⟨v1, v2, s_X10_suspects hJ (fun _ u hu => ⟨v1, v2, q_suspects hM (fun _ v hv => hb u v _ (hC.of (v := u) hu) hv)⟩)⟩
  · exact ⟨v1, v2, s_X10_trial hJ (fun _ u hu => ⟨v1, v2, q_trial hM (fun _ v hv => hb u v _ (hC.of (v := u) hu) hv)⟩)⟩
  · exact ⟨v1, p_keep hC (fun a b u hu => ⟨v1, q_keep hM (fun a1 b1 v hv => ⟨fun _ => hb u v _ hu hv, fun hc => absurd rfl hc⟩) (fun c1 v hv => by exfalso; grind)⟩) (fun a => ⟨v1, q_keep hM (fun a1 b1 v hv => by exfalso; grind) (fun c1 v hv => ⟨fun _ => hb (F, L, r) v _ hC hv, fun hc => absurd rfl hc⟩)⟩)⟩
  · exact ⟨v1, p_restore hC (fun _ u hu => ⟨v1, q_restore hM (fun _ v hv => hb u v _ hu hv)⟩)⟩
  · exact ⟨v1, s_X10_count hJ (fun _ => ⟨v1, s_X11_count hV (fun _ v hv => hb (F, L, r) v _ hC (hM.v hv))⟩)⟩
theorem lawN (hN : N ≤ 3072) (h1 : ∀ u, K 1 u) : ∀ (n i : Nat), 1 ≤ n → 6 * i ≤ N → N < 6 * (i + n) → ∀ (F : Nat → Nat → Int32) (L : Nat → Nat → Int64) (r : Nat → Nat → Nat) (f : Nat → Int32) (g : Nat → Nat → Int32) (ou : Nat → Int64), II (F, L, r) (f, g) → wpL_lawX_b23 N xs n F L r f g ou (nI (6 * i)) K := by
  intro n
  induction n with
  | zero => exact fun i h => absurd h (by decide)
  | succ n ih =>
    intro i _ hi hn F L r f g ou hI
    unfold wpL_lawX_b23
    have hlast : ¬ (((Int32.ofNat N) - (6 : Int32)) < nI (6 * i)) → 6 * i + 6 ≤ N := fun hl => by
      rw [Int32.lt_iff_toInt_lt, Int32.toInt_sub, nI_toInt (n := 6 * i) (by omega)] at hl
      have e : (Int32.ofNat N).toInt = (N : Int) := nI_toInt (n := N) (by omega)
      have e6 : (6 : Int32).toInt = 6 := rfl
      rw [e, e6, Int.bmod_eq_of_le (by omega) (by omega)] at hl
      omega
    by_cases hd : ((Int32.ofNat N) - (6 : Int32)) < nI (6 * i)
    · unfold wpL_lawX_b23_body
      exact ⟨fun _ => h1 _, fun hc => absurd hd hc⟩
    · have h6 := hlast hd
      have a : ∀ k : Nat, k < 6 → vp_in (nI (6 * i) + nI k) N := fun k hk => by
        rw [nI_add]
        exact vin (by omega) (by omega)
      refine lawS hI (fun F L r f g ou hI => ?_) (fun _ => ⟨vin (by omega) (by omega), a 1 (by decide), a 2 (by decide), a 3 (by decide), a 4 (by decide), a 5 (by decide)⟩) h1
      have e : nI (6 * i) + 6 = nI (6 * (i + 1)) := (nI_add (6 * i) 6).trans (by rw [show 6 * i + 6 = 6 * (i + 1) by omega])
      rw [e]
      exact ih (i + 1) (by omega) (by omega) (by omega) F L r f g ou hI
end PL
