section
variable {p : Program} {l : Launch} {e : Env} {s : State} {m : MethodId} {args : Array Value} {below : List Frame} {meth : Method} {c : Code} {D : va_G} {A : Nat → Prop} {h : Nat → Nat} {o : Nat} {hm : Nat → Nat} {q b cc sc : Nat} {cI cZ cL cF cM : ClassId} {Q : State → Prop}
def wpL_lawX_b1182 (B23 : (Nat → Nat → Int32) → (Nat → Nat → Int64) → (Nat → Nat → Nat) → (Nat → Int32) → (Nat → Nat → Int32) → (Nat → Int64) → Int32 → Prop) (N : Nat) (xs : Nat → Int32) (F : Nat → Nat → Int32) (L : Nat → Nat → Int64) (r : Nat → Nat → Nat) (f : Nat → Int32) (g : Nat → Nat → Int32) (ou : Nat → Int64) (x4 : Int32) (K : Int32 → lS → Prop) : Prop :=
  B23 F L r f g ou (x4 + (6 : Int32))
set_option maxHeartbeats 4000000 in
set_option maxRecDepth 100000 in
theorem tL_lawX_b1182 {N : Nat} {xs : Nat → Int32} {B23 : (Nat → Nat → Int32) → (Nat → Nat → Int64) → (Nat → Nat → Nat) → (Nat → Int32) → (Nat → Nat → Int32) → (Nat → Int64) → Int32 → Prop} {K : Int32 → lS → Prop} (C : CallFix p m c code 7 s args (Cond.initialized RX10 :: WL) RL) (hR : ∀ ca sa : Nat, ca ≤ 600002 → sa ≤ 7302232 → LRt ca sa p l e room_1 s m args below meth c code D A (T0 cI cZ cL cF cM) (lWu h o hm q cI cZ cL cF cM) K Q) (hX : va_X b N xs s s.heap) (hbl : b < s.heap.size) (hbA : ¬ A b) (hT : EXt s) (hZ : Zs A s s.heap) (hl0 : l.stackTraces = false) (hcc : cc + 1 ≤ 600002) (hsc : sc + 6 ≤ 7302232) (hB23 : ∀ (F : Nat → Nat → Int32) (L : Nat → Nat → Int64) (r : Nat → Nat → Nat) (f : Nat → Int32) (g : Nat → Nat → Int32) (ou : Nat → Int64) (x4 : Int32) (H : Heap) (locs : List Loc) (ls : Array Slot), B23 F L r f g ou x4 → Wd D A s (T0 cI cZ cL cF cM) (lW h o hm q cI cZ cL cF cM F L r f g ou) H locs → lv_has ls 7 [(0, .ref b), (1, .ref (h 0)), (2, .ref o), (3, .ref q), (4, .int x4)] → W p l e room_1 s m args below meth c H locs (cc + 1) (sc + 6) Q (F0 m 23 ls [])) {F : Nat → Nat → Int32} {L : Nat → Nat → Int64} {r : Nat → Nat → Nat} {f : Nat → Int32} {g : Nat → Nat → Int32} {ou : Nat → Int64} {x4 : Int32} (hh : wpL_lawX_b1182 B23 N xs F L r f g ou x4 K) {H : Heap} {locs : List Loc} {ls : Array Slot} (hw : Wd D A s (T0 cI cZ cL cF cM) (lW h o hm q cI cZ cL cF cM F L r f g ou) H locs) (hl : lv_has ls 7 [(0, .ref b), (1, .ref (h 0)), (2, .ref o), (3, .ref q), (4, .int x4)]) : W p l e room_1 s m args below meth c H locs (cc + 1) (sc + 6) Q (F0 m 1182 ls []) := by
  unfold wpL_lawX_b1182 at hh
  refine lv_iinc (v := x4 + (6 : Int32)) (lv' := [(4, .int (x4 + (6 : Int32))), (0, .ref b), (1, .ref (h 0)), (2, .ref o), (3, .ref q)]) C.1 C.2.1 dL_law_1182 hl (k := 4) rfl rfl (by decide) rfl (fun ls hl => ?_)
  refine lv_goto (tgt := 23) C.1 C.2.1 dL_law_1185 (by decide) ?_
  exact hB23 _ _ _ _ _ _ _ _ _ _ hh hw (lv_sub hl [1, 2, 3, 4, 0] rfl)
def wpL_lawX_b422 (B23 : (Nat → Nat → Int32) → (Nat → Nat → Int64) → (Nat → Nat → Nat) → (Nat → Int32) → (Nat → Nat → Int32) → (Nat → Int64) → Int32 → Prop) (N : Nat) (xs : Nat → Int32) (F : Nat → Nat → Int32) (L : Nat → Nat → Int64) (r : Nat → Nat → Nat) (f : Nat → Int32) (g : Nat → Nat → Int32) (ou : Nat → Int64) (k0 : Int32) (k2 : Int32) (k3 : Int32) (k4 : Int32) (x4 : Int32) (K : Int32 → lS → Prop) : Prop :=
  wpX11_wall f g k2 k3 k4 (fun r422 u422 =>
    ((k0 = r422) →
    wpL_lawX_b1182 B23 N xs F L r u422.1 u422.2 ou x4 K) ∧
  (¬ (k0 = r422) →
    K (0 : Int32) ((F, L, r), (u422.1, u422.2), ou)))
set_option maxHeartbeats 4000000 in
set_option maxRecDepth 100000 in
theorem tL_lawX_b422 {N : Nat} {xs : Nat → Int32} {B23 : (Nat → Nat → Int32) → (Nat → Nat → Int64) → (Nat → Nat → Nat) → (Nat → Int32) → (Nat → Nat → Int32) → (Nat → Int64) → Int32 → Prop} {K : Int32 → lS → Prop} (C : CallFix p m c code 7 s args (Cond.initialized RX10 :: WL) RL) (hR : ∀ ca sa : Nat, ca ≤ 600002 → sa ≤ 7302232 → LRt ca sa p l e room_1 s m args below meth c code D A (T0 cI cZ cL cF cM) (lWu h o hm q cI cZ cL cF cM) K Q) (hX : va_X b N xs s s.heap) (hbl : b < s.heap.size) (hbA : ¬ A b) (hT : EXt s) (hZ : Zs A s s.heap) (hl0 : l.stackTraces = false) (hcc : cc + 1 ≤ 600002) (hsc : sc + 6 ≤ 7302232) (hB23 : ∀ (F : Nat → Nat → Int32) (L : Nat → Nat → Int64) (r : Nat → Nat → Nat) (f : Nat → Int32) (g : Nat → Nat → Int32) (ou : Nat → Int64) (x4 : Int32) (H : Heap) (locs : List Loc) (ls : Array Slot), B23 F L r f g ou x4 → Wd D A s (T0 cI cZ cL cF cM) (lW h o hm q cI cZ cL cF cM F L r f g ou) H locs → lv_has ls 7 [(0, .ref b), (1, .ref (h 0)), (2, .ref o), (3, .ref q), (4, .int x4)] → W p l e room_1 s m args below meth c H locs (cc + 1) (sc + 6) Q (F0 m 23 ls [])) {F : Nat → Nat → Int32} {L : Nat → Nat → Int64} {r : Nat → Nat → Nat} {f : Nat → Int32} {g : Nat → Nat → Int32} {ou : Nat → Int64} {k0 : Int32} {k2 : Int32} {k3 : Int32} {k4 : Int32} {x4 : Int32} (hh : wpL_lawX_b422 B23 N xs F L r f g ou k0 k2 k3 k4 x4 K) {H : Heap} {locs : List Loc} {ls : Array Slot} (hw : Wd D A s (T0 cI cZ cL cF cM) (lW h o hm q cI cZ cL cF cM F L r f g ou) H locs) (hl : lv_has ls 7 [(0, .ref b), (1, .ref (h 0)), (2, .ref o), (3, .ref q), (4, .int x4)]) : W p l e room_1 s m args below meth c H locs cc sc Q (F0 m 422 ls [.int k4, .int k3, .int k2, .ref o, .int k0]) := by
  unfold wpL_lawX_b422 at hh
  refine lm_Vi C hw (ctX11_wall l D o hm cI cZ f g k2 k3 k4 hh) (cwV 3 C.2.2.2.2 (gd_V w_1811 w_1812 w_1813 w_125 w_1814) rfl rfl rfl cdX11_wall ⟨Nat.le_of_ble_eq_true rfl, Nat.le_of_ble_eq_true rfl⟩) rfl hl.1 (Nat.le_of_ble_eq_true rfl) dL_law_422 ⟨rmc (by omega), rms (by omega)⟩ (fun r422 u422 H locs hh hw => ?_) rfl
  refine lv_icmp_eq (tgt := 1182) C.1 C.2.1 dL_law_425 (by decide) (fun c425 => ?_) (fun c425 => ?_)
  · replace hh := hh.1 c425
    first | exact tL_lawX_b1182 C hR hX hbl hbA hT hZ hl0 hcc hsc hB23 hh hw hl | exact W.widen (Nat.le_succ _) (Nat.le_add_right _ 6) (tL_lawX_b1182 C hR hX hbl hbA hT hZ hl0 hcc hsc hB23 hh hw hl)
  · replace hh := hh.2 c425
    refine lv_iconst (v := (0 : Int32)) C.1 C.2.1 dL_law_428 (by decide) ?_
    exact hR _ _ (by omega) (by omega) _ _ _ ((F, L, r), (u422.1, u422.2), ou) _ _ dL_law_429 rfl hh hw
def wpL_lawX_b392 (B23 : (Nat → Nat → Int32) → (Nat → Nat → Int64) → (Nat → Nat → Nat) → (Nat → Int32) → (Nat → Nat → Int32) → (Nat → Int64) → Int32 → Prop) (N : Nat) (xs : Nat → Int32) (F : Nat → Nat → Int32) (L : Nat → Nat → Int64) (r : Nat → Nat → Nat) (f : Nat → Int32) (g : Nat → Nat → Int32) (ou : Nat → Int64) (k1 : Int32) (k2 : Int32) (k3 : Int32) (x4 : Int32) (K : Int32 → lS → Prop) : Prop :=
  wpX10_wall F L r k1 k2 k3 (fun r392 u392 =>
    vp_in (x4 + (1 : Int32)) N ∧ vp_in (x4 + (2 : Int32)) N ∧ vp_in (x4 + (3 : Int32)) N ∧ (((xs (ix (x4 + (3 : Int32)))) = 0) →
    wpL_lawX_b422 B23 N xs u392.1 u392.2.1 u392.2.2 f g ou r392 (xs (ix (x4 + (1 : Int32)))) (xs (ix (x4 + (2 : Int32)))) (0 : Int32) x4 K) ∧
  (¬ ((xs (ix (x4 + (3 : Int32)))) = 0) →
    wpL_lawX_b422 B23 N xs u392.1 u392.2.1 u392.2.2 f g ou r392 (xs (ix (x4 + (1 : Int32)))) (xs (ix (x4 + (2 : Int32)))) (1 : Int32) x4 K))
set_option maxHeartbeats 4000000 in
set_option maxRecDepth 100000 in
theorem tL_lawX_b392 {N : Nat} {xs : Nat → Int32} {B23 : (Nat → Nat → Int32) → (Nat → Nat → Int64) → (Nat → Nat → Nat) → (Nat → Int32) → (Nat → Nat → Int32) → (Nat → Int64) → Int32 → Prop} {K : Int32 → lS → Prop} (C : CallFix p m c code 7 s args (Cond.initialized RX10 :: WL) RL) (hR : ∀ ca sa : Nat, ca ≤ 600002 → sa ≤ 7302232 → LRt ca sa p l e room_1 s m args below meth c code D A (T0 cI cZ cL cF cM) (lWu h o hm q cI cZ cL cF cM) K Q) (hX : va_X b N xs s s.heap) (hbl : b < s.heap.size) (hbA : ¬ A b) (hT : EXt s) (hZ : Zs A s s.heap) (hl0 : l.stackTraces = false) (hcc : cc + 1 ≤ 600002) (hsc : sc + 6 ≤ 7302232) (hB23 : ∀ (F : Nat → Nat → Int32) (L : Nat → Nat → Int64) (r : Nat → Nat → Nat) (f : Nat → Int32) (g : Nat → Nat → Int32) (ou : Nat → Int64) (x4 : Int32) (H : Heap) (locs : List Loc) (ls : Array Slot), B23 F L r f g ou x4 → Wd D A s (T0 cI cZ cL cF cM) (lW h o hm q cI cZ cL cF cM F L r f g ou) H locs → lv_has ls 7 [(0, .ref b), (1, .ref (h 0)), (2, .ref o), (3, .ref q), (4, .int x4)] → W p l e room_1 s m args below meth c H locs (cc + 1) (sc + 6) Q (F0 m 23 ls [])) {F : Nat → Nat → Int32} {L : Nat → Nat → Int64} {r : Nat → Nat → Nat} {f : Nat → Int32} {g : Nat → Nat → Int32} {ou : Nat → Int64} {k1 : Int32} {k2 : Int32} {k3 : Int32} {x4 : Int32} (hh : wpL_lawX_b392 B23 N xs F L r f g ou k1 k2 k3 x4 K) {H : Heap} {locs : List Loc} {ls : Array Slot} (hw : Wd D A s (T0 cI cZ cL cF cM) (lW h o hm q cI cZ cL cF cM F L r f g ou) H locs) (hl : lv_has ls 7 [(0, .ref b), (1, .ref (h 0)), (2, .ref o), (3, .ref q), (4, .int x4)]) : W p l e room_1 s m args below meth c H locs cc sc Q (F0 m 392 ls [.int k3, .int k2, .int k1, .ref (h 0)]) := by
  unfold wpL_lawX_b392 at hh
  refine lx_Vi C hw (ctX10_wall l D h cI cL cF cM F L r k1 k2 k3 hh) (cwV 3 C.2.2.2.2 (gd_V w_933 w_934 w_935 w_114 w_936) rfl rfl rfl cdX10_wall ⟨Nat.le_of_ble_eq_true rfl, Nat.le_of_ble_eq_true rfl⟩) rfl hl.1 (Nat.le_of_ble_eq_true rfl) dL_law_392 ⟨rmc (by omega), rms (by omega)⟩ (fun r392 u392 H locs hh hw => ?_) rfl
  refine lv_aload_n C.1 C.2.1 dL_law_395 rfl (lv_at hl 2 rfl) ?_
  refine lv_aload_n C.1 C.2.1 dL_law_396 rfl (lv_at hl 0 rfl) ?_
  refine lv_iload C.1 C.2.1 dL_law_397 (lv_at hl 4 rfl) ?_
  refine lv_iconst (v := (1 : Int32)) C.1 C.2.1 dL_law_399 (by decide) ?_
  refine lv_iadd C.1 C.2.1 dL_law_400 ?_
  obtain ⟨hi401, hh⟩ := hh
  refine va_sld C.1 C.2.1 hX hbl hbA hw.2.2.2.1 hi401 dL_law_401 ?_
  refine lv_aload_n C.1 C.2.1 dL_law_402 rfl (lv_at hl 0 rfl) ?_
  refine lv_iload C.1 C.2.1 dL_law_403 (lv_at hl 4 rfl) ?_
  refine lv_iconst (v := (2 : Int32)) C.1 C.2.1 dL_law_405 (by decide) ?_
  refine lv_iadd C.1 C.2.1 dL_law_406 ?_
  obtain ⟨hi407, hh⟩ := hh
  refine va_sld C.1 C.2.1 hX hbl hbA hw.2.2.2.1 hi407 dL_law_407 ?_
  refine lv_aload_n C.1 C.2.1 dL_law_408 rfl (lv_at hl 0 rfl) ?_
  refine lv_iload C.1 C.2.1 dL_law_409 (lv_at hl 4 rfl) ?_
  refine lv_iconst (v := (3 : Int32)) C.1 C.2.1 dL_law_411 (by decide) ?_
  refine lv_iadd C.1 C.2.1 dL_law_412 ?_
  obtain ⟨hi413, hh⟩ := hh
  refine va_sld C.1 C.2.1 hX hbl hbA hw.2.2.2.1 hi413 dL_law_413 ?_
  refine lv_if_eq (tgt := 421) C.1 C.2.1 dL_law_414 (by decide) (fun c414 => ?_) (fun c414 => ?_)
  · replace hh := hh.1 c414
    refine lv_iconst (v := (0 : Int32)) C.1 C.2.1 dL_law_421 (by decide) ?_
    exact tL_lawX_b422 C hR hX hbl hbA hT hZ hl0 hcc hsc hB23 hh hw hl
  · replace hh := hh.2 c414
    refine lv_iconst (v := (1 : Int32)) C.1 C.2.1 dL_law_417 (by decide) ?_
    refine lv_goto (tgt := 422) C.1 C.2.1 dL_law_418 (by decide) ?_
    exact tL_lawX_b422 C hR hX hbl hbA hT hZ hl0 hcc hsc hB23 hh hw hl
def wpL_lawX_b645 (B23 : (Nat → Nat → Int32) → (Nat → Nat → Int64) → (Nat → Nat → Nat) → (Nat → Int32) → (Nat → Nat → Int32) → (Nat → Int64) → Int32 → Prop) (N : Nat) (xs : Nat → Int32) (F : Nat → Nat → Int32) (L : Nat → Nat → Int64) (r : Nat → Nat → Nat) (f : Nat → Int32) (g : Nat → Nat → Int32) (ou : Nat → Int64) (x4 : Int32) (K : Int32 → lS → Prop) : Prop :=
  wpL_lawX_b1182 B23 N xs F L r f g ou x4 K
set_option maxHeartbeats 4000000 in
set_option maxRecDepth 100000 in
theorem tL_lawX_b645 {N : Nat} {xs : Nat → Int32} {B23 : (Nat → Nat → Int32) → (Nat → Nat → Int64) → (Nat → Nat → Nat) → (Nat → Int32) → (Nat → Nat → Int32) → (Nat → Int64) → Int32 → Prop} {K : Int32 → lS → Prop} (C : CallFix p m c code 7 s args (Cond.initialized RX10 :: WL) RL) (hR : ∀ ca sa : Nat, ca ≤ 600002 → sa ≤ 7302232 → LRt ca sa p l e room_1 s m args below meth c code D A (T0 cI cZ cL cF cM) (lWu h o hm q cI cZ cL cF cM) K Q) (hX : va_X b N xs s s.heap) (hbl : b < s.heap.size) (hbA : ¬ A b) (hT : EXt s) (hZ : Zs A s s.heap) (hl0 : l.stackTraces = false) (hcc : cc + 1 ≤ 600002) (hsc : sc + 6 ≤ 7302232) (hB23 : ∀ (F : Nat → Nat → Int32) (L : Nat → Nat → Int64) (r : Nat → Nat → Nat) (f : Nat → Int32) (g : Nat → Nat → Int32) (ou : Nat → Int64) (x4 : Int32) (H : Heap) (locs : List Loc) (ls : Array Slot), B23 F L r f g ou x4 → Wd D A s (T0 cI cZ cL cF cM) (lW h o hm q cI cZ cL cF cM F L r f g ou) H locs → lv_has ls 7 [(0, .ref b), (1, .ref (h 0)), (2, .ref o), (3, .ref q), (4, .int x4)] → W p l e room_1 s m args below meth c H locs (cc + 1) (sc + 6) Q (F0 m 23 ls [])) {F : Nat → Nat → Int32} {L : Nat → Nat → Int64} {r : Nat → Nat → Nat} {f : Nat → Int32} {g : Nat → Nat → Int32} {ou : Nat → Int64} {x4 : Int32} (hh : wpL_lawX_b645 B23 N xs F L r f g ou x4 K) {H : Heap} {locs : List Loc} {ls : Array Slot} (hw : Wd D A s (T0 cI cZ cL cF cM) (lW h o hm q cI cZ cL cF cM F L r f g ou) H locs) (hl : lv_has ls 7 [(0, .ref b), (1, .ref (h 0)), (2, .ref o), (3, .ref q), (4, .int x4)]) : W p l e room_1 s m args below meth c H locs (cc + 1) (sc + 6) Q (F0 m 645 ls []) := by
  unfold wpL_lawX_b645 at hh
  refine lv_goto (tgt := 1182) C.1 C.2.1 dL_law_645 (by decide) ?_
  first | exact tL_lawX_b1182 C hR hX hbl hbA hT hZ hl0 hcc hsc hB23 hh hw hl | exact W.widen (Nat.le_succ _) (Nat.le_add_right _ 6) (tL_lawX_b1182 C hR hX hbl hbA hT hZ hl0 hcc hsc hB23 hh hw hl)
def wpL_lawX_b23_body (B23 : (Nat → Nat → Int32) → (Nat → Nat → Int64) → (Nat → Nat → Nat) → (Nat → Int32) → (Nat → Nat → Int32) → (Nat → Int64) → Int32 → Prop) (N : Nat) (xs : Nat → Int32) (F : Nat → Nat → Int32) (L : Nat → Nat → Int64) (r : Nat → Nat → Nat) (f : Nat → Int32) (g : Nat → Nat → Int32) (ou : Nat → Int64) (x4 : Int32) (K : Int32 → lS → Prop) : Prop :=
  ((((Int32.ofNat N) - (6 : Int32)) < x4) →
    K (1 : Int32) ((F, L, r), (f, g), ou)) ∧
  (¬ (((Int32.ofNat N) - (6 : Int32)) < x4) →
    vp_in x4 N ∧ (((xs (ix x4)) &&& (31 : Int32)) = (0 : Int32) →
      vp_in (x4 + (1 : Int32)) N ∧ vp_in (x4 + (2 : Int32)) N ∧ vp_in (x4 + (3 : Int32)) N ∧ vp_in (x4 + (4 : Int32)) N ∧ vp_in (x4 + (5 : Int32)) N ∧ wpX10_feed F L r (xs (ix (x4 + (1 : Int32)))) (xs (ix (x4 + (2 : Int32)))) (xs (ix (x4 + (3 : Int32)))) (xs (ix (x4 + (4 : Int32)))) (xs (ix (x4 + (5 : Int32)))) (fun r211 u211 =>
          vp_in (x4 + (1 : Int32)) N ∧ vp_in (x4 + (2 : Int32)) N ∧ vp_in (x4 + (3 : Int32)) N ∧ vp_in (x4 + (4 : Int32)) N ∧ vp_in (x4 + (5 : Int32)) N ∧ wpX11_feed f g (xs (ix (x4 + (1 : Int32)))) (xs (ix (x4 + (2 : Int32)))) (xs (ix (x4 + (3 : Int32)))) (xs (ix (x4 + (4 : Int32)))) (xs (ix (x4 + (5 : Int32)))) (fun r245 u245 =>
          ((r211 = r245) →
          wpL_lawX_b1182 B23 N xs u211.1 u211.2.1 u211.2.2 u245.1 u245.2 ou x4 K) ∧
        (¬ (r211 = r245) →
          K (0 : Int32) ((u211.1, u211.2.1, u211.2.2), (u245.1, u245.2), ou))))) ∧
    (((xs (ix x4)) &&& (31 : Int32)) = (1 : Int32) →
      vp_in (x4 + (1 : Int32)) N ∧ wpX10_rules F L r (xs (ix (x4 + (1 : Int32)))) (fun r260 u260 =>
          vp_in (x4 + (1 : Int32)) N ∧ wpX11_rules f g (xs (ix (x4 + (1 : Int32)))) (fun r270 u270 =>
          ((r260 = r270) →
          wpL_lawX_b1182 B23 N xs u260.1 u260.2.1 u260.2.2 u270.1 u270.2 ou x4 K) ∧
        (¬ (r260 = r270) →
          K (0 : Int32) ((u260.1, u260.2.1, u260.2.2), (u270.1, u270.2), ou))))) ∧
    (((xs (ix x4)) &&& (31 : Int32)) = (2 : Int32) →
      vp_in (x4 + (1 : Int32)) N ∧ wpX10_net F L r (xs (ix (x4 + (1 : Int32)))) (fun r285 u285 =>
          vp_in (x4 + (1 : Int32)) N ∧ wpX11_net f g (xs (ix (x4 + (1 : Int32)))) (fun r295 u295 =>
          ((r285 = r295) →
          wpL_lawX_b1182 B23 N xs u285.1 u285.2.1 u285.2.2 u295.1 u295.2 ou x4 K) ∧
        (¬ (r285 = r295) →
          K (0 : Int32) ((u285.1, u285.2.1, u285.2.2), (u295.1, u295.2), ou))))) ∧
    (((xs (ix x4)) &&& (31 : Int32)) = (3 : Int32) →
      vp_in (x4 + (1 : Int32)) N ∧ wpX10_fault F L r (xs (ix (x4 + (1 : Int32)))) (fun r310 u310 =>
          vp_in (x4 + (1 : Int32)) N ∧ wpX11_fault f g (xs (ix (x4 + (1 : Int32)))) (fun r320 u320 =>
          ((r310 = r320) →
          wpL_lawX_b1182 B23 N xs u310.1 u310.2.1 u310.2.2 u320.1 u320.2 ou x4 K) ∧
        (¬ (r310 = r320) →
          K (0 : Int32) ((u310.1, u310.2.1, u310.2.2), (u320.1, u320.2), ou))))) ∧
    (((xs (ix x4)) &&& (31 : Int32)) = (4 : Int32) →
      vp_in (x4 + (1 : Int32)) N ∧ vp_in (x4 + (2 : Int32)) N ∧ wpX10_floor F L r (xs (ix (x4 + (1 : Int32)))) (xs (ix (x4 + (2 : Int32)))) (fun r341 u341 =>
          vp_in (x4 + (1 : Int32)) N ∧ vp_in (x4 + (2 : Int32)) N ∧ wpX11_floor f g (xs (ix (x4 + (1 : Int32)))) (xs (ix (x4 + (2 : Int32)))) (fun r357 u357 =>
          ((r341 = r357) →
          wpL_lawX_b1182 B23 N xs u341.1 u341.2.1 u341.2.2 u357.1 u357.2 ou x4 K) ∧
        (¬ (r341 = r357) →
          K (0 : Int32) ((u341.1, u341.2.1, u341.2.2), (u357.1, u357.2), ou))))) ∧
    (((xs (ix x4)) &&& (31 : Int32)) = (5 : Int32) →
      vp_in (x4 + (1 : Int32)) N ∧ vp_in (x4 + (2 : Int32)) N ∧ vp_in (x4 + (3 : Int32)) N ∧ (((xs (ix (x4 + (3 : Int32)))) = 0) →
          wpL_lawX_b392 B23 N xs F L r f g ou (xs (ix (x4 + (1 : Int32)))) (xs (ix (x4 + (2 : Int32)))) (0 : Int32) x4 K) ∧
        (¬ ((xs (ix (x4 + (3 : Int32)))) = 0) →
          wpL_lawX_b392 B23 N xs F L r f g ou (xs (ix (x4 + (1 : Int32)))) (xs (ix (x4 + (2 : Int32)))) (1 : Int32) x4 K)) ∧
    (((xs (ix x4)) &&& (31 : Int32)) = (6 : Int32) →
      vp_in (x4 + (1 : Int32)) N ∧ wpX10_bell F L r (xs (ix (x4 + (1 : Int32)))) (fun r437 u437 =>
          vp_in (x4 + (1 : Int32)) N ∧ wpX11_bell f g (xs (ix (x4 + (1 : Int32)))) (fun r447 u447 =>
          ((r437 = r447) →
          wpL_lawX_b1182 B23 N xs u437.1 u437.2.1 u437.2.2 u447.1 u447.2 ou x4 K) ∧
        (¬ (r437 = r447) →
          K (0 : Int32) ((u437.1, u437.2.1, u437.2.2), (u447.1, u447.2), ou))))) ∧
    (((xs (ix x4)) &&& (31 : Int32)) = (7 : Int32) →
      vp_in (x4 + (1 : Int32)) N ∧ vp_in (x4 + (2 : Int32)) N ∧ wpX10_lift F L r (xs (ix (x4 + (1 : Int32)))) (xs (ix (x4 + (2 : Int32)))) (fun r468 u468 =>
          vp_in (x4 + (1 : Int32)) N ∧ vp_in (x4 + (2 : Int32)) N ∧ wpX11_lift f g (xs (ix (x4 + (1 : Int32)))) (xs (ix (x4 + (2 : Int32)))) (fun r484 u484 =>
          ((r468 = r484) →
          wpL_lawX_b1182 B23 N xs u468.1 u468.2.1 u468.2.2 u484.1 u484.2 ou x4 K) ∧
        (¬ (r468 = r484) →
          K (0 : Int32) ((u468.1, u468.2.1, u468.2.2), (u484.1, u484.2), ou))))) ∧
    (((xs (ix x4)) &&& (31 : Int32)) = (8 : Int32) →
      wpX10_wipe F L r (fun r493 u493 =>
          wpX11_wipe f g (fun r497 u497 =>
          ((r493 = r497) →
          wpL_lawX_b1182 B23 N xs u493.1 u493.2.1 u493.2.2 u497.1 u497.2 ou x4 K) ∧
        (¬ (r493 = r497) →
          K (0 : Int32) ((u493.1, u493.2.1, u493.2.2), (u497.1, u497.2), ou))))) ∧
    (((xs (ix x4)) &&& (31 : Int32)) = (9 : Int32) →
      vp_in (x4 + (1 : Int32)) N ∧ wpX10_tick F L r (xs (ix (x4 + (1 : Int32)))) (fun r512 u512 =>
          vp_in (x4 + (1 : Int32)) N ∧ wpX11_tick f g (xs (ix (x4 + (1 : Int32)))) (fun r522 u522 =>
          ((r512 = r522) →
          wpL_lawX_b1182 B23 N xs u512.1 u512.2.1 u512.2.2 u522.1 u522.2 ou x4 K) ∧
        (¬ (r512 = r522) →
          K (0 : Int32) ((u512.1, u512.2.1, u512.2.2), (u522.1, u522.2), ou))))) ∧
    (((xs (ix x4)) &&& (31 : Int32)) = (10 : Int32) →
      vp_in (x4 + (1 : Int32)) N ∧ wpX10_run F L r (xs (ix (x4 + (1 : Int32)))) (fun r537 u537 =>
          vp_in (x4 + (1 : Int32)) N ∧ wpX11_run f g (xs (ix (x4 + (1 : Int32)))) (fun r547 u547 =>
          ((r537 = r547) →
          wpL_lawX_b1182 B23 N xs u537.1 u537.2.1 u537.2.2 u547.1 u547.2 ou x4 K) ∧
        (¬ (r537 = r547) →
          K (0 : Int32) ((u537.1, u537.2.1, u537.2.2), (u547.1, u547.2), ou))))) ∧
    (((xs (ix x4)) &&& (31 : Int32)) = (11 : Int32) →
      vp_in (x4 + (1 : Int32)) N ∧ wpX10_mouse F L r (xs (ix (x4 + (1 : Int32)))) (fun r562 u562 =>
          vp_in (x4 + (1 : Int32)) N ∧ wpX11_mouse f g (xs (ix (x4 + (1 : Int32)))) (fun r572 u572 =>
          ((r562 = r572) →
          wpL_lawX_b1182 B23 N xs u562.1 u562.2.1 u562.2.2 u572.1 u572.2 ou x4 K) ∧
        (¬ (r562 = r572) →
          K (0 : Int32) ((u562.1, u562.2.1, u562.2.2), (u572.1, u572.2), ou))))) ∧
    (((xs (ix x4)) &&& (31 : Int32)) = (12 : Int32) →
      vp_in (x4 + (1 : Int32)) N ∧ vp_in (x4 + (2 : Int32)) N ∧ wpL_look F L r ou (xs (ix (x4 + (1 : Int32)))) (xs (ix (x4 + (2 : Int32)))) (fun r594 u594 =>
          vp_in (x4 + (1 : Int32)) N ∧ vp_in (x4 + (2 : Int32)) N ∧ wpX11_look f g (xs (ix (x4 + (1 : Int32)))) (xs (ix (x4 + (2 : Int32)))) (fun r612 u612 =>
          wpX11_thrown u612.1 u612.2 (fun r618 u618 =>
          ((r618 = r594) →
          (¬ (r594 = 0) →
            wpL_lawX_b645 B23 N xs u594.1.1 u594.1.2.1 u594.1.2.2 u618.1 u618.2 u594.2 x4 K) ∧
          ((r594 = 0) →
            vp_in (0 : Int32) 1 ∧ (((lg_cmp (u594.2 (ix (0 : Int32))) (Int32.toInt64 r612)) = 0) →
              wpL_lawX_b645 B23 N xs u594.1.1 u594.1.2.1 u594.1.2.2 u618.1 u618.2 u594.2 x4 K) ∧
            (¬ ((lg_cmp (u594.2 (ix (0 : Int32))) (Int32.toInt64 r612)) = 0) →
              K (0 : Int32) ((u594.1.1, u594.1.2.1, u594.1.2.2), (u618.1, u618.2), u594.2)))) ∧
        (¬ (r618 = r594) →
          K (0 : Int32) ((u594.1.1, u594.1.2.1, u594.1.2.2), (u618.1, u618.2), u594.2)))))) ∧
    (((xs (ix x4)) &&& (31 : Int32)) = (13 : Int32) →
      vp_in (x4 + (1 : Int32)) N ∧ wpX10_comes F L r (xs (ix (x4 + (1 : Int32)))) (fun r655 u655 =>
          vp_in (x4 + (1 : Int32)) N ∧ wpX11_comes f g (xs (ix (x4 + (1 : Int32)))) (fun r665 u665 =>
          ((r655 = r665) →
          wpL_lawX_b1182 B23 N xs u655.1 u655.2.1 u655.2.2 u665.1 u665.2 ou x4 K) ∧
        (¬ (r655 = r665) →
          K (0 : Int32) ((u655.1, u655.2.1, u655.2.2), (u665.1, u665.2), ou))))) ∧
    (((xs (ix x4)) &&& (31 : Int32)) = (14 : Int32) →
      vp_in (x4 + (1 : Int32)) N ∧ vp_in (x4 + (2 : Int32)) N ∧ wpX10_second F L r (xs (ix (x4 + (1 : Int32)))) (xs (ix (x4 + (2 : Int32)))) (fun r686 u686 =>
          vp_in (x4 + (1 : Int32)) N ∧ vp_in (x4 + (2 : Int32)) N ∧ wpX11_second f g (xs (ix (x4 + (1 : Int32)))) (xs (ix (x4 + (2 : Int32)))) (fun r702 u702 =>
          ((r686 = r702) →
          wpL_lawX_b1182 B23 N xs u686.1 u686.2.1 u686.2.2 u702.1 u702.2 ou x4 K) ∧
        (¬ (r686 = r702) →
          K (0 : Int32) ((u686.1, u686.2.1, u686.2.2), (u702.1, u702.2), ou))))) ∧
    (((xs (ix x4)) &&& (31 : Int32)) = (15 : Int32) →
      vp_in (x4 + (1 : Int32)) N ∧ vp_in (x4 + (2 : Int32)) N ∧ vp_in (x4 + (3 : Int32)) N ∧ wpX10_held F L r (xs (ix (x4 + (1 : Int32)))) (xs (ix (x4 + (2 : Int32)))) (xs (ix (x4 + (3 : Int32)))) (fun r729 u729 =>
          vp_in (x4 + (1 : Int32)) N ∧ vp_in (x4 + (2 : Int32)) N ∧ vp_in (x4 + (3 : Int32)) N ∧ wpX11_held f g (xs (ix (x4 + (1 : Int32)))) (xs (ix (x4 + (2 : Int32)))) (xs (ix (x4 + (3 : Int32)))) (fun r751 u751 =>
          ((r729 = r751) →
          wpL_lawX_b1182 B23 N xs u729.1 u729.2.1 u729.2.2 u751.1 u751.2 ou x4 K) ∧
        (¬ (r729 = r751) →
          K (0 : Int32) ((u729.1, u729.2.1, u729.2.2), (u751.1, u751.2), ou))))) ∧
    (((xs (ix x4)) &&& (31 : Int32)) = (16 : Int32) →
      vp_in (x4 + (1 : Int32)) N ∧ vp_in (x4 + (2 : Int32)) N ∧ vp_in (x4 + (3 : Int32)) N ∧ wpX10_longest F L r (xs (ix (x4 + (1 : Int32)))) (xs (ix (x4 + (2 : Int32)))) (xs (ix (x4 + (3 : Int32)))) (fun r778 u778 =>
          vp_in (x4 + (1 : Int32)) N ∧ vp_in (x4 + (2 : Int32)) N ∧ vp_in (x4 + (3 : Int32)) N ∧ wpX11_longest f g (xs (ix (x4 + (1 : Int32)))) (xs (ix (x4 + (2 : Int32)))) (xs (ix (x4 + (3 : Int32)))) (fun r800 u800 =>
          ((r778 = r800) →
          wpL_lawX_b1182 B23 N xs u778.1 u778.2.1 u778.2.2 u800.1 u800.2 ou x4 K) ∧
        (¬ (r778 = r800) →
          K (0 : Int32) ((u778.1, u778.2.1, u778.2.2), (u800.1, u800.2), ou))))) ∧
    (((xs (ix x4)) &&& (31 : Int32)) = (17 : Int32) →
      vp_in (x4 + (1 : Int32)) N ∧ vp_in (x4 + (2 : Int32)) N ∧ vp_in (x4 + (3 : Int32)) N ∧ wpX10_needs F L r (xs (ix (x4 + (1 : Int32)))) (xs (ix (x4 + (2 : Int32)))) (xs (ix (x4 + (3 : Int32)))) (fun r827 u827 =>
          vp_in (x4 + (1 : Int32)) N ∧ vp_in (x4 + (2 : Int32)) N ∧ vp_in (x4 + (3 : Int32)) N ∧ wpX11_needs f g (xs (ix (x4 + (1 : Int32)))) (xs (ix (x4 + (2 : Int32)))) (xs (ix (x4 + (3 : Int32)))) (fun r849 u849 =>
          ((r827 = r849) →
          wpL_lawX_b1182 B23 N xs u827.1 u827.2.1 u827.2.2 u849.1 u849.2 ou x4 K) ∧
        (¬ (r827 = r849) →
          K (0 : Int32) ((u827.1, u827.2.1, u827.2.2), (u849.1, u849.2), ou))))) ∧
    (((xs (ix x4)) &&& (31 : Int32)) = (18 : Int32) →
      vp_in (x4 + (1 : Int32)) N ∧ wpX10_knows F L r (xs (ix (x4 + (1 : Int32)))) (fun r864 u864 =>
          vp_in (x4 + (1 : Int32)) N ∧ wpX11_knows f g (xs (ix (x4 + (1 : Int32)))) (fun r874 u874 =>
          ((r864 = r874) →
          wpL_lawX_b1182 B23 N xs u864.1 u864.2.1 u864.2.2 u874.1 u874.2 ou x4 K) ∧
        (¬ (r864 = r874) →
          K (0 : Int32) ((u864.1, u864.2.1, u864.2.2), (u874.1, u874.2), ou))))) ∧
    (((xs (ix x4)) &&& (31 : Int32)) = (19 : Int32) →
      vp_in (x4 + (1 : Int32)) N ∧ wpX10_pull F L r (xs (ix (x4 + (1 : Int32)))) (fun r889 u889 =>
          vp_in (x4 + (1 : Int32)) N ∧ wpX11_pull f g (xs (ix (x4 + (1 : Int32)))) (fun r899 u899 =>
          ((r889 = r899) →
          wpL_lawX_b1182 B23 N xs u889.1 u889.2.1 u889.2.2 u899.1 u899.2 ou x4 K) ∧
        (¬ (r889 = r899) →
          K (0 : Int32) ((u889.1, u889.2.1, u889.2.2), (u899.1, u899.2), ou))))) ∧
    (((xs (ix x4)) &&& (31 : Int32)) = (20 : Int32) →
      vp_in (x4 + (1 : Int32)) N ∧ wpX10_pullRun F L r (xs (ix (x4 + (1 : Int32)))) (fun r914 u914 =>
          vp_in (x4 + (1 : Int32)) N ∧ wpX11_pullRun f g (xs (ix (x4 + (1 : Int32)))) (fun r924 u924 =>
          ((r914 = r924) →
          wpL_lawX_b1182 B23 N xs u914.1 u914.2.1 u914.2.2 u924.1 u924.2 ou x4 K) ∧
        (¬ (r914 = r924) →
          K (0 : Int32) ((u914.1, u914.2.1, u914.2.2), (u924.1, u924.2), ou))))) ∧
    (((xs (ix x4)) &&& (31 : Int32)) = (21 : Int32) →
      wpX10_relays F L r (fun r933 u933 =>
          wpX11_relays f g (fun r937 u937 =>
          ((r933 = r937) →
          wpL_lawX_b1182 B23 N xs u933.1 u933.2.1 u933.2.2 u937.1 u937.2 ou x4 K) ∧
        (¬ (r933 = r937) →
          K (0 : Int32) ((u933.1, u933.2.1, u933.2.2), (u937.1, u937.2), ou))))) ∧
    (((xs (ix x4)) &&& (31 : Int32)) = (22 : Int32) →
      wpX10_race F L r (fun r946 u946 =>
          wpX11_race f g (fun r950 u950 =>
          ((r946 = r950) →
          wpL_lawX_b1182 B23 N xs u946.1 u946.2.1 u946.2.2 u950.1 u950.2 ou x4 K) ∧
        (¬ (r946 = r950) →
          K (0 : Int32) ((u946.1, u946.2.1, u946.2.2), (u950.1, u950.2), ou))))) ∧
    (((xs (ix x4)) &&& (31 : Int32)) = (23 : Int32) →
      vp_in (x4 + (1 : Int32)) N ∧ vp_in (x4 + (2 : Int32)) N ∧ wpX10_stick F L r (xs (ix (x4 + (1 : Int32)))) (xs (ix (x4 + (2 : Int32)))) (fun r971 u971 =>
          vp_in (x4 + (1 : Int32)) N ∧ vp_in (x4 + (2 : Int32)) N ∧ wpX11_stick f g (xs (ix (x4 + (1 : Int32)))) (xs (ix (x4 + (2 : Int32)))) (fun r987 u987 =>
          ((r971 = r987) →
          wpL_lawX_b1182 B23 N xs u971.1 u971.2.1 u971.2.2 u987.1 u987.2 ou x4 K) ∧
        (¬ (r971 = r987) →
          K (0 : Int32) ((u971.1, u971.2.1, u971.2.2), (u987.1, u987.2), ou))))) ∧
    (((xs (ix x4)) &&& (31 : Int32)) = (24 : Int32) →
      wpX10_stuck F L r (fun r996 u996 =>
          wpX11_stuck f g (fun r1000 u1000 =>
          ((r996 = r1000) →
          wpL_lawX_b1182 B23 N xs u996.1 u996.2.1 u996.2.2 u1000.1 u1000.2 ou x4 K) ∧
        (¬ (r996 = r1000) →
          K (0 : Int32) ((u996.1, u996.2.1, u996.2.2), (u1000.1, u1000.2), ou))))) ∧
    (((xs (ix x4)) &&& (31 : Int32)) = (25 : Int32) →
      vp_in (x4 + (1 : Int32)) N ∧ wpX10_same F L r (xs (ix (x4 + (1 : Int32)))) (fun r1015 u1015 =>
          vp_in (x4 + (1 : Int32)) N ∧ wpX11_same f g (xs (ix (x4 + (1 : Int32)))) (fun r1025 u1025 =>
          ((r1015 = r1025) →
          wpL_lawX_b1182 B23 N xs u1015.1 u1015.2.1 u1015.2.2 u1025.1 u1025.2 ou x4 K) ∧
        (¬ (r1015 = r1025) →
          K (0 : Int32) ((u1015.1, u1015.2.1, u1015.2.2), (u1025.1, u1025.2), ou))))) ∧
    (((xs (ix x4)) &&& (31 : Int32)) = (26 : Int32) →
      vp_in (x4 + (1 : Int32)) N ∧ vp_in (x4 + (2 : Int32)) N ∧ wpX10_suspects F L r (xs (ix (x4 + (1 : Int32)))) (xs (ix (x4 + (2 : Int32)))) (fun r1046 u1046 =>
          vp_in (x4 + (1 : Int32)) N ∧ vp_in (x4 + (2 : Int32)) N ∧ wpX11_suspects f g (xs (ix (x4 + (1 : Int32)))) (xs (ix (x4 + (2 : Int32)))) (fun r1062 u1062 =>
          ((r1046 = r1062) →
          wpL_lawX_b1182 B23 N xs u1046.1 u1046.2.1 u1046.2.2 u1062.1 u1062.2 ou x4 K) ∧
        (¬ (r1046 = r1062) →
          K (0 : Int32) ((u1046.1, u1046.2.1, u1046.2.2), (u1062.1, u1062.2), ou))))) ∧
    (((xs (ix x4)) &&& (31 : Int32)) = (27 : Int32) →
      vp_in (x4 + (1 : Int32)) N ∧ vp_in (x4 + (2 : Int32)) N ∧ wpX10_trial F L r (xs (ix (x4 + (1 : Int32)))) (xs (ix (x4 + (2 : Int32)))) (fun r1083 u1083 =>
          vp_in (x4 + (1 : Int32)) N ∧ vp_in (x4 + (2 : Int32)) N ∧ wpX11_trial f g (xs (ix (x4 + (1 : Int32)))) (xs (ix (x4 + (2 : Int32)))) (fun r1099 u1099 =>
          ((r1083 = r1099) →
          wpL_lawX_b1182 B23 N xs u1083.1 u1083.2.1 u1083.2.2 u1099.1 u1099.2 ou x4 K) ∧
        (¬ (r1083 = r1099) →
          K (0 : Int32) ((u1083.1, u1083.2.1, u1083.2.2), (u1099.1, u1099.2), ou))))) ∧
    (((xs (ix x4)) &&& (31 : Int32)) = (28 : Int32) →
      vp_in (x4 + (1 : Int32)) N ∧ wpX10_keep F L r (xs (ix (x4 + (1 : Int32)))) (fun r1114 u1114 =>
          vp_in (x4 + (1 : Int32)) N ∧ wpX11_keep f g (xs (ix (x4 + (1 : Int32)))) (fun r1124 u1124 =>
          ((r1114 = r1124) →
          wpL_lawX_b1182 B23 N xs u1114.1 u1114.2.1 u1114.2.2 u1124.1 u1124.2 ou x4 K) ∧
        (¬ (r1114 = r1124) →
          K (0 : Int32) ((u1114.1, u1114.2.1, u1114.2.2), (u1124.1, u1124.2), ou))))) ∧
    (((xs (ix x4)) &&& (31 : Int32)) = (29 : Int32) →
      vp_in (x4 + (1 : Int32)) N ∧ wpX10_restore F L r (xs (ix (x4 + (1 : Int32)))) (fun r1139 u1139 =>
          vp_in (x4 + (1 : Int32)) N ∧ wpX11_restore f g (xs (ix (x4 + (1 : Int32)))) (fun r1149 u1149 =>
          ((r1139 = r1149) →
          wpL_lawX_b1182 B23 N xs u1139.1 u1139.2.1 u1139.2.2 u1149.1 u1149.2 ou x4 K) ∧
        (¬ (r1139 = r1149) →
          K (0 : Int32) ((u1139.1, u1139.2.1, u1139.2.2), (u1149.1, u1149.2), ou))))) ∧
    (((xs (ix x4)) &&& (31 : Int32)) = (30 : Int32) →
      vp_in (x4 + (1 : Int32)) N ∧ wpX10_count F L r (xs (ix (x4 + (1 : Int32)))) (fun r1164 u1164 =>
          vp_in (x4 + (1 : Int32)) N ∧ wpX11_count f g (xs (ix (x4 + (1 : Int32)))) (fun r1174 u1174 =>
          ((r1164 = r1174) →
          wpL_lawX_b1182 B23 N xs u1164.1 u1164.2.1 u1164.2.2 u1174.1 u1174.2 ou x4 K) ∧
        (¬ (r1164 = r1174) →
          K (0 : Int32) ((u1164.1, u1164.2.1, u1164.2.2), (u1174.1, u1174.2), ou))))) ∧
    (((xs (ix x4)) &&& (31 : Int32)).toInt < 0 ∨ 30 < ((xs (ix x4)) &&& (31 : Int32)).toInt →
      wpL_lawX_b1182 B23 N xs F L r f g ou x4 K))
set_option maxHeartbeats 4000000 in
set_option maxRecDepth 100000 in
theorem tL_lawX_b23_body {N : Nat} {xs : Nat → Int32} {B23 : (Nat → Nat → Int32) → (Nat → Nat → Int64) → (Nat → Nat → Nat) → (Nat → Int32) → (Nat → Nat → Int32) → (Nat → Int64) → Int32 → Prop} {K : Int32 → lS → Prop} (C : CallFix p m c code 7 s args (Cond.initialized RX10 :: WL) RL) (hR : ∀ ca sa : Nat, ca ≤ 600002 → sa ≤ 7302232 → LRt ca sa p l e room_1 s m args below meth c code D A (T0 cI cZ cL cF cM) (lWu h o hm q cI cZ cL cF cM) K Q) (hX : va_X b N xs s s.heap) (hbl : b < s.heap.size) (hbA : ¬ A b) (hT : EXt s) (hZ : Zs A s s.heap) (hl0 : l.stackTraces = false) (hcc : cc + 1 ≤ 600002) (hsc : sc + 6 ≤ 7302232) (hB23 : ∀ (F : Nat → Nat → Int32) (L : Nat → Nat → Int64) (r : Nat → Nat → Nat) (f : Nat → Int32) (g : Nat → Nat → Int32) (ou : Nat → Int64) (x4 : Int32) (H : Heap) (locs : List Loc) (ls : Array Slot), B23 F L r f g ou x4 → Wd D A s (T0 cI cZ cL cF cM) (lW h o hm q cI cZ cL cF cM F L r f g ou) H locs → lv_has ls 7 [(0, .ref b), (1, .ref (h 0)), (2, .ref o), (3, .ref q), (4, .int x4)] → W p l e room_1 s m args below meth c H locs (cc + 1) (sc + 6) Q (F0 m 23 ls [])) {F : Nat → Nat → Int32} {L : Nat → Nat → Int64} {r : Nat → Nat → Nat} {f : Nat → Int32} {g : Nat → Nat → Int32} {ou : Nat → Int64} {x4 : Int32} (hh : wpL_lawX_b23_body B23 N xs F L r f g ou x4 K) {H : Heap} {locs : List Loc} {ls : Array Slot} (hw : Wd D A s (T0 cI cZ cL cF cM) (lW h o hm q cI cZ cL cF cM F L r f g ou) H locs) (hl : lv_has ls 7 [(0, .ref b), (1, .ref (h 0)), (2, .ref o), (3, .ref q), (4, .int x4)]) : W p l e room_1 s m args below meth c H locs cc sc Q (F0 m 23 ls []) := by
  unfold wpL_lawX_b23_body at hh
  refine lv_iload C.1 C.2.1 dL_law_23 (lv_at hl 4 rfl) ?_
  refine lv_aload_n C.1 C.2.1 dL_law_25 rfl (lv_at hl 0 rfl) ?_
  refine va_slen C.1 C.2.1 hX hbl hbA hw.2.2.2.1 dL_law_26 ?_
  refine lv_bipush (v := (6 : Int32)) C.1 C.2.1 dL_law_27 (by decide) ?_
  refine lv_isub C.1 C.2.1 dL_law_29 ?_
  refine lv_icmp_gt (tgt := 1188) C.1 C.2.1 dL_law_30 (by decide) (fun c30 => ?_) (fun c30 => ?_)
  · replace hh := hh.1 c30
    refine lv_iconst (v := (1 : Int32)) C.1 C.2.1 dL_law_1188 (by decide) ?_
    exact hR _ _ (by omega) (by omega) _ _ _ ((F, L, r), (f, g), ou) _ _ dL_law_1189 rfl hh hw
  · replace hh := hh.2 c30
    refine lv_aload_n C.1 C.2.1 dL_law_33 rfl (lv_at hl 0 rfl) ?_
    refine lv_iload C.1 C.2.1 dL_law_34 (lv_at hl 4 rfl) ?_
    obtain ⟨hi36, hh⟩ := hh
    refine va_sld C.1 C.2.1 hX hbl hbA hw.2.2.2.1 hi36 dL_law_36 ?_
    refine lv_bipush (v := (31 : Int32)) C.1 C.2.1 dL_law_37 (by decide) ?_
    refine lv_iand C.1 C.2.1 dL_law_39 ?_
    refine sw_in (x := (xs (ix x4)) &&& (31 : Int32)) (lo := 0) (hi := 30) (fun hlo hhi => ?_) (fun ho => ?_)
    · have hv : ((xs (ix x4)) &&& (31 : Int32)).toInt = 0 ∨ ((xs (ix x4)) &&& (31 : Int32)).toInt = 1 ∨ ((xs (ix x4)) &&& (31 : Int32)).toInt = 2 ∨ ((xs (ix x4)) &&& (31 : Int32)).toInt = 3 ∨ ((xs (ix x4)) &&& (31 : Int32)).toInt = 4 ∨ ((xs (ix x4)) &&& (31 : Int32)).toInt = 5 ∨ ((xs (ix x4)) &&& (31 : Int32)).toInt = 6 ∨ ((xs (ix x4)) &&& (31 : Int32)).toInt = 7 ∨ ((xs (ix x4)) &&& (31 : Int32)).toInt = 8 ∨ ((xs (ix x4)) &&& (31 : Int32)).toInt = 9 ∨ ((xs (ix x4)) &&& (31 : Int32)).toInt = 10 ∨ ((xs (ix x4)) &&& (31 : Int32)).toInt = 11 ∨ ((xs (ix x4)) &&& (31 : Int32)).toInt = 12 ∨ ((xs (ix x4)) &&& (31 : Int32)).toInt = 13 ∨ ((xs (ix x4)) &&& (31 : Int32)).toInt = 14 ∨ ((xs (ix x4)) &&& (31 : Int32)).toInt = 15 ∨ ((xs (ix x4)) &&& (31 : Int32)).toInt = 16 ∨ ((xs (ix x4)) &&& (31 : Int32)).toInt = 17 ∨ ((xs (ix x4)) &&& (31 : Int32)).toInt = 18 ∨ ((xs (ix x4)) &&& (31 : Int32)).toInt = 19 ∨ ((xs (ix x4)) &&& (31 : Int32)).toInt = 20 ∨ ((xs (ix x4)) &&& (31 : Int32)).toInt = 21 ∨ ((xs (ix x4)) &&& (31 : Int32)).toInt = 22 ∨ ((xs (ix x4)) &&& (31 : Int32)).toInt = 23 ∨ ((xs (ix x4)) &&& (31 : Int32)).toInt = 24 ∨ ((xs (ix x4)) &&& (31 : Int32)).toInt = 25 ∨ ((xs (ix x4)) &&& (31 : Int32)).toInt = 26 ∨ ((xs (ix x4)) &&& (31 : Int32)).toInt = 27 ∨ ((xs (ix x4)) &&& (31 : Int32)).toInt = 28 ∨ ((xs (ix x4)) &&& (31 : Int32)).toInt = 29 ∨ ((xs (ix x4)) &&& (31 : Int32)).toInt = 30 := by omega
      rcases hv with hv | hv | hv | hv | hv | hv | hv | hv | hv | hv | hv | hv | hv | hv | hv | hv | hv | hv | hv | hv | hv | hv | hv | hv | hv | hv | hv | hv | hv | hv | hv
      · replace hh := hh.1 (sw_eq hv (by decide))
        refine lv_tableIn (off := 140) (tgt := 180) C.1 C.2.1 dL_law_40 hlo hhi (by rw [hv]; rfl) (by decide) ?_
        refine lv_aload_n C.1 C.2.1 dL_law_180 rfl (lv_at hl 1 rfl) ?_
        refine lv_aload_n C.1 C.2.1 dL_law_181 rfl (lv_at hl 0 rfl) ?_
        refine lv_iload C.1 C.2.1 dL_law_182 (lv_at hl 4 rfl) ?_
        refine lv_iconst (v := (1 : Int32)) C.1 C.2.1 dL_law_184 (by decide) ?_
        refine lv_iadd C.1 C.2.1 dL_law_185 ?_
        obtain ⟨hi186, hh⟩ := hh
        refine va_sld C.1 C.2.1 hX hbl hbA hw.2.2.2.1 hi186 dL_law_186 ?_
        refine lv_aload_n C.1 C.2.1 dL_law_187 rfl (lv_at hl 0 rfl) ?_
        refine lv_iload C.1 C.2.1 dL_law_188 (lv_at hl 4 rfl) ?_
        refine lv_iconst (v := (2 : Int32)) C.1 C.2.1 dL_law_190 (by decide) ?_
        refine lv_iadd C.1 C.2.1 dL_law_191 ?_
        obtain ⟨hi192, hh⟩ := hh
        refine va_sld C.1 C.2.1 hX hbl hbA hw.2.2.2.1 hi192 dL_law_192 ?_
        refine lv_aload_n C.1 C.2.1 dL_law_193 rfl (lv_at hl 0 rfl) ?_
        refine lv_iload C.1 C.2.1 dL_law_194 (lv_at hl 4 rfl) ?_
        refine lv_iconst (v := (3 : Int32)) C.1 C.2.1 dL_law_196 (by decide) ?_
        refine lv_iadd C.1 C.2.1 dL_law_197 ?_
        obtain ⟨hi198, hh⟩ := hh
        refine va_sld C.1 C.2.1 hX hbl hbA hw.2.2.2.1 hi198 dL_law_198 ?_
        refine lv_aload_n C.1 C.2.1 dL_law_199 rfl (lv_at hl 0 rfl) ?_
        refine lv_iload C.1 C.2.1 dL_law_200 (lv_at hl 4 rfl) ?_
        refine lv_iconst (v := (4 : Int32)) C.1 C.2.1 dL_law_202 (by decide) ?_
        refine lv_iadd C.1 C.2.1 dL_law_203 ?_
        obtain ⟨hi204, hh⟩ := hh
        refine va_sld C.1 C.2.1 hX hbl hbA hw.2.2.2.1 hi204 dL_law_204 ?_
        refine lv_aload_n C.1 C.2.1 dL_law_205 rfl (lv_at hl 0 rfl) ?_
        refine lv_iload C.1 C.2.1 dL_law_206 (lv_at hl 4 rfl) ?_
        refine lv_iconst (v := (5 : Int32)) C.1 C.2.1 dL_law_208 (by decide) ?_
        refine lv_iadd C.1 C.2.1 dL_law_209 ?_
        obtain ⟨hi210, hh⟩ := hh
        refine va_sld C.1 C.2.1 hX hbl hbA hw.2.2.2.1 hi210 dL_law_210 ?_
        refine lx_Vi C hw (ctX10_feed l D h cI cL cF cM F L r (xs (ix (x4 + (1 : Int32)))) (xs (ix (x4 + (2 : Int32)))) (xs (ix (x4 + (3 : Int32)))) (xs (ix (x4 + (4 : Int32)))) (xs (ix (x4 + (5 : Int32)))) hh) (cwV 5 C.2.2.2.2 (gd_V w_616 w_617 w_618 w_114 w_619) rfl rfl rfl cdX10_feed ⟨Nat.le_of_ble_eq_true rfl, Nat.le_of_ble_eq_true rfl⟩) rfl hl.1 (Nat.le_of_ble_eq_true rfl) dL_law_211 ⟨rmc (by omega), rms (by omega)⟩ (fun r211 u211 H locs hh hw => ?_) rfl
        refine lv_aload_n C.1 C.2.1 dL_law_214 rfl (lv_at hl 2 rfl) ?_
        refine lv_aload_n C.1 C.2.1 dL_law_215 rfl (lv_at hl 0 rfl) ?_
        refine lv_iload C.1 C.2.1 dL_law_216 (lv_at hl 4 rfl) ?_
        refine lv_iconst (v := (1 : Int32)) C.1 C.2.1 dL_law_218 (by decide) ?_
        refine lv_iadd C.1 C.2.1 dL_law_219 ?_
        obtain ⟨hi220, hh⟩ := hh
        refine va_sld C.1 C.2.1 hX hbl hbA hw.2.2.2.1 hi220 dL_law_220 ?_
        refine lv_aload_n C.1 C.2.1 dL_law_221 rfl (lv_at hl 0 rfl) ?_
        refine lv_iload C.1 C.2.1 dL_law_222 (lv_at hl 4 rfl) ?_
        refine lv_iconst (v := (2 : Int32)) C.1 C.2.1 dL_law_224 (by decide) ?_
        refine lv_iadd C.1 C.2.1 dL_law_225 ?_
        obtain ⟨hi226, hh⟩ := hh
        refine va_sld C.1 C.2.1 hX hbl hbA hw.2.2.2.1 hi226 dL_law_226 ?_
        refine lv_aload_n C.1 C.2.1 dL_law_227 rfl (lv_at hl 0 rfl) ?_
        refine lv_iload C.1 C.2.1 dL_law_228 (lv_at hl 4 rfl) ?_
        refine lv_iconst (v := (3 : Int32)) C.1 C.2.1 dL_law_230 (by decide) ?_
        refine lv_iadd C.1 C.2.1 dL_law_231 ?_
        obtain ⟨hi232, hh⟩ := hh
        refine va_sld C.1 C.2.1 hX hbl hbA hw.2.2.2.1 hi232 dL_law_232 ?_
        refine lv_aload_n C.1 C.2.1 dL_law_233 rfl (lv_at hl 0 rfl) ?_
        refine lv_iload C.1 C.2.1 dL_law_234 (lv_at hl 4 rfl) ?_
        refine lv_iconst (v := (4 : Int32)) C.1 C.2.1 dL_law_236 (by decide) ?_
        refine lv_iadd C.1 C.2.1 dL_law_237 ?_
        obtain ⟨hi238, hh⟩ := hh
        refine va_sld C.1 C.2.1 hX hbl hbA hw.2.2.2.1 hi238 dL_law_238 ?_
        refine lv_aload_n C.1 C.2.1 dL_law_239 rfl (lv_at hl 0 rfl) ?_
        refine lv_iload C.1 C.2.1 dL_law_240 (lv_at hl 4 rfl) ?_
        refine lv_iconst (v := (5 : Int32)) C.1 C.2.1 dL_law_242 (by decide) ?_
        refine lv_iadd C.1 C.2.1 dL_law_243 ?_
        obtain ⟨hi244, hh⟩ := hh
        refine va_sld C.1 C.2.1 hX hbl hbA hw.2.2.2.1 hi244 dL_law_244 ?_
        refine lm_Vi C hw (ctX11_feed l D o hm cI cZ f g (xs (ix (x4 + (1 : Int32)))) (xs (ix (x4 + (2 : Int32)))) (xs (ix (x4 + (3 : Int32)))) (xs (ix (x4 + (4 : Int32)))) (xs (ix (x4 + (5 : Int32)))) hh) (cwV 5 C.2.2.2.2 (gd_V w_1690 w_1691 w_1692 w_125 w_1693) rfl rfl rfl cdX11_feed ⟨Nat.le_of_ble_eq_true rfl, Nat.le_of_ble_eq_true rfl⟩) rfl hl.1 (Nat.le_of_ble_eq_true rfl) dL_law_245 ⟨rmc (by omega), rms (by omega)⟩ (fun r245 u245 H locs hh hw => ?_) rfl
        refine lv_icmp_eq (tgt := 1182) C.1 C.2.1 dL_law_248 (by decide) (fun c248 => ?_) (fun c248 => ?_)
        · replace hh := hh.1 c248
          first | exact tL_lawX_b1182 C hR hX hbl hbA hT hZ hl0 hcc hsc hB23 hh hw hl | exact W.widen (Nat.le_succ _) (Nat.le_add_right _ 6) (tL_lawX_b1182 C hR hX hbl hbA hT hZ hl0 hcc hsc hB23 hh hw hl)
        · replace hh := hh.2 c248
          refine lv_iconst (v := (0 : Int32)) C.1 C.2.1 dL_law_251 (by decide) ?_
          exact hR _ _ (by omega) (by omega) _ _ _ ((u211.1, u211.2.1, u211.2.2), (u245.1, u245.2), ou) _ _ dL_law_252 rfl hh hw
      · replace hh := hh.2.1 (sw_eq hv (by decide))
        refine lv_tableIn (off := 213) (tgt := 253) C.1 C.2.1 dL_law_40 hlo hhi (by rw [hv]; rfl) (by decide) ?_
        refine lv_aload_n C.1 C.2.1 dL_law_253 rfl (lv_at hl 1 rfl) ?_
        refine lv_aload_n C.1 C.2.1 dL_law_254 rfl (lv_at hl 0 rfl) ?_
        refine lv_iload C.1 C.2.1 dL_law_255 (lv_at hl 4 rfl) ?_
        refine lv_iconst (v := (1 : Int32)) C.1 C.2.1 dL_law_257 (by decide) ?_
        refine lv_iadd C.1 C.2.1 dL_law_258 ?_
        obtain ⟨hi259, hh⟩ := hh
        refine va_sld C.1 C.2.1 hX hbl hbA hw.2.2.2.1 hi259 dL_law_259 ?_
        refine lx_Vi C hw (ctX10_rules l D h cI cL cF cM F L r (xs (ix (x4 + (1 : Int32)))) hh) (cwV 1 C.2.2.2.2 (gd_V w_628 w_629 w_630 w_114 w_631) rfl rfl rfl cdX10_rules ⟨Nat.le_of_ble_eq_true rfl, Nat.le_of_ble_eq_true rfl⟩) rfl hl.1 (Nat.le_of_ble_eq_true rfl) dL_law_260 ⟨rmc (by omega), rms (by omega)⟩ (fun r260 u260 H locs hh hw => ?_) rfl
        refine lv_aload_n C.1 C.2.1 dL_law_263 rfl (lv_at hl 2 rfl) ?_
        refine lv_aload_n C.1 C.2.1 dL_law_264 rfl (lv_at hl 0 rfl) ?_
        refine lv_iload C.1 C.2.1 dL_law_265 (lv_at hl 4 rfl) ?_
        refine lv_iconst (v := (1 : Int32)) C.1 C.2.1 dL_law_267 (by decide) ?_
        refine lv_iadd C.1 C.2.1 dL_law_268 ?_
        obtain ⟨hi269, hh⟩ := hh
        refine va_sld C.1 C.2.1 hX hbl hbA hw.2.2.2.1 hi269 dL_law_269 ?_
        refine lm_Vi C hw (ctX11_rules l D o hm cI cZ f g (xs (ix (x4 + (1 : Int32)))) hh) (cwV 1 C.2.2.2.2 (gd_V w_1694 w_1695 w_1696 w_125 w_1697) rfl rfl rfl cdX11_rules ⟨Nat.le_of_ble_eq_true rfl, Nat.le_of_ble_eq_true rfl⟩) rfl hl.1 (Nat.le_of_ble_eq_true rfl) dL_law_270 ⟨rmc (by omega), rms (by omega)⟩ (fun r270 u270 H locs hh hw => ?_) rfl
        refine lv_icmp_eq (tgt := 1182) C.1 C.2.1 dL_law_273 (by decide) (fun c273 => ?_) (fun c273 => ?_)
        · replace hh := hh.1 c273
          first | exact tL_lawX_b1182 C hR hX hbl hbA hT hZ hl0 hcc hsc hB23 hh hw hl | exact W.widen (Nat.le_succ _) (Nat.le_add_right _ 6) (tL_lawX_b1182 C hR hX hbl hbA hT hZ hl0 hcc hsc hB23 hh hw hl)
        · replace hh := hh.2 c273
          refine lv_iconst (v := (0 : Int32)) C.1 C.2.1 dL_law_276 (by decide) ?_
          exact hR _ _ (by omega) (by omega) _ _ _ ((u260.1, u260.2.1, u260.2.2), (u270.1, u270.2), ou) _ _ dL_law_277 rfl hh hw
      · replace hh := hh.2.2.1 (sw_eq hv (by decide))
        refine lv_tableIn (off := 238) (tgt := 278) C.1 C.2.1 dL_law_40 hlo hhi (by rw [hv]; rfl) (by decide) ?_
        refine lv_aload_n C.1 C.2.1 dL_law_278 rfl (lv_at hl 1 rfl) ?_
        refine lv_aload_n C.1 C.2.1 dL_law_279 rfl (lv_at hl 0 rfl) ?_
        refine lv_iload C.1 C.2.1 dL_law_280 (lv_at hl 4 rfl) ?_
        refine lv_iconst (v := (1 : Int32)) C.1 C.2.1 dL_law_282 (by decide) ?_
        refine lv_iadd C.1 C.2.1 dL_law_283 ?_
        obtain ⟨hi284, hh⟩ := hh
        refine va_sld C.1 C.2.1 hX hbl hbA hw.2.2.2.1 hi284 dL_law_284 ?_
        refine lx_Vi C hw (ctX10_net l D h cI cL cF cM F L r (xs (ix (x4 + (1 : Int32)))) hh) (cwV 1 C.2.2.2.2 (gd_V w_812 w_813 w_814 w_114 w_815) rfl rfl rfl cdX10_net ⟨Nat.le_of_ble_eq_true rfl, Nat.le_of_ble_eq_true rfl⟩) rfl hl.1 (Nat.le_of_ble_eq_true rfl) dL_law_285 ⟨rmc (by omega), rms (by omega)⟩ (fun r285 u285 H locs hh hw => ?_) rfl
        refine lv_aload_n C.1 C.2.1 dL_law_288 rfl (lv_at hl 2 rfl) ?_
        refine lv_aload_n C.1 C.2.1 dL_law_289 rfl (lv_at hl 0 rfl) ?_
        refine lv_iload C.1 C.2.1 dL_law_290 (lv_at hl 4 rfl) ?_
        refine lv_iconst (v := (1 : Int32)) C.1 C.2.1 dL_law_292 (by decide) ?_
        refine lv_iadd C.1 C.2.1 dL_law_293 ?_
        obtain ⟨hi294, hh⟩ := hh
        refine va_sld C.1 C.2.1 hX hbl hbA hw.2.2.2.1 hi294 dL_law_294 ?_
        refine lm_Vi C hw (ctX11_net l D o hm cI cZ f g (xs (ix (x4 + (1 : Int32)))) hh) (cwV 1 C.2.2.2.2 (gd_V w_1757 w_1758 w_1759 w_125 w_1760) rfl rfl rfl cdX11_net ⟨Nat.le_of_ble_eq_true rfl, Nat.le_of_ble_eq_true rfl⟩) rfl hl.1 (Nat.le_of_ble_eq_true rfl) dL_law_295 ⟨rmc (by omega), rms (by omega)⟩ (fun r295 u295 H locs hh hw => ?_) rfl
        refine lv_icmp_eq (tgt := 1182) C.1 C.2.1 dL_law_298 (by decide) (fun c298 => ?_) (fun c298 => ?_)
        · replace hh := hh.1 c298
          first | exact tL_lawX_b1182 C hR hX hbl hbA hT hZ hl0 hcc hsc hB23 hh hw hl | exact W.widen (Nat.le_succ _) (Nat.le_add_right _ 6) (tL_lawX_b1182 C hR hX hbl hbA hT hZ hl0 hcc hsc hB23 hh hw hl)
        · replace hh := hh.2 c298
          refine lv_iconst (v := (0 : Int32)) C.1 C.2.1 dL_law_301 (by decide) ?_
          exact hR _ _ (by omega) (by omega) _ _ _ ((u285.1, u285.2.1, u285.2.2), (u295.1, u295.2), ou) _ _ dL_law_302 rfl hh hw
      · replace hh := hh.2.2.2.1 (sw_eq hv (by decide))
        refine lv_tableIn (off := 263) (tgt := 303) C.1 C.2.1 dL_law_40 hlo hhi (by rw [hv]; rfl) (by decide) ?_
        refine lv_aload_n C.1 C.2.1 dL_law_303 rfl (lv_at hl 1 rfl) ?_
        refine lv_aload_n C.1 C.2.1 dL_law_304 rfl (lv_at hl 0 rfl) ?_
        refine lv_iload C.1 C.2.1 dL_law_305 (lv_at hl 4 rfl) ?_
        refine lv_iconst (v := (1 : Int32)) C.1 C.2.1 dL_law_307 (by decide) ?_
        refine lv_iadd C.1 C.2.1 dL_law_308 ?_
        obtain ⟨hi309, hh⟩ := hh
        refine va_sld C.1 C.2.1 hX hbl hbA hw.2.2.2.1 hi309 dL_law_309 ?_
        refine lx_Vi C hw (ctX10_fault l D h cI cL cF cM F L r (xs (ix (x4 + (1 : Int32)))) hh) (cwV 1 C.2.2.2.2 (gd_V w_904 w_905 w_906 w_114 w_907) rfl rfl rfl cdX10_fault ⟨Nat.le_of_ble_eq_true rfl, Nat.le_of_ble_eq_true rfl⟩) rfl hl.1 (Nat.le_of_ble_eq_true rfl) dL_law_310 ⟨rmc (by omega), rms (by omega)⟩ (fun r310 u310 H locs hh hw => ?_) rfl
        refine lv_aload_n C.1 C.2.1 dL_law_313 rfl (lv_at hl 2 rfl) ?_
        refine lv_aload_n C.1 C.2.1 dL_law_314 rfl (lv_at hl 0 rfl) ?_
        refine lv_iload C.1 C.2.1 dL_law_315 (lv_at hl 4 rfl) ?_
        refine lv_iconst (v := (1 : Int32)) C.1 C.2.1 dL_law_317 (by decide) ?_
        refine lv_iadd C.1 C.2.1 dL_law_318 ?_
        obtain ⟨hi319, hh⟩ := hh
        refine va_sld C.1 C.2.1 hX hbl hbA hw.2.2.2.1 hi319 dL_law_319 ?_
        refine lm_Vi C hw (ctX11_fault l D o hm cI cZ f g (xs (ix (x4 + (1 : Int32)))) hh) (cwV 1 C.2.2.2.2 (gd_V w_1753 w_1754 w_1755 w_125 w_1756) rfl rfl rfl cdX11_fault ⟨Nat.le_of_ble_eq_true rfl, Nat.le_of_ble_eq_true rfl⟩) rfl hl.1 (Nat.le_of_ble_eq_true rfl) dL_law_320 ⟨rmc (by omega), rms (by omega)⟩ (fun r320 u320 H locs hh hw => ?_) rfl
        refine lv_icmp_eq (tgt := 1182) C.1 C.2.1 dL_law_323 (by decide) (fun c323 => ?_) (fun c323 => ?_)
        · replace hh := hh.1 c323
          first | exact tL_lawX_b1182 C hR hX hbl hbA hT hZ hl0 hcc hsc hB23 hh hw hl | exact W.widen (Nat.le_succ _) (Nat.le_add_right _ 6) (tL_lawX_b1182 C hR hX hbl hbA hT hZ hl0 hcc hsc hB23 hh hw hl)
        · replace hh := hh.2 c323
          refine lv_iconst (v := (0 : Int32)) C.1 C.2.1 dL_law_326 (by decide) ?_
          exact hR _ _ (by omega) (by omega) _ _ _ ((u310.1, u310.2.1, u310.2.2), (u320.1, u320.2), ou) _ _ dL_law_327 rfl hh hw
      · replace hh := hh.2.2.2.2.1 (sw_eq hv (by decide))
        refine lv_tableIn (off := 288) (tgt := 328) C.1 C.2.1 dL_law_40 hlo hhi (by rw [hv]; rfl) (by decide) ?_
        refine lv_aload_n C.1 C.2.1 dL_law_328 rfl (lv_at hl 1 rfl) ?_
        refine lv_aload_n C.1 C.2.1 dL_law_329 rfl (lv_at hl 0 rfl) ?_
        refine lv_iload C.1 C.2.1 dL_law_330 (lv_at hl 4 rfl) ?_
        refine lv_iconst (v := (1 : Int32)) C.1 C.2.1 dL_law_332 (by decide) ?_
        refine lv_iadd C.1 C.2.1 dL_law_333 ?_
        obtain ⟨hi334, hh⟩ := hh
        refine va_sld C.1 C.2.1 hX hbl hbA hw.2.2.2.1 hi334 dL_law_334 ?_
        refine lv_aload_n C.1 C.2.1 dL_law_335 rfl (lv_at hl 0 rfl) ?_
        refine lv_iload C.1 C.2.1 dL_law_336 (lv_at hl 4 rfl) ?_
        refine lv_iconst (v := (2 : Int32)) C.1 C.2.1 dL_law_338 (by decide) ?_
        refine lv_iadd C.1 C.2.1 dL_law_339 ?_
        obtain ⟨hi340, hh⟩ := hh
        refine va_sld C.1 C.2.1 hX hbl hbA hw.2.2.2.1 hi340 dL_law_340 ?_
        refine lx_Vi C hw (ctX10_floor l D h cI cL cF cM F L r (xs (ix (x4 + (1 : Int32)))) (xs (ix (x4 + (2 : Int32)))) hh) (cwV 2 C.2.2.2.2 (gd_V w_908 w_909 w_910 w_114 w_911) rfl rfl rfl cdX10_floor ⟨Nat.le_of_ble_eq_true rfl, Nat.le_of_ble_eq_true rfl⟩) rfl hl.1 (Nat.le_of_ble_eq_true rfl) dL_law_341 ⟨rmc (by omega), rms (by omega)⟩ (fun r341 u341 H locs hh hw => ?_) rfl
        refine lv_aload_n C.1 C.2.1 dL_law_344 rfl (lv_at hl 2 rfl) ?_
        refine lv_aload_n C.1 C.2.1 dL_law_345 rfl (lv_at hl 0 rfl) ?_
        refine lv_iload C.1 C.2.1 dL_law_346 (lv_at hl 4 rfl) ?_
        refine lv_iconst (v := (1 : Int32)) C.1 C.2.1 dL_law_348 (by decide) ?_
        refine lv_iadd C.1 C.2.1 dL_law_349 ?_
        obtain ⟨hi350, hh⟩ := hh
        refine va_sld C.1 C.2.1 hX hbl hbA hw.2.2.2.1 hi350 dL_law_350 ?_
        refine lv_aload_n C.1 C.2.1 dL_law_351 rfl (lv_at hl 0 rfl) ?_
        refine lv_iload C.1 C.2.1 dL_law_352 (lv_at hl 4 rfl) ?_
        refine lv_iconst (v := (2 : Int32)) C.1 C.2.1 dL_law_354 (by decide) ?_
        refine lv_iadd C.1 C.2.1 dL_law_355 ?_
        obtain ⟨hi356, hh⟩ := hh
        refine va_sld C.1 C.2.1 hX hbl hbA hw.2.2.2.1 hi356 dL_law_356 ?_
        refine lm_Vi C hw (ctX11_floor l D o hm cI cZ f g (xs (ix (x4 + (1 : Int32)))) (xs (ix (x4 + (2 : Int32)))) hh) (cwV 2 C.2.2.2.2 (gd_V w_1804 w_1805 w_1806 w_125 w_1807) rfl rfl rfl cdX11_floor ⟨Nat.le_of_ble_eq_true rfl, Nat.le_of_ble_eq_true rfl⟩) rfl hl.1 (Nat.le_of_ble_eq_true rfl) dL_law_357 ⟨rmc (by omega), rms (by omega)⟩ (fun r357 u357 H locs hh hw => ?_) rfl
        refine lv_icmp_eq (tgt := 1182) C.1 C.2.1 dL_law_360 (by decide) (fun c360 => ?_) (fun c360 => ?_)
        · replace hh := hh.1 c360
          first | exact tL_lawX_b1182 C hR hX hbl hbA hT hZ hl0 hcc hsc hB23 hh hw hl | exact W.widen (Nat.le_succ _) (Nat.le_add_right _ 6) (tL_lawX_b1182 C hR hX hbl hbA hT hZ hl0 hcc hsc hB23 hh hw hl)
        · replace hh := hh.2 c360
          refine lv_iconst (v := (0 : Int32)) C.1 C.2.1 dL_law_363 (by decide) ?_
          exact hR _ _ (by omega) (by omega) _ _ _ ((u341.1, u341.2.1, u341.2.2), (u357.1, u357.2), ou) _ _ dL_law_364 rfl hh hw
      · replace hh := hh.2.2.2.2.2.1 (sw_eq hv (by decide))
        refine lv_tableIn (off := 325) (tgt := 365) C.1 C.2.1 dL_law_40 hlo hhi (by rw [hv]; rfl) (by decide) ?_
        refine lv_aload_n C.1 C.2.1 dL_law_365 rfl (lv_at hl 1 rfl) ?_
        refine lv_aload_n C.1 C.2.1 dL_law_366 rfl (lv_at hl 0 rfl) ?_
        refine lv_iload C.1 C.2.1 dL_law_367 (lv_at hl 4 rfl) ?_
        refine lv_iconst (v := (1 : Int32)) C.1 C.2.1 dL_law_369 (by decide) ?_
        refine lv_iadd C.1 C.2.1 dL_law_370 ?_
        obtain ⟨hi371, hh⟩ := hh
        refine va_sld C.1 C.2.1 hX hbl hbA hw.2.2.2.1 hi371 dL_law_371 ?_
        refine lv_aload_n C.1 C.2.1 dL_law_372 rfl (lv_at hl 0 rfl) ?_
        refine lv_iload C.1 C.2.1 dL_law_373 (lv_at hl 4 rfl) ?_
        refine lv_iconst (v := (2 : Int32)) C.1 C.2.1 dL_law_375 (by decide) ?_
        refine lv_iadd C.1 C.2.1 dL_law_376 ?_
        obtain ⟨hi377, hh⟩ := hh
        refine va_sld C.1 C.2.1 hX hbl hbA hw.2.2.2.1 hi377 dL_law_377 ?_
        refine lv_aload_n C.1 C.2.1 dL_law_378 rfl (lv_at hl 0 rfl) ?_
        refine lv_iload C.1 C.2.1 dL_law_379 (lv_at hl 4 rfl) ?_
        refine lv_iconst (v := (3 : Int32)) C.1 C.2.1 dL_law_381 (by decide) ?_
        refine lv_iadd C.1 C.2.1 dL_law_382 ?_
        obtain ⟨hi383, hh⟩ := hh
        refine va_sld C.1 C.2.1 hX hbl hbA hw.2.2.2.1 hi383 dL_law_383 ?_
        refine lv_if_eq (tgt := 391) C.1 C.2.1 dL_law_384 (by decide) (fun c384 => ?_) (fun c384 => ?_)
        · replace hh := hh.1 c384
          refine lv_iconst (v := (0 : Int32)) C.1 C.2.1 dL_law_391 (by decide) ?_
          exact tL_lawX_b392 C hR hX hbl hbA hT hZ hl0 hcc hsc hB23 hh hw hl
        · replace hh := hh.2 c384
          refine lv_iconst (v := (1 : Int32)) C.1 C.2.1 dL_law_387 (by decide) ?_
          refine lv_goto (tgt := 392) C.1 C.2.1 dL_law_388 (by decide) ?_
          exact tL_lawX_b392 C hR hX hbl hbA hT hZ hl0 hcc hsc hB23 hh hw hl
      · replace hh := hh.2.2.2.2.2.2.1 (sw_eq hv (by decide))
        refine lv_tableIn (off := 390) (tgt := 430) C.1 C.2.1 dL_law_40 hlo hhi (by rw [hv]; rfl) (by decide) ?_
        refine lv_aload_n C.1 C.2.1 dL_law_430 rfl (lv_at hl 1 rfl) ?_
        refine lv_aload_n C.1 C.2.1 dL_law_431 rfl (lv_at hl 0 rfl) ?_
        refine lv_iload C.1 C.2.1 dL_law_432 (lv_at hl 4 rfl) ?_
        refine lv_iconst (v := (1 : Int32)) C.1 C.2.1 dL_law_434 (by decide) ?_
        refine lv_iadd C.1 C.2.1 dL_law_435 ?_
        obtain ⟨hi436, hh⟩ := hh
        refine va_sld C.1 C.2.1 hX hbl hbA hw.2.2.2.1 hi436 dL_law_436 ?_
        refine lx_Vi C hw (ctX10_bell l D h cI cL cF cM F L r (xs (ix (x4 + (1 : Int32)))) hh) (cwV 1 C.2.2.2.2 (gd_V w_965 w_966 w_967 w_114 w_968) rfl rfl rfl cdX10_bell ⟨Nat.le_of_ble_eq_true rfl, Nat.le_of_ble_eq_true rfl⟩) rfl hl.1 (Nat.le_of_ble_eq_true rfl) dL_law_437 ⟨rmc (by omega), rms (by omega)⟩ (fun r437 u437 H locs hh hw => ?_) rfl
        refine lv_aload_n C.1 C.2.1 dL_law_440 rfl (lv_at hl 2 rfl) ?_
        refine lv_aload_n C.1 C.2.1 dL_law_441 rfl (lv_at hl 0 rfl) ?_
        refine lv_iload C.1 C.2.1 dL_law_442 (lv_at hl 4 rfl) ?_
        refine lv_iconst (v := (1 : Int32)) C.1 C.2.1 dL_law_444 (by decide) ?_
        refine lv_iadd C.1 C.2.1 dL_law_445 ?_
        obtain ⟨hi446, hh⟩ := hh
        refine va_sld C.1 C.2.1 hX hbl hbA hw.2.2.2.1 hi446 dL_law_446 ?_
        refine lm_Vi C hw (ctX11_bell l D o hm cI cZ f g (xs (ix (x4 + (1 : Int32)))) hh) (cwV 1 C.2.2.2.2 (gd_V w_1838 w_1839 w_1840 w_125 w_1841) rfl rfl rfl cdX11_bell ⟨Nat.le_of_ble_eq_true rfl, Nat.le_of_ble_eq_true rfl⟩) rfl hl.1 (Nat.le_of_ble_eq_true rfl) dL_law_447 ⟨rmc (by omega), rms (by omega)⟩ (fun r447 u447 H locs hh hw => ?_) rfl
        refine lv_icmp_eq (tgt := 1182) C.1 C.2.1 dL_law_450 (by decide) (fun c450 => ?_) (fun c450 => ?_)
        · replace hh := hh.1 c450
          first | exact tL_lawX_b1182 C hR hX hbl hbA hT hZ hl0 hcc hsc hB23 hh hw hl | exact W.widen (Nat.le_succ _) (Nat.le_add_right _ 6) (tL_lawX_b1182 C hR hX hbl hbA hT hZ hl0 hcc hsc hB23 hh hw hl)
        · replace hh := hh.2 c450
          refine lv_iconst (v := (0 : Int32)) C.1 C.2.1 dL_law_453 (by decide) ?_
          exact hR _ _ (by omega) (by omega) _ _ _ ((u437.1, u437.2.1, u437.2.2), (u447.1, u447.2), ou) _ _ dL_law_454 rfl hh hw
      · replace hh := hh.2.2.2.2.2.2.2.1 (sw_eq hv (by decide))
        refine lv_tableIn (off := 415) (tgt := 455) C.1 C.2.1 dL_law_40 hlo hhi (by rw [hv]; rfl) (by decide) ?_
        refine lv_aload_n C.1 C.2.1 dL_law_455 rfl (lv_at hl 1 rfl) ?_
        refine lv_aload_n C.1 C.2.1 dL_law_456 rfl (lv_at hl 0 rfl) ?_
        refine lv_iload C.1 C.2.1 dL_law_457 (lv_at hl 4 rfl) ?_
        refine lv_iconst (v := (1 : Int32)) C.1 C.2.1 dL_law_459 (by decide) ?_
        refine lv_iadd C.1 C.2.1 dL_law_460 ?_
        obtain ⟨hi461, hh⟩ := hh
        refine va_sld C.1 C.2.1 hX hbl hbA hw.2.2.2.1 hi461 dL_law_461 ?_
        refine lv_aload_n C.1 C.2.1 dL_law_462 rfl (lv_at hl 0 rfl) ?_
        refine lv_iload C.1 C.2.1 dL_law_463 (lv_at hl 4 rfl) ?_
        refine lv_iconst (v := (2 : Int32)) C.1 C.2.1 dL_law_465 (by decide) ?_
        refine lv_iadd C.1 C.2.1 dL_law_466 ?_
        obtain ⟨hi467, hh⟩ := hh
        refine va_sld C.1 C.2.1 hX hbl hbA hw.2.2.2.1 hi467 dL_law_467 ?_
        refine lx_Vi C hw (ctX10_lift l D h cI cL cF cM F L r (xs (ix (x4 + (1 : Int32)))) (xs (ix (x4 + (2 : Int32)))) hh) (cwV 2 C.2.2.2.2 (gd_V w_969 w_970 w_971 w_114 w_972) rfl rfl rfl cdX10_lift ⟨Nat.le_of_ble_eq_true rfl, Nat.le_of_ble_eq_true rfl⟩) rfl hl.1 (Nat.le_of_ble_eq_true rfl) dL_law_468 ⟨rmc (by omega), rms (by omega)⟩ (fun r468 u468 H locs hh hw => ?_) rfl
        refine lv_aload_n C.1 C.2.1 dL_law_471 rfl (lv_at hl 2 rfl) ?_
        refine lv_aload_n C.1 C.2.1 dL_law_472 rfl (lv_at hl 0 rfl) ?_
        refine lv_iload C.1 C.2.1 dL_law_473 (lv_at hl 4 rfl) ?_
        refine lv_iconst (v := (1 : Int32)) C.1 C.2.1 dL_law_475 (by decide) ?_
        refine lv_iadd C.1 C.2.1 dL_law_476 ?_
        obtain ⟨hi477, hh⟩ := hh
        refine va_sld C.1 C.2.1 hX hbl hbA hw.2.2.2.1 hi477 dL_law_477 ?_
        refine lv_aload_n C.1 C.2.1 dL_law_478 rfl (lv_at hl 0 rfl) ?_
        refine lv_iload C.1 C.2.1 dL_law_479 (lv_at hl 4 rfl) ?_
        refine lv_iconst (v := (2 : Int32)) C.1 C.2.1 dL_law_481 (by decide) ?_
        refine lv_iadd C.1 C.2.1 dL_law_482 ?_
        obtain ⟨hi483, hh⟩ := hh
        refine va_sld C.1 C.2.1 hX hbl hbA hw.2.2.2.1 hi483 dL_law_483 ?_
        refine lm_Vi C hw (ctX11_lift l D o hm cI cZ f g (xs (ix (x4 + (1 : Int32)))) (xs (ix (x4 + (2 : Int32)))) hh) (cwV 2 C.2.2.2.2 (gd_V w_1842 w_1843 w_1844 w_125 w_1845) rfl rfl rfl cdX11_lift ⟨Nat.le_of_ble_eq_true rfl, Nat.le_of_ble_eq_true rfl⟩) rfl hl.1 (Nat.le_of_ble_eq_true rfl) dL_law_484 ⟨rmc (by omega), rms (by omega)⟩ (fun r484 u484 H locs hh hw => ?_) rfl
        refine lv_icmp_eq (tgt := 1182) C.1 C.2.1 dL_law_487 (by decide) (fun c487 => ?_) (fun c487 => ?_)
        · replace hh := hh.1 c487
          first | exact tL_lawX_b1182 C hR hX hbl hbA hT hZ hl0 hcc hsc hB23 hh hw hl | exact W.widen (Nat.le_succ _) (Nat.le_add_right _ 6) (tL_lawX_b1182 C hR hX hbl hbA hT hZ hl0 hcc hsc hB23 hh hw hl)
        · replace hh := hh.2 c487
          refine lv_iconst (v := (0 : Int32)) C.1 C.2.1 dL_law_490 (by decide) ?_
          exact hR _ _ (by omega) (by omega) _ _ _ ((u468.1, u468.2.1, u468.2.2), (u484.1, u484.2), ou) _ _ dL_law_491 rfl hh hw
      · replace hh := hh.2.2.2.2.2.2.2.2.1 (sw_eq hv (by decide))
        refine lv_tableIn (off := 452) (tgt := 492) C.1 C.2.1 dL_law_40 hlo hhi (by rw [hv]; rfl) (by decide) ?_
        refine lv_aload_n C.1 C.2.1 dL_law_492 rfl (lv_at hl 1 rfl) ?_
        refine lx_Vi C hw (ctX10_wipe l D h cI cL cF cM F L r hh) (cwV 0 C.2.2.2.2 (gd_V w_973 w_974 w_975 w_114 w_976) rfl rfl rfl cdX10_wipe ⟨Nat.le_of_ble_eq_true rfl, Nat.le_of_ble_eq_true rfl⟩) rfl hl.1 (Nat.le_of_ble_eq_true rfl) dL_law_493 ⟨rmc (by omega), rms (by omega)⟩ (fun r493 u493 H locs hh hw => ?_) rfl
        refine lv_aload_n C.1 C.2.1 dL_law_496 rfl (lv_at hl 2 rfl) ?_
        refine lm_Vi C hw (ctX11_wipe l D o hm cI cZ f g hh) (cwV 0 C.2.2.2.2 (gd_V w_1846 w_1847 w_1848 w_125 w_1849) rfl rfl rfl cdX11_wipe ⟨Nat.le_of_ble_eq_true rfl, Nat.le_of_ble_eq_true rfl⟩) rfl hl.1 (Nat.le_of_ble_eq_true rfl) dL_law_497 ⟨rmc (by omega), rms (by omega)⟩ (fun r497 u497 H locs hh hw => ?_) rfl
        refine lv_icmp_eq (tgt := 1182) C.1 C.2.1 dL_law_500 (by decide) (fun c500 => ?_) (fun c500 => ?_)
        · replace hh := hh.1 c500
          first | exact tL_lawX_b1182 C hR hX hbl hbA hT hZ hl0 hcc hsc hB23 hh hw hl | exact W.widen (Nat.le_succ _) (Nat.le_add_right _ 6) (tL_lawX_b1182 C hR hX hbl hbA hT hZ hl0 hcc hsc hB23 hh hw hl)
        · replace hh := hh.2 c500
          refine lv_iconst (v := (0 : Int32)) C.1 C.2.1 dL_law_503 (by decide) ?_
          exact hR _ _ (by omega) (by omega) _ _ _ ((u493.1, u493.2.1, u493.2.2), (u497.1, u497.2), ou) _ _ dL_law_504 rfl hh hw
      · replace hh := hh.2.2.2.2.2.2.2.2.2.1 (sw_eq hv (by decide))
        refine lv_tableIn (off := 465) (tgt := 505) C.1 C.2.1 dL_law_40 hlo hhi (by rw [hv]; rfl) (by decide) ?_
        refine lv_aload_n C.1 C.2.1 dL_law_505 rfl (lv_at hl 1 rfl) ?_
        refine lv_aload_n C.1 C.2.1 dL_law_506 rfl (lv_at hl 0 rfl) ?_
        refine lv_iload C.1 C.2.1 dL_law_507 (lv_at hl 4 rfl) ?_
        refine lv_iconst (v := (1 : Int32)) C.1 C.2.1 dL_law_509 (by decide) ?_
        refine lv_iadd C.1 C.2.1 dL_law_510 ?_
        obtain ⟨hi511, hh⟩ := hh
        refine va_sld C.1 C.2.1 hX hbl hbA hw.2.2.2.1 hi511 dL_law_511 ?_
        refine lx_Vi C hw (ctX10_tick l D h cI cL cF cM F L r (xs (ix (x4 + (1 : Int32)))) hh) (cwV 1 C.2.2.2.2 (gd_V w_988 w_989 w_990 w_114 w_991) rfl rfl rfl cdX10_tick ⟨Nat.le_of_ble_eq_true rfl, Nat.le_of_ble_eq_true rfl⟩) rfl hl.1 (Nat.le_of_ble_eq_true rfl) dL_law_512 ⟨rmc (by omega), rms (by omega)⟩ (fun r512 u512 H locs hh hw => ?_) rfl
        refine lv_aload_n C.1 C.2.1 dL_law_515 rfl (lv_at hl 2 rfl) ?_
        refine lv_aload_n C.1 C.2.1 dL_law_516 rfl (lv_at hl 0 rfl) ?_
        refine lv_iload C.1 C.2.1 dL_law_517 (lv_at hl 4 rfl) ?_
        refine lv_iconst (v := (1 : Int32)) C.1 C.2.1 dL_law_519 (by decide) ?_
        refine lv_iadd C.1 C.2.1 dL_law_520 ?_
        obtain ⟨hi521, hh⟩ := hh
        refine va_sld C.1 C.2.1 hX hbl hbA hw.2.2.2.1 hi521 dL_law_521 ?_
        refine lm_Vi C hw (ctX11_tick l D o hm cI cZ f g (xs (ix (x4 + (1 : Int32)))) hh) (cwV 1 C.2.2.2.2 (gd_V w_1854 w_1855 w_1856 w_125 w_1857) rfl rfl rfl cdX11_tick ⟨Nat.le_of_ble_eq_true rfl, Nat.le_of_ble_eq_true rfl⟩) rfl hl.1 (Nat.le_of_ble_eq_true rfl) dL_law_522 ⟨rmc (by omega), rms (by omega)⟩ (fun r522 u522 H locs hh hw => ?_) rfl
        refine lv_icmp_eq (tgt := 1182) C.1 C.2.1 dL_law_525 (by decide) (fun c525 => ?_) (fun c525 => ?_)
        · replace hh := hh.1 c525
          first | exact tL_lawX_b1182 C hR hX hbl hbA hT hZ hl0 hcc hsc hB23 hh hw hl | exact W.widen (Nat.le_succ _) (Nat.le_add_right _ 6) (tL_lawX_b1182 C hR hX hbl hbA hT hZ hl0 hcc hsc hB23 hh hw hl)
        · replace hh := hh.2 c525
          refine lv_iconst (v := (0 : Int32)) C.1 C.2.1 dL_law_528 (by decide) ?_
          exact hR _ _ (by omega) (by omega) _ _ _ ((u512.1, u512.2.1, u512.2.2), (u522.1, u522.2), ou) _ _ dL_law_529 rfl hh hw
      · replace hh := hh.2.2.2.2.2.2.2.2.2.2.1 (sw_eq hv (by decide))
        refine lv_tableIn (off := 490) (tgt := 530) C.1 C.2.1 dL_law_40 hlo hhi (by rw [hv]; rfl) (by decide) ?_
        refine lv_aload_n C.1 C.2.1 dL_law_530 rfl (lv_at hl 1 rfl) ?_
        refine lv_aload_n C.1 C.2.1 dL_law_531 rfl (lv_at hl 0 rfl) ?_
        refine lv_iload C.1 C.2.1 dL_law_532 (lv_at hl 4 rfl) ?_
        refine lv_iconst (v := (1 : Int32)) C.1 C.2.1 dL_law_534 (by decide) ?_
        refine lv_iadd C.1 C.2.1 dL_law_535 ?_
        obtain ⟨hi536, hh⟩ := hh
        refine va_sld C.1 C.2.1 hX hbl hbA hw.2.2.2.1 hi536 dL_law_536 ?_
        refine lx_Vi C hw (ctX10_run l D h cI cL cF cM F L r (xs (ix (x4 + (1 : Int32)))) hh) (cwV 1 C.2.2.2.2 (gd_V w_1035 w_1036 w_1037 w_114 w_1038) rfl rfl rfl cdX10_run ⟨Nat.le_of_ble_eq_true rfl, Nat.le_of_ble_eq_true rfl⟩) rfl hl.1 (Nat.le_of_ble_eq_true rfl) dL_law_537 ⟨rmc (by omega), rms (by omega)⟩ (fun r537 u537 H locs hh hw => ?_) rfl
        refine lv_aload_n C.1 C.2.1 dL_law_540 rfl (lv_at hl 2 rfl) ?_
        refine lv_aload_n C.1 C.2.1 dL_law_541 rfl (lv_at hl 0 rfl) ?_
        refine lv_iload C.1 C.2.1 dL_law_542 (lv_at hl 4 rfl) ?_
        refine lv_iconst (v := (1 : Int32)) C.1 C.2.1 dL_law_544 (by decide) ?_
        refine lv_iadd C.1 C.2.1 dL_law_545 ?_
        obtain ⟨hi546, hh⟩ := hh
        refine va_sld C.1 C.2.1 hX hbl hbA hw.2.2.2.1 hi546 dL_law_546 ?_
        refine lm_Vi C hw (ctX11_run l D o hm cI cZ f g (xs (ix (x4 + (1 : Int32)))) hh) (cwV 1 C.2.2.2.2 (gd_V w_1874 w_1875 w_1876 w_125 w_1877) rfl rfl rfl cdX11_run ⟨Nat.le_of_ble_eq_true rfl, Nat.le_of_ble_eq_true rfl⟩) rfl hl.1 (Nat.le_of_ble_eq_true rfl) dL_law_547 ⟨rmc (by omega), rms (by omega)⟩ (fun r547 u547 H locs hh hw => ?_) rfl
        refine lv_icmp_eq (tgt := 1182) C.1 C.2.1 dL_law_550 (by decide) (fun c550 => ?_) (fun c550 => ?_)
        · replace hh := hh.1 c550
          first | exact tL_lawX_b1182 C hR hX hbl hbA hT hZ hl0 hcc hsc hB23 hh hw hl | exact W.widen (Nat.le_succ _) (Nat.le_add_right _ 6) (tL_lawX_b1182 C hR hX hbl hbA hT hZ hl0 hcc hsc hB23 hh hw hl)
        · replace hh := hh.2 c550
          refine lv_iconst (v := (0 : Int32)) C.1 C.2.1 dL_law_553 (by decide) ?_
          exact hR _ _ (by omega) (by omega) _ _ _ ((u537.1, u537.2.1, u537.2.2), (u547.1, u547.2), ou) _ _ dL_law_554 rfl hh hw
      · replace hh := hh.2.2.2.2.2.2.2.2.2.2.2.1 (sw_eq hv (by decide))
        refine lv_tableIn (off := 515) (tgt := 555) C.1 C.2.1 dL_law_40 hlo hhi (by rw [hv]; rfl) (by decide) ?_
        refine lv_aload_n C.1 C.2.1 dL_law_555 rfl (lv_at hl 1 rfl) ?_
        refine lv_aload_n C.1 C.2.1 dL_law_556 rfl (lv_at hl 0 rfl) ?_
        refine lv_iload C.1 C.2.1 dL_law_557 (lv_at hl 4 rfl) ?_
        refine lv_iconst (v := (1 : Int32)) C.1 C.2.1 dL_law_559 (by decide) ?_
        refine lv_iadd C.1 C.2.1 dL_law_560 ?_
        obtain ⟨hi561, hh⟩ := hh
        refine va_sld C.1 C.2.1 hX hbl hbA hw.2.2.2.1 hi561 dL_law_561 ?_
        refine lx_Vi C hw (ctX10_mouse l D h cI cL cF cM F L r (xs (ix (x4 + (1 : Int32)))) hh) (cwV 1 C.2.2.2.2 (gd_V w_1044 w_1045 w_1046 w_114 w_1047) rfl rfl rfl cdX10_mouse ⟨Nat.le_of_ble_eq_true rfl, Nat.le_of_ble_eq_true rfl⟩) rfl hl.1 (Nat.le_of_ble_eq_true rfl) dL_law_562 ⟨rmc (by omega), rms (by omega)⟩ (fun r562 u562 H locs hh hw => ?_) rfl
        refine lv_aload_n C.1 C.2.1 dL_law_565 rfl (lv_at hl 2 rfl) ?_
        refine lv_aload_n C.1 C.2.1 dL_law_566 rfl (lv_at hl 0 rfl) ?_
        refine lv_iload C.1 C.2.1 dL_law_567 (lv_at hl 4 rfl) ?_
        refine lv_iconst (v := (1 : Int32)) C.1 C.2.1 dL_law_569 (by decide) ?_
        refine lv_iadd C.1 C.2.1 dL_law_570 ?_
        obtain ⟨hi571, hh⟩ := hh
        refine va_sld C.1 C.2.1 hX hbl hbA hw.2.2.2.1 hi571 dL_law_571 ?_
        refine lm_Vi C hw (ctX11_mouse l D o hm cI cZ f g (xs (ix (x4 + (1 : Int32)))) hh) (cwV 1 C.2.2.2.2 (gd_V w_1878 w_1879 w_1880 w_125 w_1881) rfl rfl rfl cdX11_mouse ⟨Nat.le_of_ble_eq_true rfl, Nat.le_of_ble_eq_true rfl⟩) rfl hl.1 (Nat.le_of_ble_eq_true rfl) dL_law_572 ⟨rmc (by omega), rms (by omega)⟩ (fun r572 u572 H locs hh hw => ?_) rfl
        refine lv_icmp_eq (tgt := 1182) C.1 C.2.1 dL_law_575 (by decide) (fun c575 => ?_) (fun c575 => ?_)
        · replace hh := hh.1 c575
          first | exact tL_lawX_b1182 C hR hX hbl hbA hT hZ hl0 hcc hsc hB23 hh hw hl | exact W.widen (Nat.le_succ _) (Nat.le_add_right _ 6) (tL_lawX_b1182 C hR hX hbl hbA hT hZ hl0 hcc hsc hB23 hh hw hl)
        · replace hh := hh.2 c575
          refine lv_iconst (v := (0 : Int32)) C.1 C.2.1 dL_law_578 (by decide) ?_
          exact hR _ _ (by omega) (by omega) _ _ _ ((u562.1, u562.2.1, u562.2.2), (u572.1, u572.2), ou) _ _ dL_law_579 rfl hh hw
      · replace hh := hh.2.2.2.2.2.2.2.2.2.2.2.2.1 (sw_eq hv (by decide))
        refine lv_tableIn (off := 540) (tgt := 580) C.1 C.2.1 dL_law_40 hlo hhi (by rw [hv]; rfl) (by decide) ?_
        refine lv_aload_n C.1 C.2.1 dL_law_580 rfl (lv_at hl 1 rfl) ?_
        refine lv_aload_n C.1 C.2.1 dL_law_581 rfl (lv_at hl 0 rfl) ?_
        refine lv_iload C.1 C.2.1 dL_law_582 (lv_at hl 4 rfl) ?_
        refine lv_iconst (v := (1 : Int32)) C.1 C.2.1 dL_law_584 (by decide) ?_
        refine lv_iadd C.1 C.2.1 dL_law_585 ?_
        obtain ⟨hi586, hh⟩ := hh
        refine va_sld C.1 C.2.1 hX hbl hbA hw.2.2.2.1 hi586 dL_law_586 ?_
        refine lv_aload_n C.1 C.2.1 dL_law_587 rfl (lv_at hl 0 rfl) ?_
        refine lv_iload C.1 C.2.1 dL_law_588 (lv_at hl 4 rfl) ?_
        refine lv_iconst (v := (2 : Int32)) C.1 C.2.1 dL_law_590 (by decide) ?_
        refine lv_iadd C.1 C.2.1 dL_law_591 ?_
        obtain ⟨hi592, hh⟩ := hh
        refine va_sld C.1 C.2.1 hX hbl hbA hw.2.2.2.1 hi592 dL_law_592 ?_
        refine lv_aload_n C.1 C.2.1 dL_law_593 rfl (lv_at hl 3 rfl) ?_
        refine lk_Si C hT hZ hw (ctL_look l hl0 D h q cI cL cF cM F L r ou (xs (ix (x4 + (1 : Int32)))) (xs (ix (x4 + (2 : Int32)))) hh) (vx_cwSW 4 C.2.2.2.2 (gd_S wl_h wl_i wl_k wl_j) rfl rfl rfl cdL_look ⟨Nat.le_of_ble_eq_true rfl, Nat.le_of_ble_eq_true rfl⟩) hl.1 (Nat.le_of_ble_eq_true rfl) dL_law_594 ⟨rmc (by omega), rms (by omega)⟩ (fun r594 u594 H locs hh hw => ?_)
        refine lv_istore (lv' := [(5, .int r594), (0, .ref b), (1, .ref (h 0)), (2, .ref o), (3, .ref q), (4, .int x4)]) C.1 C.2.1 dL_law_597 hl (by decide) rfl (fun ls hl => ?_)
        refine lv_aload_n C.1 C.2.1 dL_law_599 rfl (lv_at hl 3 rfl) ?_
        refine lv_aload_n C.1 C.2.1 dL_law_600 rfl (lv_at hl 1 rfl) ?_
        refine lv_iload C.1 C.2.1 dL_law_601 (lv_at hl 5 rfl) ?_
        refine lv_iconst (v := (1 : Int32)) C.1 C.2.1 dL_law_603 (by decide) ?_
        refine lv_iadd C.1 C.2.1 dL_law_604 ?_
        obtain ⟨hi605, hh⟩ := hh
        refine va_sld C.1 C.2.1 hX hbl hbA hw.2.2.2.1 hi605 dL_law_605 ?_
        refine lv_aload_n C.1 C.2.1 dL_law_606 rfl (lv_at hl 1 rfl) ?_
        refine lv_iload C.1 C.2.1 dL_law_607 (lv_at hl 5 rfl) ?_
        refine lv_iconst (v := (2 : Int32)) C.1 C.2.1 dL_law_609 (by decide) ?_
        refine lv_iadd C.1 C.2.1 dL_law_610 ?_
        obtain ⟨hi611, hh⟩ := hh
        refine va_sld C.1 C.2.1 hX hbl hbA hw.2.2.2.1 hi611 dL_law_611 ?_
        refine lm_Vi C hw (ctX11_look l D o hm cI cZ f g (xs (ix (x4 + (1 : Int32)))) (xs (ix (x4 + (2 : Int32)))) hh) (cwV 2 C.2.2.2.2 (gd_V w_1882 w_1883 w_1884 w_125 w_1885) rfl rfl rfl cdX11_look ⟨Nat.le_of_ble_eq_true rfl, Nat.le_of_ble_eq_true rfl⟩) rfl hl.1 (Nat.le_of_ble_eq_true rfl) dL_law_612 ⟨rmc (by omega), rms (by omega)⟩ (fun r612 u612 H locs hh hw => ?_) rfl
        refine lv_istore (lv' := [(6, .int r612), (5, .int r594), (0, .ref b), (1, .ref (h 0)), (2, .ref o), (3, .ref q), (4, .int x4)]) C.1 C.2.1 dL_law_615 hl (by decide) rfl (fun ls hl => ?_)
        refine lv_aload_n C.1 C.2.1 dL_law_617 rfl (lv_at hl 4 rfl) ?_
        refine lm_Vi C hw (ctX11_thrown l D o hm cI cZ u612.1 u612.2 hh) (cwV 0 C.2.2.2.2 (gd_V w_1686 w_1687 w_1688 w_125 w_1689) rfl rfl rfl cdX11_thrown ⟨Nat.le_of_ble_eq_true rfl, Nat.le_of_ble_eq_true rfl⟩) rfl hl.1 (Nat.le_of_ble_eq_true rfl) dL_law_618 ⟨rmc (by omega), rms (by omega)⟩ (fun r618 u618 H locs hh hw => ?_) rfl
        refine lv_iload C.1 C.2.1 dL_law_621 (lv_at hl 1 rfl) ?_
        refine lv_icmp_eq (tgt := 628) C.1 C.2.1 dL_law_623 (by decide) (fun c623 => ?_) (fun c623 => ?_)
        · replace hh := hh.1 c623
          refine lv_iload C.1 C.2.1 dL_law_628 (lv_at hl 1 rfl) ?_
          refine lv_if_ne (tgt := 645) C.1 C.2.1 dL_law_630 (by decide) (fun c630 => ?_) (fun c630 => ?_)
          · replace hh := hh.1 c630
            exact tL_lawX_b645 C hR hX hbl hbA hT hZ hl0 hcc hsc hB23 hh hw (lv_sub hl [2, 3, 4, 5, 6] rfl)
          · replace hh := hh.2 c630
            refine lv_aload_n C.1 C.2.1 dL_law_633 rfl (lv_at hl 5 rfl) ?_
            refine lv_iconst (v := (0 : Int32)) C.1 C.2.1 dL_law_634 (by decide) ?_
            obtain ⟨hi635, hh⟩ := hh
            refine l_out C hw hi635 dL_law_635 ?_
            refine lv_iload C.1 C.2.1 dL_law_636 (lv_at hl 0 rfl) ?_
            refine lv_i2l (v := Int32.toInt64 r612) C.1 C.2.1 dL_law_638 rfl ?_
            refine W.lcmp C.1 C.2.1 dL_law_639 ?_
            refine lv_if_eq (tgt := 645) C.1 C.2.1 dL_law_640 (by decide) (fun c640 => ?_) (fun c640 => ?_)
            · replace hh := hh.1 c640
              exact tL_lawX_b645 C hR hX hbl hbA hT hZ hl0 hcc hsc hB23 hh hw (lv_sub hl [2, 3, 4, 5, 6] rfl)
            · replace hh := hh.2 c640
              refine lv_iconst (v := (0 : Int32)) C.1 C.2.1 dL_law_643 (by decide) ?_
              exact hR _ _ (by omega) (by omega) _ _ _ ((u594.1.1, u594.1.2.1, u594.1.2.2), (u618.1, u618.2), u594.2) _ _ dL_law_644 rfl hh hw
        · replace hh := hh.2 c623
          refine lv_iconst (v := (0 : Int32)) C.1 C.2.1 dL_law_626 (by decide) ?_
          exact hR _ _ (by omega) (by omega) _ _ _ ((u594.1.1, u594.1.2.1, u594.1.2.2), (u618.1, u618.2), u594.2) _ _ dL_law_627 rfl hh hw
      · replace hh := hh.2.2.2.2.2.2.2.2.2.2.2.2.2.1 (sw_eq hv (by decide))
        refine lv_tableIn (off := 608) (tgt := 648) C.1 C.2.1 dL_law_40 hlo hhi (by rw [hv]; rfl) (by decide) ?_
        refine lv_aload_n C.1 C.2.1 dL_law_648 rfl (lv_at hl 1 rfl) ?_
        refine lv_aload_n C.1 C.2.1 dL_law_649 rfl (lv_at hl 0 rfl) ?_
        refine lv_iload C.1 C.2.1 dL_law_650 (lv_at hl 4 rfl) ?_
        refine lv_iconst (v := (1 : Int32)) C.1 C.2.1 dL_law_652 (by decide) ?_
        refine lv_iadd C.1 C.2.1 dL_law_653 ?_
        obtain ⟨hi654, hh⟩ := hh
        refine va_sld C.1 C.2.1 hX hbl hbA hw.2.2.2.1 hi654 dL_law_654 ?_
        refine lx_Vi C hw (ctX10_comes l D h cI cL cF cM F L r (xs (ix (x4 + (1 : Int32)))) hh) (cwV 1 C.2.2.2.2 (gd_V w_1048 w_1049 w_1050 w_114 w_1051) rfl rfl rfl cdX10_comes ⟨Nat.le_of_ble_eq_true rfl, Nat.le_of_ble_eq_true rfl⟩) rfl hl.1 (Nat.le_of_ble_eq_true rfl) dL_law_655 ⟨rmc (by omega), rms (by omega)⟩ (fun r655 u655 H locs hh hw => ?_) rfl
        refine lv_aload_n C.1 C.2.1 dL_law_658 rfl (lv_at hl 2 rfl) ?_
        refine lv_aload_n C.1 C.2.1 dL_law_659 rfl (lv_at hl 0 rfl) ?_
        refine lv_iload C.1 C.2.1 dL_law_660 (lv_at hl 4 rfl) ?_
        refine lv_iconst (v := (1 : Int32)) C.1 C.2.1 dL_law_662 (by decide) ?_
        refine lv_iadd C.1 C.2.1 dL_law_663 ?_
        obtain ⟨hi664, hh⟩ := hh
        refine va_sld C.1 C.2.1 hX hbl hbA hw.2.2.2.1 hi664 dL_law_664 ?_
        refine lm_Vi C hw (ctX11_comes l D o hm cI cZ f g (xs (ix (x4 + (1 : Int32)))) hh) (cwV 1 C.2.2.2.2 (gd_V w_1910 w_1911 w_1912 w_125 w_1913) rfl rfl rfl cdX11_comes ⟨Nat.le_of_ble_eq_true rfl, Nat.le_of_ble_eq_true rfl⟩) rfl hl.1 (Nat.le_of_ble_eq_true rfl) dL_law_665 ⟨rmc (by omega), rms (by omega)⟩ (fun r665 u665 H locs hh hw => ?_) rfl
        refine lv_icmp_eq (tgt := 1182) C.1 C.2.1 dL_law_668 (by decide) (fun c668 => ?_) (fun c668 => ?_)
        · replace hh := hh.1 c668
          first | exact tL_lawX_b1182 C hR hX hbl hbA hT hZ hl0 hcc hsc hB23 hh hw hl | exact W.widen (Nat.le_succ _) (Nat.le_add_right _ 6) (tL_lawX_b1182 C hR hX hbl hbA hT hZ hl0 hcc hsc hB23 hh hw hl)
        · replace hh := hh.2 c668
          refine lv_iconst (v := (0 : Int32)) C.1 C.2.1 dL_law_671 (by decide) ?_
          exact hR _ _ (by omega) (by omega) _ _ _ ((u655.1, u655.2.1, u655.2.2), (u665.1, u665.2), ou) _ _ dL_law_672 rfl hh hw
      · replace hh := hh.2.2.2.2.2.2.2.2.2.2.2.2.2.2.1 (sw_eq hv (by decide))
        refine lv_tableIn (off := 633) (tgt := 673) C.1 C.2.1 dL_law_40 hlo hhi (by rw [hv]; rfl) (by decide) ?_
        refine lv_aload_n C.1 C.2.1 dL_law_673 rfl (lv_at hl 1 rfl) ?_
        refine lv_aload_n C.1 C.2.1 dL_law_674 rfl (lv_at hl 0 rfl) ?_
        refine lv_iload C.1 C.2.1 dL_law_675 (lv_at hl 4 rfl) ?_
        refine lv_iconst (v := (1 : Int32)) C.1 C.2.1 dL_law_677 (by decide) ?_
        refine lv_iadd C.1 C.2.1 dL_law_678 ?_
        obtain ⟨hi679, hh⟩ := hh
        refine va_sld C.1 C.2.1 hX hbl hbA hw.2.2.2.1 hi679 dL_law_679 ?_
        refine lv_aload_n C.1 C.2.1 dL_law_680 rfl (lv_at hl 0 rfl) ?_
        refine lv_iload C.1 C.2.1 dL_law_681 (lv_at hl 4 rfl) ?_
        refine lv_iconst (v := (2 : Int32)) C.1 C.2.1 dL_law_683 (by decide) ?_
        refine lv_iadd C.1 C.2.1 dL_law_684 ?_
        obtain ⟨hi685, hh⟩ := hh
        refine va_sld C.1 C.2.1 hX hbl hbA hw.2.2.2.1 hi685 dL_law_685 ?_
        refine lx_Vi C hw (ctX10_second l D h cI cL cF cM F L r (xs (ix (x4 + (1 : Int32)))) (xs (ix (x4 + (2 : Int32)))) hh) (cwV 2 C.2.2.2.2 (gd_V w_1065 w_1066 w_1067 w_114 w_1068) rfl rfl rfl cdX10_second ⟨Nat.le_of_ble_eq_true rfl, Nat.le_of_ble_eq_true rfl⟩) rfl hl.1 (Nat.le_of_ble_eq_true rfl) dL_law_686 ⟨rmc (by omega), rms (by omega)⟩ (fun r686 u686 H locs hh hw => ?_) rfl
        refine lv_aload_n C.1 C.2.1 dL_law_689 rfl (lv_at hl 2 rfl) ?_
        refine lv_aload_n C.1 C.2.1 dL_law_690 rfl (lv_at hl 0 rfl) ?_
        refine lv_iload C.1 C.2.1 dL_law_691 (lv_at hl 4 rfl) ?_
        refine lv_iconst (v := (1 : Int32)) C.1 C.2.1 dL_law_693 (by decide) ?_
        refine lv_iadd C.1 C.2.1 dL_law_694 ?_
        obtain ⟨hi695, hh⟩ := hh
        refine va_sld C.1 C.2.1 hX hbl hbA hw.2.2.2.1 hi695 dL_law_695 ?_
        refine lv_aload_n C.1 C.2.1 dL_law_696 rfl (lv_at hl 0 rfl) ?_
        refine lv_iload C.1 C.2.1 dL_law_697 (lv_at hl 4 rfl) ?_
        refine lv_iconst (v := (2 : Int32)) C.1 C.2.1 dL_law_699 (by decide) ?_
        refine lv_iadd C.1 C.2.1 dL_law_700 ?_
        obtain ⟨hi701, hh⟩ := hh
        refine va_sld C.1 C.2.1 hX hbl hbA hw.2.2.2.1 hi701 dL_law_701 ?_
        refine lm_Vi C hw (ctX11_second l D o hm cI cZ f g (xs (ix (x4 + (1 : Int32)))) (xs (ix (x4 + (2 : Int32)))) hh) (cwV 2 C.2.2.2.2 (gd_V w_1922 w_1923 w_1924 w_125 w_1925) rfl rfl rfl cdX11_second ⟨Nat.le_of_ble_eq_true rfl, Nat.le_of_ble_eq_true rfl⟩) rfl hl.1 (Nat.le_of_ble_eq_true rfl) dL_law_702 ⟨rmc (by omega), rms (by omega)⟩ (fun r702 u702 H locs hh hw => ?_) rfl
        refine lv_icmp_eq (tgt := 1182) C.1 C.2.1 dL_law_705 (by decide) (fun c705 => ?_) (fun c705 => ?_)
        · replace hh := hh.1 c705
          first | exact tL_lawX_b1182 C hR hX hbl hbA hT hZ hl0 hcc hsc hB23 hh hw hl | exact W.widen (Nat.le_succ _) (Nat.le_add_right _ 6) (tL_lawX_b1182 C hR hX hbl hbA hT hZ hl0 hcc hsc hB23 hh hw hl)
        · replace hh := hh.2 c705
          refine lv_iconst (v := (0 : Int32)) C.1 C.2.1 dL_law_708 (by decide) ?_
          exact hR _ _ (by omega) (by omega) _ _ _ ((u686.1, u686.2.1, u686.2.2), (u702.1, u702.2), ou) _ _ dL_law_709 rfl hh hw
      · replace hh := hh.2.2.2.2.2.2.2.2.2.2.2.2.2.2.2.1 (sw_eq hv (by decide))
        refine lv_tableIn (off := 670) (tgt := 710) C.1 C.2.1 dL_law_40 hlo hhi (by rw [hv]; rfl) (by decide) ?_
        refine lv_aload_n C.1 C.2.1 dL_law_710 rfl (lv_at hl 1 rfl) ?_
        refine lv_aload_n C.1 C.2.1 dL_law_711 rfl (lv_at hl 0 rfl) ?_
        refine lv_iload C.1 C.2.1 dL_law_712 (lv_at hl 4 rfl) ?_
        refine lv_iconst (v := (1 : Int32)) C.1 C.2.1 dL_law_714 (by decide) ?_
        refine lv_iadd C.1 C.2.1 dL_law_715 ?_
        obtain ⟨hi716, hh⟩ := hh
        refine va_sld C.1 C.2.1 hX hbl hbA hw.2.2.2.1 hi716 dL_law_716 ?_
        refine lv_aload_n C.1 C.2.1 dL_law_717 rfl (lv_at hl 0 rfl) ?_
        refine lv_iload C.1 C.2.1 dL_law_718 (lv_at hl 4 rfl) ?_
        refine lv_iconst (v := (2 : Int32)) C.1 C.2.1 dL_law_720 (by decide) ?_
        refine lv_iadd C.1 C.2.1 dL_law_721 ?_
        obtain ⟨hi722, hh⟩ := hh
        refine va_sld C.1 C.2.1 hX hbl hbA hw.2.2.2.1 hi722 dL_law_722 ?_
        refine lv_aload_n C.1 C.2.1 dL_law_723 rfl (lv_at hl 0 rfl) ?_
        refine lv_iload C.1 C.2.1 dL_law_724 (lv_at hl 4 rfl) ?_
        refine lv_iconst (v := (3 : Int32)) C.1 C.2.1 dL_law_726 (by decide) ?_
        refine lv_iadd C.1 C.2.1 dL_law_727 ?_
        obtain ⟨hi728, hh⟩ := hh
        refine va_sld C.1 C.2.1 hX hbl hbA hw.2.2.2.1 hi728 dL_law_728 ?_
        refine lx_Vi C hw (ctX10_held l D h cI cL cF cM F L r (xs (ix (x4 + (1 : Int32)))) (xs (ix (x4 + (2 : Int32)))) (xs (ix (x4 + (3 : Int32)))) hh) (cwV 3 C.2.2.2.2 (gd_V w_1069 w_1070 w_1071 w_114 w_1072) rfl rfl rfl cdX10_held ⟨Nat.le_of_ble_eq_true rfl, Nat.le_of_ble_eq_true rfl⟩) rfl hl.1 (Nat.le_of_ble_eq_true rfl) dL_law_729 ⟨rmc (by omega), rms (by omega)⟩ (fun r729 u729 H locs hh hw => ?_) rfl
        refine lv_aload_n C.1 C.2.1 dL_law_732 rfl (lv_at hl 2 rfl) ?_
        refine lv_aload_n C.1 C.2.1 dL_law_733 rfl (lv_at hl 0 rfl) ?_
        refine lv_iload C.1 C.2.1 dL_law_734 (lv_at hl 4 rfl) ?_
        refine lv_iconst (v := (1 : Int32)) C.1 C.2.1 dL_law_736 (by decide) ?_
        refine lv_iadd C.1 C.2.1 dL_law_737 ?_
        obtain ⟨hi738, hh⟩ := hh
        refine va_sld C.1 C.2.1 hX hbl hbA hw.2.2.2.1 hi738 dL_law_738 ?_
        refine lv_aload_n C.1 C.2.1 dL_law_739 rfl (lv_at hl 0 rfl) ?_
        refine lv_iload C.1 C.2.1 dL_law_740 (lv_at hl 4 rfl) ?_
        refine lv_iconst (v := (2 : Int32)) C.1 C.2.1 dL_law_742 (by decide) ?_
        refine lv_iadd C.1 C.2.1 dL_law_743 ?_
        obtain ⟨hi744, hh⟩ := hh
        refine va_sld C.1 C.2.1 hX hbl hbA hw.2.2.2.1 hi744 dL_law_744 ?_
        refine lv_aload_n C.1 C.2.1 dL_law_745 rfl (lv_at hl 0 rfl) ?_
        refine lv_iload C.1 C.2.1 dL_law_746 (lv_at hl 4 rfl) ?_
        refine lv_iconst (v := (3 : Int32)) C.1 C.2.1 dL_law_748 (by decide) ?_
        refine lv_iadd C.1 C.2.1 dL_law_749 ?_
        obtain ⟨hi750, hh⟩ := hh
        refine va_sld C.1 C.2.1 hX hbl hbA hw.2.2.2.1 hi750 dL_law_750 ?_
        refine lm_Vi C hw (ctX11_held l D o hm cI cZ f g (xs (ix (x4 + (1 : Int32)))) (xs (ix (x4 + (2 : Int32)))) (xs (ix (x4 + (3 : Int32)))) hh) (cwV 3 C.2.2.2.2 (gd_V w_1926 w_1927 w_1928 w_125 w_1929) rfl rfl rfl cdX11_held ⟨Nat.le_of_ble_eq_true rfl, Nat.le_of_ble_eq_true rfl⟩) rfl hl.1 (Nat.le_of_ble_eq_true rfl) dL_law_751 ⟨rmc (by omega), rms (by omega)⟩ (fun r751 u751 H locs hh hw => ?_) rfl
        refine lv_icmp_eq (tgt := 1182) C.1 C.2.1 dL_law_754 (by decide) (fun c754 => ?_) (fun c754 => ?_)
        · replace hh := hh.1 c754
          first | exact tL_lawX_b1182 C hR hX hbl hbA hT hZ hl0 hcc hsc hB23 hh hw hl | exact W.widen (Nat.le_succ _) (Nat.le_add_right _ 6) (tL_lawX_b1182 C hR hX hbl hbA hT hZ hl0 hcc hsc hB23 hh hw hl)
        · replace hh := hh.2 c754
          refine lv_iconst (v := (0 : Int32)) C.1 C.2.1 dL_law_757 (by decide) ?_
          exact hR _ _ (by omega) (by omega) _ _ _ ((u729.1, u729.2.1, u729.2.2), (u751.1, u751.2), ou) _ _ dL_law_758 rfl hh hw
      · replace hh := hh.2.2.2.2.2.2.2.2.2.2.2.2.2.2.2.2.1 (sw_eq hv (by decide))
        refine lv_tableIn (off := 719) (tgt := 759) C.1 C.2.1 dL_law_40 hlo hhi (by rw [hv]; rfl) (by decide) ?_
        refine lv_aload_n C.1 C.2.1 dL_law_759 rfl (lv_at hl 1 rfl) ?_
        refine lv_aload_n C.1 C.2.1 dL_law_760 rfl (lv_at hl 0 rfl) ?_
        refine lv_iload C.1 C.2.1 dL_law_761 (lv_at hl 4 rfl) ?_
        refine lv_iconst (v := (1 : Int32)) C.1 C.2.1 dL_law_763 (by decide) ?_
        refine lv_iadd C.1 C.2.1 dL_law_764 ?_
        obtain ⟨hi765, hh⟩ := hh
        refine va_sld C.1 C.2.1 hX hbl hbA hw.2.2.2.1 hi765 dL_law_765 ?_
        refine lv_aload_n C.1 C.2.1 dL_law_766 rfl (lv_at hl 0 rfl) ?_
        refine lv_iload C.1 C.2.1 dL_law_767 (lv_at hl 4 rfl) ?_
        refine lv_iconst (v := (2 : Int32)) C.1 C.2.1 dL_law_769 (by decide) ?_
        refine lv_iadd C.1 C.2.1 dL_law_770 ?_
        obtain ⟨hi771, hh⟩ := hh
        refine va_sld C.1 C.2.1 hX hbl hbA hw.2.2.2.1 hi771 dL_law_771 ?_
        refine lv_aload_n C.1 C.2.1 dL_law_772 rfl (lv_at hl 0 rfl) ?_
        refine lv_iload C.1 C.2.1 dL_law_773 (lv_at hl 4 rfl) ?_
        refine lv_iconst (v := (3 : Int32)) C.1 C.2.1 dL_law_775 (by decide) ?_
        refine lv_iadd C.1 C.2.1 dL_law_776 ?_
        obtain ⟨hi777, hh⟩ := hh
        refine va_sld C.1 C.2.1 hX hbl hbA hw.2.2.2.1 hi777 dL_law_777 ?_
        refine lx_Vi C hw (ctX10_longest l D h cI cL cF cM F L r (xs (ix (x4 + (1 : Int32)))) (xs (ix (x4 + (2 : Int32)))) (xs (ix (x4 + (3 : Int32)))) hh) (cwV 3 C.2.2.2.2 (gd_V w_1119 w_1120 w_1121 w_114 w_1122) rfl rfl rfl cdX10_longest ⟨Nat.le_of_ble_eq_true rfl, Nat.le_of_ble_eq_true rfl⟩) rfl hl.1 (Nat.le_of_ble_eq_true rfl) dL_law_778 ⟨rmc (by omega), rms (by omega)⟩ (fun r778 u778 H locs hh hw => ?_) rfl
        refine lv_aload_n C.1 C.2.1 dL_law_781 rfl (lv_at hl 2 rfl) ?_
        refine lv_aload_n C.1 C.2.1 dL_law_782 rfl (lv_at hl 0 rfl) ?_
        refine lv_iload C.1 C.2.1 dL_law_783 (lv_at hl 4 rfl) ?_
        refine lv_iconst (v := (1 : Int32)) C.1 C.2.1 dL_law_785 (by decide) ?_
        refine lv_iadd C.1 C.2.1 dL_law_786 ?_
        obtain ⟨hi787, hh⟩ := hh
        refine va_sld C.1 C.2.1 hX hbl hbA hw.2.2.2.1 hi787 dL_law_787 ?_
        refine lv_aload_n C.1 C.2.1 dL_law_788 rfl (lv_at hl 0 rfl) ?_
        refine lv_iload C.1 C.2.1 dL_law_789 (lv_at hl 4 rfl) ?_
        refine lv_iconst (v := (2 : Int32)) C.1 C.2.1 dL_law_791 (by decide) ?_
        refine lv_iadd C.1 C.2.1 dL_law_792 ?_
        obtain ⟨hi793, hh⟩ := hh
        refine va_sld C.1 C.2.1 hX hbl hbA hw.2.2.2.1 hi793 dL_law_793 ?_
        refine lv_aload_n C.1 C.2.1 dL_law_794 rfl (lv_at hl 0 rfl) ?_
        refine lv_iload C.1 C.2.1 dL_law_795 (lv_at hl 4 rfl) ?_
        refine lv_iconst (v := (3 : Int32)) C.1 C.2.1 dL_law_797 (by decide) ?_
        refine lv_iadd C.1 C.2.1 dL_law_798 ?_
        obtain ⟨hi799, hh⟩ := hh
        refine va_sld C.1 C.2.1 hX hbl hbA hw.2.2.2.1 hi799 dL_law_799 ?_
        refine lm_Vi C hw (ctX11_longest l D o hm cI cZ f g (xs (ix (x4 + (1 : Int32)))) (xs (ix (x4 + (2 : Int32)))) (xs (ix (x4 + (3 : Int32)))) hh) (cwV 3 C.2.2.2.2 (gd_V w_1957 w_1958 w_1959 w_125 w_1960) rfl rfl rfl cdX11_longest ⟨Nat.le_of_ble_eq_true rfl, Nat.le_of_ble_eq_true rfl⟩) rfl hl.1 (Nat.le_of_ble_eq_true rfl) dL_law_800 ⟨rmc (by omega), rms (by omega)⟩ (fun r800 u800 H locs hh hw => ?_) rfl
        refine lv_icmp_eq (tgt := 1182) C.1 C.2.1 dL_law_803 (by decide) (fun c803 => ?_) (fun c803 => ?_)
        · replace hh := hh.1 c803
          first | exact tL_lawX_b1182 C hR hX hbl hbA hT hZ hl0 hcc hsc hB23 hh hw hl | exact W.widen (Nat.le_succ _) (Nat.le_add_right _ 6) (tL_lawX_b1182 C hR hX hbl hbA hT hZ hl0 hcc hsc hB23 hh hw hl)
        · replace hh := hh.2 c803
          refine lv_iconst (v := (0 : Int32)) C.1 C.2.1 dL_law_806 (by decide) ?_
          exact hR _ _ (by omega) (by omega) _ _ _ ((u778.1, u778.2.1, u778.2.2), (u800.1, u800.2), ou) _ _ dL_law_807 rfl hh hw
      · replace hh := hh.2.2.2.2.2.2.2.2.2.2.2.2.2.2.2.2.2.1 (sw_eq hv (by decide))
        refine lv_tableIn (off := 768) (tgt := 808) C.1 C.2.1 dL_law_40 hlo hhi (by rw [hv]; rfl) (by decide) ?_
        refine lv_aload_n C.1 C.2.1 dL_law_808 rfl (lv_at hl 1 rfl) ?_
        refine lv_aload_n C.1 C.2.1 dL_law_809 rfl (lv_at hl 0 rfl) ?_
        refine lv_iload C.1 C.2.1 dL_law_810 (lv_at hl 4 rfl) ?_
        refine lv_iconst (v := (1 : Int32)) C.1 C.2.1 dL_law_812 (by decide) ?_
        refine lv_iadd C.1 C.2.1 dL_law_813 ?_
        obtain ⟨hi814, hh⟩ := hh
        refine va_sld C.1 C.2.1 hX hbl hbA hw.2.2.2.1 hi814 dL_law_814 ?_
        refine lv_aload_n C.1 C.2.1 dL_law_815 rfl (lv_at hl 0 rfl) ?_
        refine lv_iload C.1 C.2.1 dL_law_816 (lv_at hl 4 rfl) ?_
        refine lv_iconst (v := (2 : Int32)) C.1 C.2.1 dL_law_818 (by decide) ?_
        refine lv_iadd C.1 C.2.1 dL_law_819 ?_
        obtain ⟨hi820, hh⟩ := hh
        refine va_sld C.1 C.2.1 hX hbl hbA hw.2.2.2.1 hi820 dL_law_820 ?_
        refine lv_aload_n C.1 C.2.1 dL_law_821 rfl (lv_at hl 0 rfl) ?_
        refine lv_iload C.1 C.2.1 dL_law_822 (lv_at hl 4 rfl) ?_
        refine lv_iconst (v := (3 : Int32)) C.1 C.2.1 dL_law_824 (by decide) ?_
        refine lv_iadd C.1 C.2.1 dL_law_825 ?_
        obtain ⟨hi826, hh⟩ := hh
        refine va_sld C.1 C.2.1 hX hbl hbA hw.2.2.2.1 hi826 dL_law_826 ?_
        refine lx_Vi C hw (ctX10_needs l D h cI cL cF cM F L r (xs (ix (x4 + (1 : Int32)))) (xs (ix (x4 + (2 : Int32)))) (xs (ix (x4 + (3 : Int32)))) hh) (cwV 3 C.2.2.2.2 (gd_V w_1131 w_1132 w_1133 w_114 w_1134) rfl rfl rfl cdX10_needs ⟨Nat.le_of_ble_eq_true rfl, Nat.le_of_ble_eq_true rfl⟩) rfl hl.1 (Nat.le_of_ble_eq_true rfl) dL_law_827 ⟨rmc (by omega), rms (by omega)⟩ (fun r827 u827 H locs hh hw => ?_) rfl
        refine lv_aload_n C.1 C.2.1 dL_law_830 rfl (lv_at hl 2 rfl) ?_
        refine lv_aload_n C.1 C.2.1 dL_law_831 rfl (lv_at hl 0 rfl) ?_
        refine lv_iload C.1 C.2.1 dL_law_832 (lv_at hl 4 rfl) ?_
        refine lv_iconst (v := (1 : Int32)) C.1 C.2.1 dL_law_834 (by decide) ?_
        refine lv_iadd C.1 C.2.1 dL_law_835 ?_
        obtain ⟨hi836, hh⟩ := hh
        refine va_sld C.1 C.2.1 hX hbl hbA hw.2.2.2.1 hi836 dL_law_836 ?_
        refine lv_aload_n C.1 C.2.1 dL_law_837 rfl (lv_at hl 0 rfl) ?_
        refine lv_iload C.1 C.2.1 dL_law_838 (lv_at hl 4 rfl) ?_
        refine lv_iconst (v := (2 : Int32)) C.1 C.2.1 dL_law_840 (by decide) ?_
        refine lv_iadd C.1 C.2.1 dL_law_841 ?_
        obtain ⟨hi842, hh⟩ := hh
        refine va_sld C.1 C.2.1 hX hbl hbA hw.2.2.2.1 hi842 dL_law_842 ?_
        refine lv_aload_n C.1 C.2.1 dL_law_843 rfl (lv_at hl 0 rfl) ?_
        refine lv_iload C.1 C.2.1 dL_law_844 (lv_at hl 4 rfl) ?_
        refine lv_iconst (v := (3 : Int32)) C.1 C.2.1 dL_law_846 (by decide) ?_
        refine lv_iadd C.1 C.2.1 dL_law_847 ?_
        obtain ⟨hi848, hh⟩ := hh
        refine va_sld C.1 C.2.1 hX hbl hbA hw.2.2.2.1 hi848 dL_law_848 ?_
        refine lm_Vi C hw (ctX11_needs l D o hm cI cZ f g (xs (ix (x4 + (1 : Int32)))) (xs (ix (x4 + (2 : Int32)))) (xs (ix (x4 + (3 : Int32)))) hh) (cwV 3 C.2.2.2.2 (gd_V w_1961 w_1962 w_1963 w_125 w_1964) rfl rfl rfl cdX11_needs ⟨Nat.le_of_ble_eq_true rfl, Nat.le_of_ble_eq_true rfl⟩) rfl hl.1 (Nat.le_of_ble_eq_true rfl) dL_law_849 ⟨rmc (by omega), rms (by omega)⟩ (fun r849 u849 H locs hh hw => ?_) rfl
        refine lv_icmp_eq (tgt := 1182) C.1 C.2.1 dL_law_852 (by decide) (fun c852 => ?_) (fun c852 => ?_)
        · replace hh := hh.1 c852
          first | exact tL_lawX_b1182 C hR hX hbl hbA hT hZ hl0 hcc hsc hB23 hh hw hl | exact W.widen (Nat.le_succ _) (Nat.le_add_right _ 6) (tL_lawX_b1182 C hR hX hbl hbA hT hZ hl0 hcc hsc hB23 hh hw hl)
        · replace hh := hh.2 c852
          refine lv_iconst (v := (0 : Int32)) C.1 C.2.1 dL_law_855 (by decide) ?_
          exact hR _ _ (by omega) (by omega) _ _ _ ((u827.1, u827.2.1, u827.2.2), (u849.1, u849.2), ou) _ _ dL_law_856 rfl hh hw
      · replace hh := hh.2.2.2.2.2.2.2.2.2.2.2.2.2.2.2.2.2.2.1 (sw_eq hv (by decide))
        refine lv_tableIn (off := 817) (tgt := 857) C.1 C.2.1 dL_law_40 hlo hhi (by rw [hv]; rfl) (by decide) ?_
        refine lv_aload_n C.1 C.2.1 dL_law_857 rfl (lv_at hl 1 rfl) ?_
        refine lv_aload_n C.1 C.2.1 dL_law_858 rfl (lv_at hl 0 rfl) ?_
        refine lv_iload C.1 C.2.1 dL_law_859 (lv_at hl 4 rfl) ?_
        refine lv_iconst (v := (1 : Int32)) C.1 C.2.1 dL_law_861 (by decide) ?_
        refine lv_iadd C.1 C.2.1 dL_law_862 ?_
        obtain ⟨hi863, hh⟩ := hh
        refine va_sld C.1 C.2.1 hX hbl hbA hw.2.2.2.1 hi863 dL_law_863 ?_
        refine lx_Vi C hw (ctX10_knows l D h cI cL cF cM F L r (xs (ix (x4 + (1 : Int32)))) hh) (cwV 1 C.2.2.2.2 (gd_V w_1153 w_1154 w_1155 w_114 w_1156) rfl rfl rfl cdX10_knows ⟨Nat.le_of_ble_eq_true rfl, Nat.le_of_ble_eq_true rfl⟩) rfl hl.1 (Nat.le_of_ble_eq_true rfl) dL_law_864 ⟨rmc (by omega), rms (by omega)⟩ (fun r864 u864 H locs hh hw => ?_) rfl
        refine lv_aload_n C.1 C.2.1 dL_law_867 rfl (lv_at hl 2 rfl) ?_
        refine lv_aload_n C.1 C.2.1 dL_law_868 rfl (lv_at hl 0 rfl) ?_
        refine lv_iload C.1 C.2.1 dL_law_869 (lv_at hl 4 rfl) ?_
        refine lv_iconst (v := (1 : Int32)) C.1 C.2.1 dL_law_871 (by decide) ?_
        refine lv_iadd C.1 C.2.1 dL_law_872 ?_
        obtain ⟨hi873, hh⟩ := hh
        refine va_sld C.1 C.2.1 hX hbl hbA hw.2.2.2.1 hi873 dL_law_873 ?_
        refine lm_Vi C hw (ctX11_knows l D o hm cI cZ f g (xs (ix (x4 + (1 : Int32)))) hh) (cwV 1 C.2.2.2.2 (gd_V w_1969 w_1970 w_1971 w_125 w_1972) rfl rfl rfl cdX11_knows ⟨Nat.le_of_ble_eq_true rfl, Nat.le_of_ble_eq_true rfl⟩) rfl hl.1 (Nat.le_of_ble_eq_true rfl) dL_law_874 ⟨rmc (by omega), rms (by omega)⟩ (fun r874 u874 H locs hh hw => ?_) rfl
        refine lv_icmp_eq (tgt := 1182) C.1 C.2.1 dL_law_877 (by decide) (fun c877 => ?_) (fun c877 => ?_)
        · replace hh := hh.1 c877
          first | exact tL_lawX_b1182 C hR hX hbl hbA hT hZ hl0 hcc hsc hB23 hh hw hl | exact W.widen (Nat.le_succ _) (Nat.le_add_right _ 6) (tL_lawX_b1182 C hR hX hbl hbA hT hZ hl0 hcc hsc hB23 hh hw hl)
        · replace hh := hh.2 c877
          refine lv_iconst (v := (0 : Int32)) C.1 C.2.1 dL_law_880 (by decide) ?_
          exact hR _ _ (by omega) (by omega) _ _ _ ((u864.1, u864.2.1, u864.2.2), (u874.1, u874.2), ou) _ _ dL_law_881 rfl hh hw
      · replace hh := hh.2.2.2.2.2.2.2.2.2.2.2.2.2.2.2.2.2.2.2.1 (sw_eq hv (by decide))
        refine lv_tableIn (off := 842) (tgt := 882) C.1 C.2.1 dL_law_40 hlo hhi (by rw [hv]; rfl) (by decide) ?_
        refine lv_aload_n C.1 C.2.1 dL_law_882 rfl (lv_at hl 1 rfl) ?_
        refine lv_aload_n C.1 C.2.1 dL_law_883 rfl (lv_at hl 0 rfl) ?_
        refine lv_iload C.1 C.2.1 dL_law_884 (lv_at hl 4 rfl) ?_
        refine lv_iconst (v := (1 : Int32)) C.1 C.2.1 dL_law_886 (by decide) ?_
        refine lv_iadd C.1 C.2.1 dL_law_887 ?_
        obtain ⟨hi888, hh⟩ := hh
        refine va_sld C.1 C.2.1 hX hbl hbA hw.2.2.2.1 hi888 dL_law_888 ?_
        refine lx_Vi C hw (ctX10_pull l D h cI cL cF cM F L r (xs (ix (x4 + (1 : Int32)))) hh) (cwV 1 C.2.2.2.2 (gd_V w_1159 w_1160 w_1161 w_114 w_1162) rfl rfl rfl cdX10_pull ⟨Nat.le_of_ble_eq_true rfl, Nat.le_of_ble_eq_true rfl⟩) rfl hl.1 (Nat.le_of_ble_eq_true rfl) dL_law_889 ⟨rmc (by omega), rms (by omega)⟩ (fun r889 u889 H locs hh hw => ?_) rfl
        refine lv_aload_n C.1 C.2.1 dL_law_892 rfl (lv_at hl 2 rfl) ?_
        refine lv_aload_n C.1 C.2.1 dL_law_893 rfl (lv_at hl 0 rfl) ?_
        refine lv_iload C.1 C.2.1 dL_law_894 (lv_at hl 4 rfl) ?_
        refine lv_iconst (v := (1 : Int32)) C.1 C.2.1 dL_law_896 (by decide) ?_
        refine lv_iadd C.1 C.2.1 dL_law_897 ?_
        obtain ⟨hi898, hh⟩ := hh
        refine va_sld C.1 C.2.1 hX hbl hbA hw.2.2.2.1 hi898 dL_law_898 ?_
        refine lm_Vi C hw (ctX11_pull l D o hm cI cZ f g (xs (ix (x4 + (1 : Int32)))) hh) (cwV 1 C.2.2.2.2 (gd_V w_1973 w_1974 w_1975 w_125 w_1976) rfl rfl rfl cdX11_pull ⟨Nat.le_of_ble_eq_true rfl, Nat.le_of_ble_eq_true rfl⟩) rfl hl.1 (Nat.le_of_ble_eq_true rfl) dL_law_899 ⟨rmc (by omega), rms (by omega)⟩ (fun r899 u899 H locs hh hw => ?_) rfl
        refine lv_icmp_eq (tgt := 1182) C.1 C.2.1 dL_law_902 (by decide) (fun c902 => ?_) (fun c902 => ?_)
        · replace hh := hh.1 c902
          first | exact tL_lawX_b1182 C hR hX hbl hbA hT hZ hl0 hcc hsc hB23 hh hw hl | exact W.widen (Nat.le_succ _) (Nat.le_add_right _ 6) (tL_lawX_b1182 C hR hX hbl hbA hT hZ hl0 hcc hsc hB23 hh hw hl)
        · replace hh := hh.2 c902
          refine lv_iconst (v := (0 : Int32)) C.1 C.2.1 dL_law_905 (by decide) ?_
          exact hR _ _ (by omega) (by omega) _ _ _ ((u889.1, u889.2.1, u889.2.2), (u899.1, u899.2), ou) _ _ dL_law_906 rfl hh hw
      · replace hh := hh.2.2.2.2.2.2.2.2.2.2.2.2.2.2.2.2.2.2.2.2.1 (sw_eq hv (by decide))
        refine lv_tableIn (off := 867) (tgt := 907) C.1 C.2.1 dL_law_40 hlo hhi (by rw [hv]; rfl) (by decide) ?_
        refine lv_aload_n C.1 C.2.1 dL_law_907 rfl (lv_at hl 1 rfl) ?_
        refine lv_aload_n C.1 C.2.1 dL_law_908 rfl (lv_at hl 0 rfl) ?_
        refine lv_iload C.1 C.2.1 dL_law_909 (lv_at hl 4 rfl) ?_
        refine lv_iconst (v := (1 : Int32)) C.1 C.2.1 dL_law_911 (by decide) ?_
        refine lv_iadd C.1 C.2.1 dL_law_912 ?_
        obtain ⟨hi913, hh⟩ := hh
        refine va_sld C.1 C.2.1 hX hbl hbA hw.2.2.2.1 hi913 dL_law_913 ?_
        refine lx_Vi C hw (ctX10_pullRun l D h cI cL cF cM F L r (xs (ix (x4 + (1 : Int32)))) hh) (cwV 1 C.2.2.2.2 (gd_V w_1190 w_1191 w_1192 w_114 w_1193) rfl rfl rfl cdX10_pullRun ⟨Nat.le_of_ble_eq_true rfl, Nat.le_of_ble_eq_true rfl⟩) rfl hl.1 (Nat.le_of_ble_eq_true rfl) dL_law_914 ⟨rmc (by omega), rms (by omega)⟩ (fun r914 u914 H locs hh hw => ?_) rfl
        refine lv_aload_n C.1 C.2.1 dL_law_917 rfl (lv_at hl 2 rfl) ?_
        refine lv_aload_n C.1 C.2.1 dL_law_918 rfl (lv_at hl 0 rfl) ?_
        refine lv_iload C.1 C.2.1 dL_law_919 (lv_at hl 4 rfl) ?_
        refine lv_iconst (v := (1 : Int32)) C.1 C.2.1 dL_law_921 (by decide) ?_
        refine lv_iadd C.1 C.2.1 dL_law_922 ?_
        obtain ⟨hi923, hh⟩ := hh
        refine va_sld C.1 C.2.1 hX hbl hbA hw.2.2.2.1 hi923 dL_law_923 ?_
        refine lm_Vi C hw (ctX11_pullRun l D o hm cI cZ f g (xs (ix (x4 + (1 : Int32)))) hh) (cwV 1 C.2.2.2.2 (gd_V w_1993 w_1994 w_1995 w_125 w_1996) rfl rfl rfl cdX11_pullRun ⟨Nat.le_of_ble_eq_true rfl, Nat.le_of_ble_eq_true rfl⟩) rfl hl.1 (Nat.le_of_ble_eq_true rfl) dL_law_924 ⟨rmc (by omega), rms (by omega)⟩ (fun r924 u924 H locs hh hw => ?_) rfl
        refine lv_icmp_eq (tgt := 1182) C.1 C.2.1 dL_law_927 (by decide) (fun c927 => ?_) (fun c927 => ?_)
        · replace hh := hh.1 c927
          first | exact tL_lawX_b1182 C hR hX hbl hbA hT hZ hl0 hcc hsc hB23 hh hw hl | exact W.widen (Nat.le_succ _) (Nat.le_add_right _ 6) (tL_lawX_b1182 C hR hX hbl hbA hT hZ hl0 hcc hsc hB23 hh hw hl)
        · replace hh := hh.2 c927
          refine lv_iconst (v := (0 : Int32)) C.1 C.2.1 dL_law_930 (by decide) ?_
          exact hR _ _ (by omega) (by omega) _ _ _ ((u914.1, u914.2.1, u914.2.2), (u924.1, u924.2), ou) _ _ dL_law_931 rfl hh hw
      · replace hh := hh.2.2.2.2.2.2.2.2.2.2.2.2.2.2.2.2.2.2.2.2.2.1 (sw_eq hv (by decide))
        refine lv_tableIn (off := 892) (tgt := 932) C.1 C.2.1 dL_law_40 hlo hhi (by rw [hv]; rfl) (by decide) ?_
        refine lv_aload_n C.1 C.2.1 dL_law_932 rfl (lv_at hl 1 rfl) ?_
        refine lx_Vi C hw (ctX10_relays l D h cI cL cF cM F L r hh) (cwV 0 C.2.2.2.2 (gd_V w_1194 w_1195 w_1196 w_114 w_1197) rfl rfl rfl cdX10_relays ⟨Nat.le_of_ble_eq_true rfl, Nat.le_of_ble_eq_true rfl⟩) rfl hl.1 (Nat.le_of_ble_eq_true rfl) dL_law_933 ⟨rmc (by omega), rms (by omega)⟩ (fun r933 u933 H locs hh hw => ?_) rfl
        refine lv_aload_n C.1 C.2.1 dL_law_936 rfl (lv_at hl 2 rfl) ?_
        refine lm_Vi C hw (ctX11_relays l D o hm cI cZ f g hh) (cwV 0 C.2.2.2.2 (gd_V w_1997 w_1998 w_1999 w_125 w_2000) rfl rfl rfl cdX11_relays ⟨Nat.le_of_ble_eq_true rfl, Nat.le_of_ble_eq_true rfl⟩) rfl hl.1 (Nat.le_of_ble_eq_true rfl) dL_law_937 ⟨rmc (by omega), rms (by omega)⟩ (fun r937 u937 H locs hh hw => ?_) rfl
        refine lv_icmp_eq (tgt := 1182) C.1 C.2.1 dL_law_940 (by decide) (fun c940 => ?_) (fun c940 => ?_)
        · replace hh := hh.1 c940
          first | exact tL_lawX_b1182 C hR hX hbl hbA hT hZ hl0 hcc hsc hB23 hh hw hl | exact W.widen (Nat.le_succ _) (Nat.le_add_right _ 6) (tL_lawX_b1182 C hR hX hbl hbA hT hZ hl0 hcc hsc hB23 hh hw hl)
        · replace hh := hh.2 c940
          refine lv_iconst (v := (0 : Int32)) C.1 C.2.1 dL_law_943 (by decide) ?_
          exact hR _ _ (by omega) (by omega) _ _ _ ((u933.1, u933.2.1, u933.2.2), (u937.1, u937.2), ou) _ _ dL_law_944 rfl hh hw
      · replace hh := hh.2.2.2.2.2.2.2.2.2.2.2.2.2.2.2.2.2.2.2.2.2.2.1 (sw_eq hv (by decide))
        refine lv_tableIn (off := 905) (tgt := 945) C.1 C.2.1 dL_law_40 hlo hhi (by rw [hv]; rfl) (by decide) ?_
        refine lv_aload_n C.1 C.2.1 dL_law_945 rfl (lv_at hl 1 rfl) ?_
        refine lx_Vi C hw (ctX10_race l D h cI cL cF cM F L r hh) (cwV 0 C.2.2.2.2 (gd_V w_1198 w_1199 w_1200 w_114 w_1201) rfl rfl rfl cdX10_race ⟨Nat.le_of_ble_eq_true rfl, Nat.le_of_ble_eq_true rfl⟩) rfl hl.1 (Nat.le_of_ble_eq_true rfl) dL_law_946 ⟨rmc (by omega), rms (by omega)⟩ (fun r946 u946 H locs hh hw => ?_) rfl
        refine lv_aload_n C.1 C.2.1 dL_law_949 rfl (lv_at hl 2 rfl) ?_
        refine lm_Vi C hw (ctX11_race l D o hm cI cZ f g hh) (cwV 0 C.2.2.2.2 (gd_V w_2001 w_2002 w_2003 w_125 w_2004) rfl rfl rfl cdX11_race ⟨Nat.le_of_ble_eq_true rfl, Nat.le_of_ble_eq_true rfl⟩) rfl hl.1 (Nat.le_of_ble_eq_true rfl) dL_law_950 ⟨rmc (by omega), rms (by omega)⟩ (fun r950 u950 H locs hh hw => ?_) rfl
        refine lv_icmp_eq (tgt := 1182) C.1 C.2.1 dL_law_953 (by decide) (fun c953 => ?_) (fun c953 => ?_)
        · replace hh := hh.1 c953
          first | exact tL_lawX_b1182 C hR hX hbl hbA hT hZ hl0 hcc hsc hB23 hh hw hl | exact W.widen (Nat.le_succ _) (Nat.le_add_right _ 6) (tL_lawX_b1182 C hR hX hbl hbA hT hZ hl0 hcc hsc hB23 hh hw hl)
        · replace hh := hh.2 c953
          refine lv_iconst (v := (0 : Int32)) C.1 C.2.1 dL_law_956 (by decide) ?_
          exact hR _ _ (by omega) (by omega) _ _ _ ((u946.1, u946.2.1, u946.2.2), (u950.1, u950.2), ou) _ _ dL_law_957 rfl hh hw
      · replace hh := hh.2.2.2.2.2.2.2.2.2.2.2.2.2.2.2.2.2.2.2.2.2.2.2.1 (sw_eq hv (by decide))
        refine lv_tableIn (off := 918) (tgt := 958) C.1 C.2.1 dL_law_40 hlo hhi (by rw [hv]; rfl) (by decide) ?_
        refine lv_aload_n C.1 C.2.1 dL_law_958 rfl (lv_at hl 1 rfl) ?_
        refine lv_aload_n C.1 C.2.1 dL_law_959 rfl (lv_at hl 0 rfl) ?_
        refine lv_iload C.1 C.2.1 dL_law_960 (lv_at hl 4 rfl) ?_
        refine lv_iconst (v := (1 : Int32)) C.1 C.2.1 dL_law_962 (by decide) ?_
        refine lv_iadd C.1 C.2.1 dL_law_963 ?_
        obtain ⟨hi964, hh⟩ := hh
        refine va_sld C.1 C.2.1 hX hbl hbA hw.2.2.2.1 hi964 dL_law_964 ?_
        refine lv_aload_n C.1 C.2.1 dL_law_965 rfl (lv_at hl 0 rfl) ?_
        refine lv_iload C.1 C.2.1 dL_law_966 (lv_at hl 4 rfl) ?_
        refine lv_iconst (v := (2 : Int32)) C.1 C.2.1 dL_law_968 (by decide) ?_
        refine lv_iadd C.1 C.2.1 dL_law_969 ?_
        obtain ⟨hi970, hh⟩ := hh
        refine va_sld C.1 C.2.1 hX hbl hbA hw.2.2.2.1 hi970 dL_law_970 ?_
        refine lx_Vi C hw (ctX10_stick l D h cI cL cF cM F L r (xs (ix (x4 + (1 : Int32)))) (xs (ix (x4 + (2 : Int32)))) hh) (cwV 2 C.2.2.2.2 (gd_V w_1215 w_1216 w_1217 w_114 w_1218) rfl rfl rfl cdX10_stick ⟨Nat.le_of_ble_eq_true rfl, Nat.le_of_ble_eq_true rfl⟩) rfl hl.1 (Nat.le_of_ble_eq_true rfl) dL_law_971 ⟨rmc (by omega), rms (by omega)⟩ (fun r971 u971 H locs hh hw => ?_) rfl
        refine lv_aload_n C.1 C.2.1 dL_law_974 rfl (lv_at hl 2 rfl) ?_
        refine lv_aload_n C.1 C.2.1 dL_law_975 rfl (lv_at hl 0 rfl) ?_
        refine lv_iload C.1 C.2.1 dL_law_976 (lv_at hl 4 rfl) ?_
        refine lv_iconst (v := (1 : Int32)) C.1 C.2.1 dL_law_978 (by decide) ?_
        refine lv_iadd C.1 C.2.1 dL_law_979 ?_
        obtain ⟨hi980, hh⟩ := hh
        refine va_sld C.1 C.2.1 hX hbl hbA hw.2.2.2.1 hi980 dL_law_980 ?_
        refine lv_aload_n C.1 C.2.1 dL_law_981 rfl (lv_at hl 0 rfl) ?_
        refine lv_iload C.1 C.2.1 dL_law_982 (lv_at hl 4 rfl) ?_
        refine lv_iconst (v := (2 : Int32)) C.1 C.2.1 dL_law_984 (by decide) ?_
        refine lv_iadd C.1 C.2.1 dL_law_985 ?_
        obtain ⟨hi986, hh⟩ := hh
        refine va_sld C.1 C.2.1 hX hbl hbA hw.2.2.2.1 hi986 dL_law_986 ?_
        refine lm_Vi C hw (ctX11_stick l D o hm cI cZ f g (xs (ix (x4 + (1 : Int32)))) (xs (ix (x4 + (2 : Int32)))) hh) (cwV 2 C.2.2.2.2 (gd_V w_2009 w_2010 w_2011 w_125 w_2012) rfl rfl rfl cdX11_stick ⟨Nat.le_of_ble_eq_true rfl, Nat.le_of_ble_eq_true rfl⟩) rfl hl.1 (Nat.le_of_ble_eq_true rfl) dL_law_987 ⟨rmc (by omega), rms (by omega)⟩ (fun r987 u987 H locs hh hw => ?_) rfl
        refine lv_icmp_eq (tgt := 1182) C.1 C.2.1 dL_law_990 (by decide) (fun c990 => ?_) (fun c990 => ?_)
        · replace hh := hh.1 c990
          first | exact tL_lawX_b1182 C hR hX hbl hbA hT hZ hl0 hcc hsc hB23 hh hw hl | exact W.widen (Nat.le_succ _) (Nat.le_add_right _ 6) (tL_lawX_b1182 C hR hX hbl hbA hT hZ hl0 hcc hsc hB23 hh hw hl)
        · replace hh := hh.2 c990
          refine lv_iconst (v := (0 : Int32)) C.1 C.2.1 dL_law_993 (by decide) ?_
          exact hR _ _ (by omega) (by omega) _ _ _ ((u971.1, u971.2.1, u971.2.2), (u987.1, u987.2), ou) _ _ dL_law_994 rfl hh hw
      · replace hh := hh.2.2.2.2.2.2.2.2.2.2.2.2.2.2.2.2.2.2.2.2.2.2.2.2.1 (sw_eq hv (by decide))
        refine lv_tableIn (off := 955) (tgt := 995) C.1 C.2.1 dL_law_40 hlo hhi (by rw [hv]; rfl) (by decide) ?_
        refine lv_aload_n C.1 C.2.1 dL_law_995 rfl (lv_at hl 1 rfl) ?_
        refine lx_Vi C hw (ctX10_stuck l D h cI cL cF cM F L r hh) (cwV 0 C.2.2.2.2 (gd_V w_1227 w_1228 w_1229 w_114 w_1230) rfl rfl rfl cdX10_stuck ⟨Nat.le_of_ble_eq_true rfl, Nat.le_of_ble_eq_true rfl⟩) rfl hl.1 (Nat.le_of_ble_eq_true rfl) dL_law_996 ⟨rmc (by omega), rms (by omega)⟩ (fun r996 u996 H locs hh hw => ?_) rfl
        refine lv_aload_n C.1 C.2.1 dL_law_999 rfl (lv_at hl 2 rfl) ?_
        refine lm_Vi C hw (ctX11_stuck l D o hm cI cZ f g hh) (cwV 0 C.2.2.2.2 (gd_V w_2017 w_2018 w_2019 w_125 w_2020) rfl rfl rfl cdX11_stuck ⟨Nat.le_of_ble_eq_true rfl, Nat.le_of_ble_eq_true rfl⟩) rfl hl.1 (Nat.le_of_ble_eq_true rfl) dL_law_1000 ⟨rmc (by omega), rms (by omega)⟩ (fun r1000 u1000 H locs hh hw => ?_) rfl
        refine lv_icmp_eq (tgt := 1182) C.1 C.2.1 dL_law_1003 (by decide) (fun c1003 => ?_) (fun c1003 => ?_)
        · replace hh := hh.1 c1003
          first | exact tL_lawX_b1182 C hR hX hbl hbA hT hZ hl0 hcc hsc hB23 hh hw hl | exact W.widen (Nat.le_succ _) (Nat.le_add_right _ 6) (tL_lawX_b1182 C hR hX hbl hbA hT hZ hl0 hcc hsc hB23 hh hw hl)
        · replace hh := hh.2 c1003
          refine lv_iconst (v := (0 : Int32)) C.1 C.2.1 dL_law_1006 (by decide) ?_
          exact hR _ _ (by omega) (by omega) _ _ _ ((u996.1, u996.2.1, u996.2.2), (u1000.1, u1000.2), ou) _ _ dL_law_1007 rfl hh hw
      · replace hh := hh.2.2.2.2.2.2.2.2.2.2.2.2.2.2.2.2.2.2.2.2.2.2.2.2.2.1 (sw_eq hv (by decide))
        refine lv_tableIn (off := 968) (tgt := 1008) C.1 C.2.1 dL_law_40 hlo hhi (by rw [hv]; rfl) (by decide) ?_
        refine lv_aload_n C.1 C.2.1 dL_law_1008 rfl (lv_at hl 1 rfl) ?_
        refine lv_aload_n C.1 C.2.1 dL_law_1009 rfl (lv_at hl 0 rfl) ?_
        refine lv_iload C.1 C.2.1 dL_law_1010 (lv_at hl 4 rfl) ?_
        refine lv_iconst (v := (1 : Int32)) C.1 C.2.1 dL_law_1012 (by decide) ?_
        refine lv_iadd C.1 C.2.1 dL_law_1013 ?_
        obtain ⟨hi1014, hh⟩ := hh
        refine va_sld C.1 C.2.1 hX hbl hbA hw.2.2.2.1 hi1014 dL_law_1014 ?_
        refine lx_Vi C hw (ctX10_same l D h cI cL cF cM F L r (xs (ix (x4 + (1 : Int32)))) hh) (cwV 1 C.2.2.2.2 (gd_V w_1231 w_1232 w_1233 w_114 w_1234) rfl rfl rfl cdX10_same ⟨Nat.le_of_ble_eq_true rfl, Nat.le_of_ble_eq_true rfl⟩) rfl hl.1 (Nat.le_of_ble_eq_true rfl) dL_law_1015 ⟨rmc (by omega), rms (by omega)⟩ (fun r1015 u1015 H locs hh hw => ?_) rfl
        refine lv_aload_n C.1 C.2.1 dL_law_1018 rfl (lv_at hl 2 rfl) ?_
        refine lv_aload_n C.1 C.2.1 dL_law_1019 rfl (lv_at hl 0 rfl) ?_
        refine lv_iload C.1 C.2.1 dL_law_1020 (lv_at hl 4 rfl) ?_
        refine lv_iconst (v := (1 : Int32)) C.1 C.2.1 dL_law_1022 (by decide) ?_
        refine lv_iadd C.1 C.2.1 dL_law_1023 ?_
        obtain ⟨hi1024, hh⟩ := hh
        refine va_sld C.1 C.2.1 hX hbl hbA hw.2.2.2.1 hi1024 dL_law_1024 ?_
        refine lm_Vi C hw (ctX11_same l D o hm cI cZ f g (xs (ix (x4 + (1 : Int32)))) hh) (cwV 1 C.2.2.2.2 (gd_V w_2021 w_2022 w_2023 w_125 w_2024) rfl rfl rfl cdX11_same ⟨Nat.le_of_ble_eq_true rfl, Nat.le_of_ble_eq_true rfl⟩) rfl hl.1 (Nat.le_of_ble_eq_true rfl) dL_law_1025 ⟨rmc (by omega), rms (by omega)⟩ (fun r1025 u1025 H locs hh hw => ?_) rfl
        refine lv_icmp_eq (tgt := 1182) C.1 C.2.1 dL_law_1028 (by decide) (fun c1028 => ?_) (fun c1028 => ?_)
        · replace hh := hh.1 c1028
          first | exact tL_lawX_b1182 C hR hX hbl hbA hT hZ hl0 hcc hsc hB23 hh hw hl | exact W.widen (Nat.le_succ _) (Nat.le_add_right _ 6) (tL_lawX_b1182 C hR hX hbl hbA hT hZ hl0 hcc hsc hB23 hh hw hl)
        · replace hh := hh.2 c1028
          refine lv_iconst (v := (0 : Int32)) C.1 C.2.1 dL_law_1031 (by decide) ?_
          exact hR _ _ (by omega) (by omega) _ _ _ ((u1015.1, u1015.2.1, u1015.2.2), (u1025.1, u1025.2), ou) _ _ dL_law_1032 rfl hh hw
      · replace hh := hh.2.2.2.2.2.2.2.2.2.2.2.2.2.2.2.2.2.2.2.2.2.2.2.2.2.2.1 (sw_eq hv (by decide))
        refine lv_tableIn (off := 993) (tgt := 1033) C.1 C.2.1 dL_law_40 hlo hhi (by rw [hv]; rfl) (by decide) ?_
        refine lv_aload_n C.1 C.2.1 dL_law_1033 rfl (lv_at hl 1 rfl) ?_
        refine lv_aload_n C.1 C.2.1 dL_law_1034 rfl (lv_at hl 0 rfl) ?_
        refine lv_iload C.1 C.2.1 dL_law_1035 (lv_at hl 4 rfl) ?_
        refine lv_iconst (v := (1 : Int32)) C.1 C.2.1 dL_law_1037 (by decide) ?_
        refine lv_iadd C.1 C.2.1 dL_law_1038 ?_
        obtain ⟨hi1039, hh⟩ := hh
        refine va_sld C.1 C.2.1 hX hbl hbA hw.2.2.2.1 hi1039 dL_law_1039 ?_
        refine lv_aload_n C.1 C.2.1 dL_law_1040 rfl (lv_at hl 0 rfl) ?_
        refine lv_iload C.1 C.2.1 dL_law_1041 (lv_at hl 4 rfl) ?_
        refine lv_iconst (v := (2 : Int32)) C.1 C.2.1 dL_law_1043 (by decide) ?_
        refine lv_iadd C.1 C.2.1 dL_law_1044 ?_
        obtain ⟨hi1045, hh⟩ := hh
        refine va_sld C.1 C.2.1 hX hbl hbA hw.2.2.2.1 hi1045 dL_law_1045 ?_
        refine lx_Vi C hw (ctX10_suspects l D h cI cL cF cM F L r (xs (ix (x4 + (1 : Int32)))) (xs (ix (x4 + (2 : Int32)))) hh) (cwV 2 C.2.2.2.2 (gd_V w_1269 w_1270 w_1271 w_114 w_1272) rfl rfl rfl cdX10_suspects ⟨Nat.le_of_ble_eq_true rfl, Nat.le_of_ble_eq_true rfl⟩) rfl hl.1 (Nat.le_of_ble_eq_true rfl) dL_law_1046 ⟨rmc (by omega), rms (by omega)⟩ (fun r1046 u1046 H locs hh hw => ?_) rfl
        refine lv_aload_n C.1 C.2.1 dL_law_1049 rfl (lv_at hl 2 rfl) ?_
        refine lv_aload_n C.1 C.2.1 dL_law_1050 rfl (lv_at hl 0 rfl) ?_
        refine lv_iload C.1 C.2.1 dL_law_1051 (lv_at hl 4 rfl) ?_
        refine lv_iconst (v := (1 : Int32)) C.1 C.2.1 dL_law_1053 (by decide) ?_
        refine lv_iadd C.1 C.2.1 dL_law_1054 ?_
        obtain ⟨hi1055, hh⟩ := hh
        refine va_sld C.1 C.2.1 hX hbl hbA hw.2.2.2.1 hi1055 dL_law_1055 ?_
        refine lv_aload_n C.1 C.2.1 dL_law_1056 rfl (lv_at hl 0 rfl) ?_
        refine lv_iload C.1 C.2.1 dL_law_1057 (lv_at hl 4 rfl) ?_
        refine lv_iconst (v := (2 : Int32)) C.1 C.2.1 dL_law_1059 (by decide) ?_
        refine lv_iadd C.1 C.2.1 dL_law_1060 ?_
        obtain ⟨hi1061, hh⟩ := hh
        refine va_sld C.1 C.2.1 hX hbl hbA hw.2.2.2.1 hi1061 dL_law_1061 ?_
        refine lm_Vi C hw (ctX11_suspects l D o hm cI cZ f g (xs (ix (x4 + (1 : Int32)))) (xs (ix (x4 + (2 : Int32)))) hh) (cwV 2 C.2.2.2.2 (gd_V w_2025 w_2026 w_2027 w_125 w_2028) rfl rfl rfl cdX11_suspects ⟨Nat.le_of_ble_eq_true rfl, Nat.le_of_ble_eq_true rfl⟩) rfl hl.1 (Nat.le_of_ble_eq_true rfl) dL_law_1062 ⟨rmc (by omega), rms (by omega)⟩ (fun r1062 u1062 H locs hh hw => ?_) rfl
        refine lv_icmp_eq (tgt := 1182) C.1 C.2.1 dL_law_1065 (by decide) (fun c1065 => ?_) (fun c1065 => ?_)
        · replace hh := hh.1 c1065
          first | exact tL_lawX_b1182 C hR hX hbl hbA hT hZ hl0 hcc hsc hB23 hh hw hl | exact W.widen (Nat.le_succ _) (Nat.le_add_right _ 6) (tL_lawX_b1182 C hR hX hbl hbA hT hZ hl0 hcc hsc hB23 hh hw hl)
        · replace hh := hh.2 c1065
          refine lv_iconst (v := (0 : Int32)) C.1 C.2.1 dL_law_1068 (by decide) ?_
          exact hR _ _ (by omega) (by omega) _ _ _ ((u1046.1, u1046.2.1, u1046.2.2), (u1062.1, u1062.2), ou) _ _ dL_law_1069 rfl hh hw
      · replace hh := hh.2.2.2.2.2.2.2.2.2.2.2.2.2.2.2.2.2.2.2.2.2.2.2.2.2.2.2.1 (sw_eq hv (by decide))
        refine lv_tableIn (off := 1030) (tgt := 1070) C.1 C.2.1 dL_law_40 hlo hhi (by rw [hv]; rfl) (by decide) ?_
        refine lv_aload_n C.1 C.2.1 dL_law_1070 rfl (lv_at hl 1 rfl) ?_
        refine lv_aload_n C.1 C.2.1 dL_law_1071 rfl (lv_at hl 0 rfl) ?_
        refine lv_iload C.1 C.2.1 dL_law_1072 (lv_at hl 4 rfl) ?_
        refine lv_iconst (v := (1 : Int32)) C.1 C.2.1 dL_law_1074 (by decide) ?_
        refine lv_iadd C.1 C.2.1 dL_law_1075 ?_
        obtain ⟨hi1076, hh⟩ := hh
        refine va_sld C.1 C.2.1 hX hbl hbA hw.2.2.2.1 hi1076 dL_law_1076 ?_
        refine lv_aload_n C.1 C.2.1 dL_law_1077 rfl (lv_at hl 0 rfl) ?_
        refine lv_iload C.1 C.2.1 dL_law_1078 (lv_at hl 4 rfl) ?_
        refine lv_iconst (v := (2 : Int32)) C.1 C.2.1 dL_law_1080 (by decide) ?_
        refine lv_iadd C.1 C.2.1 dL_law_1081 ?_
        obtain ⟨hi1082, hh⟩ := hh
        refine va_sld C.1 C.2.1 hX hbl hbA hw.2.2.2.1 hi1082 dL_law_1082 ?_
        refine lx_Vi C hw (ctX10_trial l D h cI cL cF cM F L r (xs (ix (x4 + (1 : Int32)))) (xs (ix (x4 + (2 : Int32)))) hh) (cwV 2 C.2.2.2.2 (gd_V w_1290 w_1291 w_1292 w_114 w_1293) rfl rfl rfl cdX10_trial ⟨Nat.le_of_ble_eq_true rfl, Nat.le_of_ble_eq_true rfl⟩) rfl hl.1 (Nat.le_of_ble_eq_true rfl) dL_law_1083 ⟨rmc (by omega), rms (by omega)⟩ (fun r1083 u1083 H locs hh hw => ?_) rfl
        refine lv_aload_n C.1 C.2.1 dL_law_1086 rfl (lv_at hl 2 rfl) ?_
        refine lv_aload_n C.1 C.2.1 dL_law_1087 rfl (lv_at hl 0 rfl) ?_
        refine lv_iload C.1 C.2.1 dL_law_1088 (lv_at hl 4 rfl) ?_
        refine lv_iconst (v := (1 : Int32)) C.1 C.2.1 dL_law_1090 (by decide) ?_
        refine lv_iadd C.1 C.2.1 dL_law_1091 ?_
        obtain ⟨hi1092, hh⟩ := hh
        refine va_sld C.1 C.2.1 hX hbl hbA hw.2.2.2.1 hi1092 dL_law_1092 ?_
        refine lv_aload_n C.1 C.2.1 dL_law_1093 rfl (lv_at hl 0 rfl) ?_
        refine lv_iload C.1 C.2.1 dL_law_1094 (lv_at hl 4 rfl) ?_
        refine lv_iconst (v := (2 : Int32)) C.1 C.2.1 dL_law_1096 (by decide) ?_
        refine lv_iadd C.1 C.2.1 dL_law_1097 ?_
        obtain ⟨hi1098, hh⟩ := hh
        refine va_sld C.1 C.2.1 hX hbl hbA hw.2.2.2.1 hi1098 dL_law_1098 ?_
        refine lm_Vi C hw (ctX11_trial l D o hm cI cZ f g (xs (ix (x4 + (1 : Int32)))) (xs (ix (x4 + (2 : Int32)))) hh) (cwV 2 C.2.2.2.2 (gd_V w_2049 w_2050 w_2051 w_125 w_2052) rfl rfl rfl cdX11_trial ⟨Nat.le_of_ble_eq_true rfl, Nat.le_of_ble_eq_true rfl⟩) rfl hl.1 (Nat.le_of_ble_eq_true rfl) dL_law_1099 ⟨rmc (by omega), rms (by omega)⟩ (fun r1099 u1099 H locs hh hw => ?_) rfl
        refine lv_icmp_eq (tgt := 1182) C.1 C.2.1 dL_law_1102 (by decide) (fun c1102 => ?_) (fun c1102 => ?_)
        · replace hh := hh.1 c1102
          first | exact tL_lawX_b1182 C hR hX hbl hbA hT hZ hl0 hcc hsc hB23 hh hw hl | exact W.widen (Nat.le_succ _) (Nat.le_add_right _ 6) (tL_lawX_b1182 C hR hX hbl hbA hT hZ hl0 hcc hsc hB23 hh hw hl)
        · replace hh := hh.2 c1102
          refine lv_iconst (v := (0 : Int32)) C.1 C.2.1 dL_law_1105 (by decide) ?_
          exact hR _ _ (by omega) (by omega) _ _ _ ((u1083.1, u1083.2.1, u1083.2.2), (u1099.1, u1099.2), ou) _ _ dL_law_1106 rfl hh hw
      · replace hh := hh.2.2.2.2.2.2.2.2.2.2.2.2.2.2.2.2.2.2.2.2.2.2.2.2.2.2.2.2.1 (sw_eq hv (by decide))
        refine lv_tableIn (off := 1067) (tgt := 1107) C.1 C.2.1 dL_law_40 hlo hhi (by rw [hv]; rfl) (by decide) ?_
        refine lv_aload_n C.1 C.2.1 dL_law_1107 rfl (lv_at hl 1 rfl) ?_
        refine lv_aload_n C.1 C.2.1 dL_law_1108 rfl (lv_at hl 0 rfl) ?_
        refine lv_iload C.1 C.2.1 dL_law_1109 (lv_at hl 4 rfl) ?_
        refine lv_iconst (v := (1 : Int32)) C.1 C.2.1 dL_law_1111 (by decide) ?_
        refine lv_iadd C.1 C.2.1 dL_law_1112 ?_
        obtain ⟨hi1113, hh⟩ := hh
        refine va_sld C.1 C.2.1 hX hbl hbA hw.2.2.2.1 hi1113 dL_law_1113 ?_
        refine lx_Vi C hw (ctX10_keep l D h cI cL cF cM F L r (xs (ix (x4 + (1 : Int32)))) hh) (cwV 1 C.2.2.2.2 (gd_V w_1319 w_1320 w_1321 w_114 w_1322) rfl rfl rfl cdX10_keep ⟨Nat.le_of_ble_eq_true rfl, Nat.le_of_ble_eq_true rfl⟩) rfl hl.1 (Nat.le_of_ble_eq_true rfl) dL_law_1114 ⟨rmc (by omega), rms (by omega)⟩ (fun r1114 u1114 H locs hh hw => ?_) rfl
        refine lv_aload_n C.1 C.2.1 dL_law_1117 rfl (lv_at hl 2 rfl) ?_
        refine lv_aload_n C.1 C.2.1 dL_law_1118 rfl (lv_at hl 0 rfl) ?_
        refine lv_iload C.1 C.2.1 dL_law_1119 (lv_at hl 4 rfl) ?_
        refine lv_iconst (v := (1 : Int32)) C.1 C.2.1 dL_law_1121 (by decide) ?_
        refine lv_iadd C.1 C.2.1 dL_law_1122 ?_
        obtain ⟨hi1123, hh⟩ := hh
        refine va_sld C.1 C.2.1 hX hbl hbA hw.2.2.2.1 hi1123 dL_law_1123 ?_
        refine lm_Vi C hw (ctX11_keep l D o hm cI cZ f g (xs (ix (x4 + (1 : Int32)))) hh) (cwV 1 C.2.2.2.2 (gd_V w_1894 w_1895 w_1896 w_125 w_1897) rfl rfl rfl cdX11_keep ⟨Nat.le_of_ble_eq_true rfl, Nat.le_of_ble_eq_true rfl⟩) rfl hl.1 (Nat.le_of_ble_eq_true rfl) dL_law_1124 ⟨rmc (by omega), rms (by omega)⟩ (fun r1124 u1124 H locs hh hw => ?_) rfl
        refine lv_icmp_eq (tgt := 1182) C.1 C.2.1 dL_law_1127 (by decide) (fun c1127 => ?_) (fun c1127 => ?_)
        · replace hh := hh.1 c1127
          first | exact tL_lawX_b1182 C hR hX hbl hbA hT hZ hl0 hcc hsc hB23 hh hw hl | exact W.widen (Nat.le_succ _) (Nat.le_add_right _ 6) (tL_lawX_b1182 C hR hX hbl hbA hT hZ hl0 hcc hsc hB23 hh hw hl)
        · replace hh := hh.2 c1127
          refine lv_iconst (v := (0 : Int32)) C.1 C.2.1 dL_law_1130 (by decide) ?_
          exact hR _ _ (by omega) (by omega) _ _ _ ((u1114.1, u1114.2.1, u1114.2.2), (u1124.1, u1124.2), ou) _ _ dL_law_1131 rfl hh hw
      · replace hh := hh.2.2.2.2.2.2.2.2.2.2.2.2.2.2.2.2.2.2.2.2.2.2.2.2.2.2.2.2.2.1 (sw_eq hv (by decide))
        refine lv_tableIn (off := 1092) (tgt := 1132) C.1 C.2.1 dL_law_40 hlo hhi (by rw [hv]; rfl) (by decide) ?_
        refine lv_aload_n C.1 C.2.1 dL_law_1132 rfl (lv_at hl 1 rfl) ?_
        refine lv_aload_n C.1 C.2.1 dL_law_1133 rfl (lv_at hl 0 rfl) ?_
        refine lv_iload C.1 C.2.1 dL_law_1134 (lv_at hl 4 rfl) ?_
        refine lv_iconst (v := (1 : Int32)) C.1 C.2.1 dL_law_1136 (by decide) ?_
        refine lv_iadd C.1 C.2.1 dL_law_1137 ?_
        obtain ⟨hi1138, hh⟩ := hh
        refine va_sld C.1 C.2.1 hX hbl hbA hw.2.2.2.1 hi1138 dL_law_1138 ?_
        refine lx_Vi C hw (ctX10_restore l D h cI cL cF cM F L r (xs (ix (x4 + (1 : Int32)))) hh) (cwV 1 C.2.2.2.2 (gd_V w_1325 w_1326 w_1327 w_114 w_1328) rfl rfl rfl cdX10_restore ⟨Nat.le_of_ble_eq_true rfl, Nat.le_of_ble_eq_true rfl⟩) rfl hl.1 (Nat.le_of_ble_eq_true rfl) dL_law_1139 ⟨rmc (by omega), rms (by omega)⟩ (fun r1139 u1139 H locs hh hw => ?_) rfl
        refine lv_aload_n C.1 C.2.1 dL_law_1142 rfl (lv_at hl 2 rfl) ?_
        refine lv_aload_n C.1 C.2.1 dL_law_1143 rfl (lv_at hl 0 rfl) ?_
        refine lv_iload C.1 C.2.1 dL_law_1144 (lv_at hl 4 rfl) ?_
        refine lv_iconst (v := (1 : Int32)) C.1 C.2.1 dL_law_1146 (by decide) ?_
        refine lv_iadd C.1 C.2.1 dL_law_1147 ?_
        obtain ⟨hi1148, hh⟩ := hh
        refine va_sld C.1 C.2.1 hX hbl hbA hw.2.2.2.1 hi1148 dL_law_1148 ?_
        refine lm_Vi C hw (ctX11_restore l D o hm cI cZ f g (xs (ix (x4 + (1 : Int32)))) hh) (cwV 1 C.2.2.2.2 (gd_V w_1902 w_1903 w_1904 w_125 w_1905) rfl rfl rfl cdX11_restore ⟨Nat.le_of_ble_eq_true rfl, Nat.le_of_ble_eq_true rfl⟩) rfl hl.1 (Nat.le_of_ble_eq_true rfl) dL_law_1149 ⟨rmc (by omega), rms (by omega)⟩ (fun r1149 u1149 H locs hh hw => ?_) rfl
        refine lv_icmp_eq (tgt := 1182) C.1 C.2.1 dL_law_1152 (by decide) (fun c1152 => ?_) (fun c1152 => ?_)
        · replace hh := hh.1 c1152
          first | exact tL_lawX_b1182 C hR hX hbl hbA hT hZ hl0 hcc hsc hB23 hh hw hl | exact W.widen (Nat.le_succ _) (Nat.le_add_right _ 6) (tL_lawX_b1182 C hR hX hbl hbA hT hZ hl0 hcc hsc hB23 hh hw hl)
        · replace hh := hh.2 c1152
          refine lv_iconst (v := (0 : Int32)) C.1 C.2.1 dL_law_1155 (by decide) ?_
          exact hR _ _ (by omega) (by omega) _ _ _ ((u1139.1, u1139.2.1, u1139.2.2), (u1149.1, u1149.2), ou) _ _ dL_law_1156 rfl hh hw
      · replace hh := hh.2.2.2.2.2.2.2.2.2.2.2.2.2.2.2.2.2.2.2.2.2.2.2.2.2.2.2.2.2.2.1 (sw_eq hv (by decide))
        refine lv_tableIn (off := 1117) (tgt := 1157) C.1 C.2.1 dL_law_40 hlo hhi (by rw [hv]; rfl) (by decide) ?_
        refine lv_aload_n C.1 C.2.1 dL_law_1157 rfl (lv_at hl 1 rfl) ?_
        refine lv_aload_n C.1 C.2.1 dL_law_1158 rfl (lv_at hl 0 rfl) ?_
        refine lv_iload C.1 C.2.1 dL_law_1159 (lv_at hl 4 rfl) ?_
        refine lv_iconst (v := (1 : Int32)) C.1 C.2.1 dL_law_1161 (by decide) ?_
        refine lv_iadd C.1 C.2.1 dL_law_1162 ?_
        obtain ⟨hi1163, hh⟩ := hh
        refine va_sld C.1 C.2.1 hX hbl hbA hw.2.2.2.1 hi1163 dL_law_1163 ?_
        refine lx_Vi C hw (ctX10_count l D h cI cL cF cM F L r (xs (ix (x4 + (1 : Int32)))) hh) (cwV 1 C.2.2.2.2 (gd_V w_1330 w_1331 w_1332 w_114 w_1333) rfl rfl rfl cdX10_count ⟨Nat.le_of_ble_eq_true rfl, Nat.le_of_ble_eq_true rfl⟩) rfl hl.1 (Nat.le_of_ble_eq_true rfl) dL_law_1164 ⟨rmc (by omega), rms (by omega)⟩ (fun r1164 u1164 H locs hh hw => ?_) rfl
        refine lv_aload_n C.1 C.2.1 dL_law_1167 rfl (lv_at hl 2 rfl) ?_
        refine lv_aload_n C.1 C.2.1 dL_law_1168 rfl (lv_at hl 0 rfl) ?_
        refine lv_iload C.1 C.2.1 dL_law_1169 (lv_at hl 4 rfl) ?_
        refine lv_iconst (v := (1 : Int32)) C.1 C.2.1 dL_law_1171 (by decide) ?_
        refine lv_iadd C.1 C.2.1 dL_law_1172 ?_
        obtain ⟨hi1173, hh⟩ := hh
        refine va_sld C.1 C.2.1 hX hbl hbA hw.2.2.2.1 hi1173 dL_law_1173 ?_
        refine lm_Vi C hw (ctX11_count l D o hm cI cZ f g (xs (ix (x4 + (1 : Int32)))) hh) (cwV 1 C.2.2.2.2 (gd_V w_2056 w_2057 w_2058 w_125 w_2059) rfl rfl rfl cdX11_count ⟨Nat.le_of_ble_eq_true rfl, Nat.le_of_ble_eq_true rfl⟩) rfl hl.1 (Nat.le_of_ble_eq_true rfl) dL_law_1174 ⟨rmc (by omega), rms (by omega)⟩ (fun r1174 u1174 H locs hh hw => ?_) rfl
        refine lv_icmp_eq (tgt := 1182) C.1 C.2.1 dL_law_1177 (by decide) (fun c1177 => ?_) (fun c1177 => ?_)
        · replace hh := hh.1 c1177
          first | exact tL_lawX_b1182 C hR hX hbl hbA hT hZ hl0 hcc hsc hB23 hh hw hl | exact W.widen (Nat.le_succ _) (Nat.le_add_right _ 6) (tL_lawX_b1182 C hR hX hbl hbA hT hZ hl0 hcc hsc hB23 hh hw hl)
        · replace hh := hh.2 c1177
          refine lv_iconst (v := (0 : Int32)) C.1 C.2.1 dL_law_1180 (by decide) ?_
          exact hR _ _ (by omega) (by omega) _ _ _ ((u1164.1, u1164.2.1, u1164.2.2), (u1174.1, u1174.2), ou) _ _ dL_law_1181 rfl hh hw
    · replace hh := hh.2.2.2.2.2.2.2.2.2.2.2.2.2.2.2.2.2.2.2.2.2.2.2.2.2.2.2.2.2.2.2 ho
      refine lv_tableOut (tgt := 1182) C.1 C.2.1 dL_law_40 ho (by decide) ?_
      first | exact tL_lawX_b1182 C hR hX hbl hbA hT hZ hl0 hcc hsc hB23 hh hw hl | exact W.widen (Nat.le_succ _) (Nat.le_add_right _ 6) (tL_lawX_b1182 C hR hX hbl hbA hT hZ hl0 hcc hsc hB23 hh hw hl)
def wpL_lawX_b23 (N : Nat) (xs : Nat → Int32) (n_ : Nat) (F : Nat → Nat → Int32) (L : Nat → Nat → Int64) (r : Nat → Nat → Nat) (f : Nat → Int32) (g : Nat → Nat → Int32) (ou : Nat → Int64) (x4 : Int32) (K : Int32 → lS → Prop) : Prop := match n_ with
  | 0 => False
  | n + 1 => wpL_lawX_b23_body (fun F L r f g ou x4 => wpL_lawX_b23 N xs n F L r f g ou x4 K) N xs F L r f g ou x4 K
theorem tL_lawX_b23 {N : Nat} {xs : Nat → Int32} {K : Int32 → lS → Prop} (C : CallFix p m c code 7 s args (Cond.initialized RX10 :: WL) RL) (hR : ∀ ca sa : Nat, ca ≤ 600002 → sa ≤ 7302232 → LRt ca sa p l e room_1 s m args below meth c code D A (T0 cI cZ cL cF cM) (lWu h o hm q cI cZ cL cF cM) K Q) (hX : va_X b N xs s s.heap) (hbl : b < s.heap.size) (hbA : ¬ A b) (hT : EXt s) (hZ : Zs A s s.heap) (hl0 : l.stackTraces = false) (n : Nat) : ∀ (cc sc : Nat), cc + n ≤ 600002 → sc + 6 * n ≤ 7302232 → ∀ (F : Nat → Nat → Int32) (L : Nat → Nat → Int64) (r : Nat → Nat → Nat) (f : Nat → Int32) (g : Nat → Nat → Int32) (ou : Nat → Int64) (x4 : Int32) (H : Heap) (locs : List Loc) (ls : Array Slot), wpL_lawX_b23 N xs n F L r f g ou x4 K → Wd D A s (T0 cI cZ cL cF cM) (lW h o hm q cI cZ cL cF cM F L r f g ou) H locs → lv_has ls 7 [(0, .ref b), (1, .ref (h 0)), (2, .ref o), (3, .ref q), (4, .int x4)] → W p l e room_1 s m args below meth c H locs cc sc Q (F0 m 23 ls []) := by
  induction n with
  | zero => intro cc sc _ _ F L r f g ou x4 H locs ls hh; exact hh.elim
  | succ n ih => intro cc sc hcc hsc F L r f g ou x4 H locs ls hh hw hl; exact tL_lawX_b23_body C hR hX hbl hbA hT hZ hl0 (by omega) (by omega) (fun F L r f g ou x4 H locs ls hh hw hl => ih (cc + 1) (sc + 6) (by omega) (by omega) F L r f g ou x4 H locs ls hh hw hl) hh hw hl
end
