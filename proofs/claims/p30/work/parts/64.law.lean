/-! The law's loop. -/
theorem w_1878 : (Cond.methodLink RL 80 yX11_look : Cond) ∈ WL := WL_in 1878 (by decide +kernel) (by decide +kernel)
theorem w_1879 : (Cond.instanceMethod yX11_look : Cond) ∈ WL := WL_in 1879 (by decide +kernel) (by decide +kernel)
theorem w_1880 : (Cond.selects RX11 yX11_look yX11_look : Cond) ∈ WL := WL_in 1880 (by decide +kernel) (by decide +kernel)
theorem w_1881 : (Cond.code yX11_look cX11_look 3 (some .int) : Cond) ∈ WL := WL_in 1881 (by decide +kernel) (by decide +kernel)
section
variable {p : Program} {l : Launch} {e : Env} {s : State} {m : MethodId} {args : Array Value} {below : List Frame} {meth : Method} {c : Code} {D : va_G} {A : Nat → Prop} {h : Nat → Nat} {o : Nat} {hm : Nat → Nat} {q b cc sc : Nat} {cI cZ cL cF cM : ClassId} {Q : State → Prop}
def wpL_lawX_b1154 (B23 : (Nat → Nat → Int32) → (Nat → Nat → Int64) → (Nat → Nat → Nat) → (Nat → Int32) → (Nat → Nat → Int32) → (Nat → Int64) → Int32 → Prop) (N : Nat) (xs : Nat → Int32) (F : Nat → Nat → Int32) (L : Nat → Nat → Int64) (r : Nat → Nat → Nat) (f : Nat → Int32) (g : Nat → Nat → Int32) (ou : Nat → Int64) (x4 : Int32) (K : Int32 → lS → Prop) : Prop :=
  B23 F L r f g ou (x4 + (6 : Int32))
set_option maxHeartbeats 4000000 in
set_option maxRecDepth 100000 in
theorem tL_lawX_b1154 {N : Nat} {xs : Nat → Int32} {B23 : (Nat → Nat → Int32) → (Nat → Nat → Int64) → (Nat → Nat → Nat) → (Nat → Int32) → (Nat → Nat → Int32) → (Nat → Int64) → Int32 → Prop} {K : Int32 → lS → Prop} (C : CallFix p m c code 7 s args (Cond.initialized RX10 :: WL) RL) (hR : ∀ ca sa : Nat, ca ≤ 601024 → sa ≤ 7293034 → LRt ca sa p l e room_1 s m args below meth c code D A (T0 cI cZ cL cF cM) (lWu h o hm q cI cZ cL cF cM) K Q) (hX : va_X b N xs s s.heap) (hbl : b < s.heap.size) (hbA : ¬ A b) (hT : EXt s) (hZ : Zs A s s.heap) (hl0 : l.stackTraces = false) (hcc : cc + 1 ≤ 601024) (hsc : sc + 6 ≤ 7293034) (hB23 : ∀ (F : Nat → Nat → Int32) (L : Nat → Nat → Int64) (r : Nat → Nat → Nat) (f : Nat → Int32) (g : Nat → Nat → Int32) (ou : Nat → Int64) (x4 : Int32) (H : Heap) (locs : List Loc) (ls : Array Slot), B23 F L r f g ou x4 → Wd D A s (T0 cI cZ cL cF cM) (lW h o hm q cI cZ cL cF cM F L r f g ou) H locs → lv_has ls 7 [(0, .ref b), (1, .ref (h 0)), (2, .ref o), (3, .ref q), (4, .int x4)] → W p l e room_1 s m args below meth c H locs (cc + 1) (sc + 6) Q (F0 m 23 ls [])) {F : Nat → Nat → Int32} {L : Nat → Nat → Int64} {r : Nat → Nat → Nat} {f : Nat → Int32} {g : Nat → Nat → Int32} {ou : Nat → Int64} {x4 : Int32} (hh : wpL_lawX_b1154 B23 N xs F L r f g ou x4 K) {H : Heap} {locs : List Loc} {ls : Array Slot} (hw : Wd D A s (T0 cI cZ cL cF cM) (lW h o hm q cI cZ cL cF cM F L r f g ou) H locs) (hl : lv_has ls 7 [(0, .ref b), (1, .ref (h 0)), (2, .ref o), (3, .ref q), (4, .int x4)]) : W p l e room_1 s m args below meth c H locs (cc + 1) (sc + 6) Q (F0 m 1154 ls []) := by
  unfold wpL_lawX_b1154 at hh
  refine lv_iinc (v := x4 + (6 : Int32)) (lv' := [(4, .int (x4 + (6 : Int32))), (0, .ref b), (1, .ref (h 0)), (2, .ref o), (3, .ref q)]) C.1 C.2.1 dL_law_1154 hl (k := 4) rfl rfl (by decide) rfl (fun ls hl => ?_)
  refine lv_goto (tgt := 23) C.1 C.2.1 dL_law_1157 (by decide) ?_
  exact hB23 _ _ _ _ _ _ _ _ _ _ hh hw (lv_sub hl [1, 2, 3, 4, 0] rfl)
def wpL_lawX_b423 (B23 : (Nat → Nat → Int32) → (Nat → Nat → Int64) → (Nat → Nat → Nat) → (Nat → Int32) → (Nat → Nat → Int32) → (Nat → Int64) → Int32 → Prop) (N : Nat) (xs : Nat → Int32) (F : Nat → Nat → Int32) (L : Nat → Nat → Int64) (r : Nat → Nat → Nat) (f : Nat → Int32) (g : Nat → Nat → Int32) (ou : Nat → Int64) (k1 : Int32) (k2 : Int32) (k3 : Int32) (x4 : Int32) (K : Int32 → lS → Prop) : Prop :=
  wpX11_wall f g k1 k2 k3 (fun r423 u423 =>
    wpL_lawX_b1154 B23 N xs F L r u423.1 u423.2 ou x4 K)
set_option maxHeartbeats 4000000 in
set_option maxRecDepth 100000 in
theorem tL_lawX_b423 {N : Nat} {xs : Nat → Int32} {B23 : (Nat → Nat → Int32) → (Nat → Nat → Int64) → (Nat → Nat → Nat) → (Nat → Int32) → (Nat → Nat → Int32) → (Nat → Int64) → Int32 → Prop} {K : Int32 → lS → Prop} (C : CallFix p m c code 7 s args (Cond.initialized RX10 :: WL) RL) (hR : ∀ ca sa : Nat, ca ≤ 601024 → sa ≤ 7293034 → LRt ca sa p l e room_1 s m args below meth c code D A (T0 cI cZ cL cF cM) (lWu h o hm q cI cZ cL cF cM) K Q) (hX : va_X b N xs s s.heap) (hbl : b < s.heap.size) (hbA : ¬ A b) (hT : EXt s) (hZ : Zs A s s.heap) (hl0 : l.stackTraces = false) (hcc : cc + 1 ≤ 601024) (hsc : sc + 6 ≤ 7293034) (hB23 : ∀ (F : Nat → Nat → Int32) (L : Nat → Nat → Int64) (r : Nat → Nat → Nat) (f : Nat → Int32) (g : Nat → Nat → Int32) (ou : Nat → Int64) (x4 : Int32) (H : Heap) (locs : List Loc) (ls : Array Slot), B23 F L r f g ou x4 → Wd D A s (T0 cI cZ cL cF cM) (lW h o hm q cI cZ cL cF cM F L r f g ou) H locs → lv_has ls 7 [(0, .ref b), (1, .ref (h 0)), (2, .ref o), (3, .ref q), (4, .int x4)] → W p l e room_1 s m args below meth c H locs (cc + 1) (sc + 6) Q (F0 m 23 ls [])) {F : Nat → Nat → Int32} {L : Nat → Nat → Int64} {r : Nat → Nat → Nat} {f : Nat → Int32} {g : Nat → Nat → Int32} {ou : Nat → Int64} {k1 : Int32} {k2 : Int32} {k3 : Int32} {x4 : Int32} (hh : wpL_lawX_b423 B23 N xs F L r f g ou k1 k2 k3 x4 K) {H : Heap} {locs : List Loc} {ls : Array Slot} (hw : Wd D A s (T0 cI cZ cL cF cM) (lW h o hm q cI cZ cL cF cM F L r f g ou) H locs) (hl : lv_has ls 7 [(0, .ref b), (1, .ref (h 0)), (2, .ref o), (3, .ref q), (4, .int x4)]) : W p l e room_1 s m args below meth c H locs cc sc Q (F0 m 423 ls [.int k3, .int k2, .int k1, .ref o]) := by
  unfold wpL_lawX_b423 at hh
  refine lm_Vi C hw (ctX11_wall l D o hm cI cZ f g k1 k2 k3 hh) (cwV 3 C.2.2.2.2 (gd_V w_1807 w_1808 w_1809 w_125 w_1810) rfl rfl rfl cdX11_wall ⟨Nat.le_of_ble_eq_true rfl, Nat.le_of_ble_eq_true rfl⟩) rfl hl.1 (Nat.le_of_ble_eq_true rfl) dL_law_423 ⟨rmc (by omega), rms (by omega)⟩ (fun r423 u423 H locs hh hw => ?_) rfl
  refine lv_pop C.1 C.2.1 dL_law_426 rfl ?_
  refine lv_goto (tgt := 1154) C.1 C.2.1 dL_law_427 (by decide) ?_
  first | exact tL_lawX_b1154 C hR hX hbl hbA hT hZ hl0 hcc hsc hB23 hh hw hl | exact W.widen (Nat.le_succ _) (Nat.le_add_right _ 6) (tL_lawX_b1154 C hR hX hbl hbA hT hZ hl0 hcc hsc hB23 hh hw hl)
def wpL_lawX_b392 (B23 : (Nat → Nat → Int32) → (Nat → Nat → Int64) → (Nat → Nat → Nat) → (Nat → Int32) → (Nat → Nat → Int32) → (Nat → Int64) → Int32 → Prop) (N : Nat) (xs : Nat → Int32) (F : Nat → Nat → Int32) (L : Nat → Nat → Int64) (r : Nat → Nat → Nat) (f : Nat → Int32) (g : Nat → Nat → Int32) (ou : Nat → Int64) (k1 : Int32) (k2 : Int32) (k3 : Int32) (x4 : Int32) (K : Int32 → lS → Prop) : Prop :=
  wpX10_wall F L r k1 k2 k3 (fun r392 u392 =>
    vp_in (x4 + (1 : Int32)) N ∧ vp_in (x4 + (2 : Int32)) N ∧ vp_in (x4 + (3 : Int32)) N ∧ (((xs (ix (x4 + (3 : Int32)))) = 0) →
    wpL_lawX_b423 B23 N xs u392.1 u392.2.1 u392.2.2 f g ou (xs (ix (x4 + (1 : Int32)))) (xs (ix (x4 + (2 : Int32)))) (0 : Int32) x4 K) ∧
  (¬ ((xs (ix (x4 + (3 : Int32)))) = 0) →
    wpL_lawX_b423 B23 N xs u392.1 u392.2.1 u392.2.2 f g ou (xs (ix (x4 + (1 : Int32)))) (xs (ix (x4 + (2 : Int32)))) (1 : Int32) x4 K))
set_option maxHeartbeats 4000000 in
set_option maxRecDepth 100000 in
theorem tL_lawX_b392 {N : Nat} {xs : Nat → Int32} {B23 : (Nat → Nat → Int32) → (Nat → Nat → Int64) → (Nat → Nat → Nat) → (Nat → Int32) → (Nat → Nat → Int32) → (Nat → Int64) → Int32 → Prop} {K : Int32 → lS → Prop} (C : CallFix p m c code 7 s args (Cond.initialized RX10 :: WL) RL) (hR : ∀ ca sa : Nat, ca ≤ 601024 → sa ≤ 7293034 → LRt ca sa p l e room_1 s m args below meth c code D A (T0 cI cZ cL cF cM) (lWu h o hm q cI cZ cL cF cM) K Q) (hX : va_X b N xs s s.heap) (hbl : b < s.heap.size) (hbA : ¬ A b) (hT : EXt s) (hZ : Zs A s s.heap) (hl0 : l.stackTraces = false) (hcc : cc + 1 ≤ 601024) (hsc : sc + 6 ≤ 7293034) (hB23 : ∀ (F : Nat → Nat → Int32) (L : Nat → Nat → Int64) (r : Nat → Nat → Nat) (f : Nat → Int32) (g : Nat → Nat → Int32) (ou : Nat → Int64) (x4 : Int32) (H : Heap) (locs : List Loc) (ls : Array Slot), B23 F L r f g ou x4 → Wd D A s (T0 cI cZ cL cF cM) (lW h o hm q cI cZ cL cF cM F L r f g ou) H locs → lv_has ls 7 [(0, .ref b), (1, .ref (h 0)), (2, .ref o), (3, .ref q), (4, .int x4)] → W p l e room_1 s m args below meth c H locs (cc + 1) (sc + 6) Q (F0 m 23 ls [])) {F : Nat → Nat → Int32} {L : Nat → Nat → Int64} {r : Nat → Nat → Nat} {f : Nat → Int32} {g : Nat → Nat → Int32} {ou : Nat → Int64} {k1 : Int32} {k2 : Int32} {k3 : Int32} {x4 : Int32} (hh : wpL_lawX_b392 B23 N xs F L r f g ou k1 k2 k3 x4 K) {H : Heap} {locs : List Loc} {ls : Array Slot} (hw : Wd D A s (T0 cI cZ cL cF cM) (lW h o hm q cI cZ cL cF cM F L r f g ou) H locs) (hl : lv_has ls 7 [(0, .ref b), (1, .ref (h 0)), (2, .ref o), (3, .ref q), (4, .int x4)]) : W p l e room_1 s m args below meth c H locs cc sc Q (F0 m 392 ls [.int k3, .int k2, .int k1, .ref (h 0)]) := by
  unfold wpL_lawX_b392 at hh
  refine lx_Vi C hw (ctX10_wall l D h cI cL cF cM F L r k1 k2 k3 hh) (cwV 3 C.2.2.2.2 (gd_V w_933 w_934 w_935 w_114 w_936) rfl rfl rfl cdX10_wall ⟨Nat.le_of_ble_eq_true rfl, Nat.le_of_ble_eq_true rfl⟩) rfl hl.1 (Nat.le_of_ble_eq_true rfl) dL_law_392 ⟨rmc (by omega), rms (by omega)⟩ (fun r392 u392 H locs hh hw => ?_) rfl
  refine lv_pop C.1 C.2.1 dL_law_395 rfl ?_
  refine lv_aload_n C.1 C.2.1 dL_law_396 rfl (lv_at hl 2 rfl) ?_
  refine lv_aload_n C.1 C.2.1 dL_law_397 rfl (lv_at hl 0 rfl) ?_
  refine lv_iload C.1 C.2.1 dL_law_398 (lv_at hl 4 rfl) ?_
  refine lv_iconst (v := (1 : Int32)) C.1 C.2.1 dL_law_400 (by decide) ?_
  refine lv_iadd C.1 C.2.1 dL_law_401 ?_
  obtain ⟨hi402, hh⟩ := hh
  refine va_sld C.1 C.2.1 hX hbl hbA hw.2.2.2.1 hi402 dL_law_402 ?_
  refine lv_aload_n C.1 C.2.1 dL_law_403 rfl (lv_at hl 0 rfl) ?_
  refine lv_iload C.1 C.2.1 dL_law_404 (lv_at hl 4 rfl) ?_
  refine lv_iconst (v := (2 : Int32)) C.1 C.2.1 dL_law_406 (by decide) ?_
  refine lv_iadd C.1 C.2.1 dL_law_407 ?_
  obtain ⟨hi408, hh⟩ := hh
  refine va_sld C.1 C.2.1 hX hbl hbA hw.2.2.2.1 hi408 dL_law_408 ?_
  refine lv_aload_n C.1 C.2.1 dL_law_409 rfl (lv_at hl 0 rfl) ?_
  refine lv_iload C.1 C.2.1 dL_law_410 (lv_at hl 4 rfl) ?_
  refine lv_iconst (v := (3 : Int32)) C.1 C.2.1 dL_law_412 (by decide) ?_
  refine lv_iadd C.1 C.2.1 dL_law_413 ?_
  obtain ⟨hi414, hh⟩ := hh
  refine va_sld C.1 C.2.1 hX hbl hbA hw.2.2.2.1 hi414 dL_law_414 ?_
  refine lv_if_eq (tgt := 422) C.1 C.2.1 dL_law_415 (by decide) (fun c415 => ?_) (fun c415 => ?_)
  · replace hh := hh.1 c415
    refine lv_iconst (v := (0 : Int32)) C.1 C.2.1 dL_law_422 (by decide) ?_
    exact tL_lawX_b423 C hR hX hbl hbA hT hZ hl0 hcc hsc hB23 hh hw hl
  · replace hh := hh.2 c415
    refine lv_iconst (v := (1 : Int32)) C.1 C.2.1 dL_law_418 (by decide) ?_
    refine lv_goto (tgt := 423) C.1 C.2.1 dL_law_419 (by decide) ?_
    exact tL_lawX_b423 C hR hX hbl hbA hT hZ hl0 hcc hsc hB23 hh hw hl
def wpL_lawX_b23_body (B23 : (Nat → Nat → Int32) → (Nat → Nat → Int64) → (Nat → Nat → Nat) → (Nat → Int32) → (Nat → Nat → Int32) → (Nat → Int64) → Int32 → Prop) (N : Nat) (xs : Nat → Int32) (F : Nat → Nat → Int32) (L : Nat → Nat → Int64) (r : Nat → Nat → Nat) (f : Nat → Int32) (g : Nat → Nat → Int32) (ou : Nat → Int64) (x4 : Int32) (K : Int32 → lS → Prop) : Prop :=
  ((((Int32.ofNat N) - (6 : Int32)) < x4) →
    K (1 : Int32) ((F, L, r), (f, g), ou)) ∧
  (¬ (((Int32.ofNat N) - (6 : Int32)) < x4) →
    vp_in x4 N ∧ (((xs (ix x4)) &&& (31 : Int32)) = (0 : Int32) →
      vp_in (x4 + (1 : Int32)) N ∧ vp_in (x4 + (2 : Int32)) N ∧ vp_in (x4 + (3 : Int32)) N ∧ vp_in (x4 + (4 : Int32)) N ∧ vp_in (x4 + (5 : Int32)) N ∧ wpX10_feed F L r (xs (ix (x4 + (1 : Int32)))) (xs (ix (x4 + (2 : Int32)))) (xs (ix (x4 + (3 : Int32)))) (xs (ix (x4 + (4 : Int32)))) (xs (ix (x4 + (5 : Int32)))) (fun r211 u211 =>
          vp_in (x4 + (1 : Int32)) N ∧ vp_in (x4 + (2 : Int32)) N ∧ vp_in (x4 + (3 : Int32)) N ∧ vp_in (x4 + (4 : Int32)) N ∧ vp_in (x4 + (5 : Int32)) N ∧ wpX11_feed f g (xs (ix (x4 + (1 : Int32)))) (xs (ix (x4 + (2 : Int32)))) (xs (ix (x4 + (3 : Int32)))) (xs (ix (x4 + (4 : Int32)))) (xs (ix (x4 + (5 : Int32)))) (fun r246 u246 =>
          wpL_lawX_b1154 B23 N xs u211.1 u211.2.1 u211.2.2 u246.1 u246.2 ou x4 K))) ∧
    (((xs (ix x4)) &&& (31 : Int32)) = (1 : Int32) →
      vp_in (x4 + (1 : Int32)) N ∧ wpX10_rules F L r (xs (ix (x4 + (1 : Int32)))) (fun r260 u260 =>
          vp_in (x4 + (1 : Int32)) N ∧ wpX11_rules f g (xs (ix (x4 + (1 : Int32)))) (fun r271 u271 =>
          wpL_lawX_b1154 B23 N xs u260.1 u260.2.1 u260.2.2 u271.1 u271.2 ou x4 K))) ∧
    (((xs (ix x4)) &&& (31 : Int32)) = (2 : Int32) →
      vp_in (x4 + (1 : Int32)) N ∧ wpX10_net F L r (xs (ix (x4 + (1 : Int32)))) (fun r285 u285 =>
          vp_in (x4 + (1 : Int32)) N ∧ wpX11_net f g (xs (ix (x4 + (1 : Int32)))) (fun r296 u296 =>
          wpL_lawX_b1154 B23 N xs u285.1 u285.2.1 u285.2.2 u296.1 u296.2 ou x4 K))) ∧
    (((xs (ix x4)) &&& (31 : Int32)) = (3 : Int32) →
      vp_in (x4 + (1 : Int32)) N ∧ wpX10_fault F L r (xs (ix (x4 + (1 : Int32)))) (fun r310 u310 =>
          vp_in (x4 + (1 : Int32)) N ∧ wpX11_fault f g (xs (ix (x4 + (1 : Int32)))) (fun r321 u321 =>
          wpL_lawX_b1154 B23 N xs u310.1 u310.2.1 u310.2.2 u321.1 u321.2 ou x4 K))) ∧
    (((xs (ix x4)) &&& (31 : Int32)) = (4 : Int32) →
      vp_in (x4 + (1 : Int32)) N ∧ vp_in (x4 + (2 : Int32)) N ∧ wpX10_floor F L r (xs (ix (x4 + (1 : Int32)))) (xs (ix (x4 + (2 : Int32)))) (fun r341 u341 =>
          vp_in (x4 + (1 : Int32)) N ∧ vp_in (x4 + (2 : Int32)) N ∧ wpX11_floor f g (xs (ix (x4 + (1 : Int32)))) (xs (ix (x4 + (2 : Int32)))) (fun r358 u358 =>
          wpL_lawX_b1154 B23 N xs u341.1 u341.2.1 u341.2.2 u358.1 u358.2 ou x4 K))) ∧
    (((xs (ix x4)) &&& (31 : Int32)) = (5 : Int32) →
      vp_in (x4 + (1 : Int32)) N ∧ vp_in (x4 + (2 : Int32)) N ∧ vp_in (x4 + (3 : Int32)) N ∧ (((xs (ix (x4 + (3 : Int32)))) = 0) →
          wpL_lawX_b392 B23 N xs F L r f g ou (xs (ix (x4 + (1 : Int32)))) (xs (ix (x4 + (2 : Int32)))) (0 : Int32) x4 K) ∧
        (¬ ((xs (ix (x4 + (3 : Int32)))) = 0) →
          wpL_lawX_b392 B23 N xs F L r f g ou (xs (ix (x4 + (1 : Int32)))) (xs (ix (x4 + (2 : Int32)))) (1 : Int32) x4 K)) ∧
    (((xs (ix x4)) &&& (31 : Int32)) = (6 : Int32) →
      vp_in (x4 + (1 : Int32)) N ∧ wpX10_bell F L r (xs (ix (x4 + (1 : Int32)))) (fun r437 u437 =>
          vp_in (x4 + (1 : Int32)) N ∧ wpX11_bell f g (xs (ix (x4 + (1 : Int32)))) (fun r448 u448 =>
          wpL_lawX_b1154 B23 N xs u437.1 u437.2.1 u437.2.2 u448.1 u448.2 ou x4 K))) ∧
    (((xs (ix x4)) &&& (31 : Int32)) = (7 : Int32) →
      vp_in (x4 + (1 : Int32)) N ∧ vp_in (x4 + (2 : Int32)) N ∧ wpX10_lift F L r (xs (ix (x4 + (1 : Int32)))) (xs (ix (x4 + (2 : Int32)))) (fun r468 u468 =>
          vp_in (x4 + (1 : Int32)) N ∧ vp_in (x4 + (2 : Int32)) N ∧ wpX11_lift f g (xs (ix (x4 + (1 : Int32)))) (xs (ix (x4 + (2 : Int32)))) (fun r485 u485 =>
          wpL_lawX_b1154 B23 N xs u468.1 u468.2.1 u468.2.2 u485.1 u485.2 ou x4 K))) ∧
    (((xs (ix x4)) &&& (31 : Int32)) = (8 : Int32) →
      wpX10_wipe F L r (fun r493 u493 =>
          wpX11_wipe f g (fun r498 u498 =>
          wpL_lawX_b1154 B23 N xs u493.1 u493.2.1 u493.2.2 u498.1 u498.2 ou x4 K))) ∧
    (((xs (ix x4)) &&& (31 : Int32)) = (9 : Int32) →
      vp_in (x4 + (1 : Int32)) N ∧ wpX10_tick F L r (xs (ix (x4 + (1 : Int32)))) (fun r512 u512 =>
          vp_in (x4 + (1 : Int32)) N ∧ wpX11_tick f g (xs (ix (x4 + (1 : Int32)))) (fun r523 u523 =>
          wpL_lawX_b1154 B23 N xs u512.1 u512.2.1 u512.2.2 u523.1 u523.2 ou x4 K))) ∧
    (((xs (ix x4)) &&& (31 : Int32)) = (10 : Int32) →
      vp_in (x4 + (1 : Int32)) N ∧ wpX10_run F L r (xs (ix (x4 + (1 : Int32)))) (fun r537 u537 =>
          vp_in (x4 + (1 : Int32)) N ∧ wpX11_run f g (xs (ix (x4 + (1 : Int32)))) (fun r548 u548 =>
          wpL_lawX_b1154 B23 N xs u537.1 u537.2.1 u537.2.2 u548.1 u548.2 ou x4 K))) ∧
    (((xs (ix x4)) &&& (31 : Int32)) = (11 : Int32) →
      vp_in (x4 + (1 : Int32)) N ∧ wpX10_mouse F L r (xs (ix (x4 + (1 : Int32)))) (fun r562 u562 =>
          vp_in (x4 + (1 : Int32)) N ∧ wpX11_mouse f g (xs (ix (x4 + (1 : Int32)))) (fun r573 u573 =>
          wpL_lawX_b1154 B23 N xs u562.1 u562.2.1 u562.2.2 u573.1 u573.2 ou x4 K))) ∧
    (((xs (ix x4)) &&& (31 : Int32)) = (12 : Int32) →
      vp_in (x4 + (1 : Int32)) N ∧ vp_in (x4 + (2 : Int32)) N ∧ wpL_look F L r ou (xs (ix (x4 + (1 : Int32)))) (xs (ix (x4 + (2 : Int32)))) (fun r594 u594 =>
          vp_in (x4 + (1 : Int32)) N ∧ vp_in (x4 + (2 : Int32)) N ∧ wpX11_look f g (xs (ix (x4 + (1 : Int32)))) (xs (ix (x4 + (2 : Int32)))) (fun r612 u612 =>
          wpL_lawX_b1154 B23 N xs u594.1.1 u594.1.2.1 u594.1.2.2 u612.1 u612.2 u594.2 x4 K))) ∧
    (((xs (ix x4)) &&& (31 : Int32)) = (13 : Int32) →
      vp_in (x4 + (1 : Int32)) N ∧ wpX10_comes F L r (xs (ix (x4 + (1 : Int32)))) (fun r627 u627 =>
          vp_in (x4 + (1 : Int32)) N ∧ wpX11_comes f g (xs (ix (x4 + (1 : Int32)))) (fun r638 u638 =>
          wpL_lawX_b1154 B23 N xs u627.1 u627.2.1 u627.2.2 u638.1 u638.2 ou x4 K))) ∧
    (((xs (ix x4)) &&& (31 : Int32)) = (14 : Int32) →
      vp_in (x4 + (1 : Int32)) N ∧ vp_in (x4 + (2 : Int32)) N ∧ wpX10_second F L r (xs (ix (x4 + (1 : Int32)))) (xs (ix (x4 + (2 : Int32)))) (fun r658 u658 =>
          vp_in (x4 + (1 : Int32)) N ∧ vp_in (x4 + (2 : Int32)) N ∧ wpX11_second f g (xs (ix (x4 + (1 : Int32)))) (xs (ix (x4 + (2 : Int32)))) (fun r675 u675 =>
          wpL_lawX_b1154 B23 N xs u658.1 u658.2.1 u658.2.2 u675.1 u675.2 ou x4 K))) ∧
    (((xs (ix x4)) &&& (31 : Int32)) = (15 : Int32) →
      vp_in (x4 + (1 : Int32)) N ∧ vp_in (x4 + (2 : Int32)) N ∧ vp_in (x4 + (3 : Int32)) N ∧ wpX10_held F L r (xs (ix (x4 + (1 : Int32)))) (xs (ix (x4 + (2 : Int32)))) (xs (ix (x4 + (3 : Int32)))) (fun r701 u701 =>
          vp_in (x4 + (1 : Int32)) N ∧ vp_in (x4 + (2 : Int32)) N ∧ vp_in (x4 + (3 : Int32)) N ∧ wpX11_held f g (xs (ix (x4 + (1 : Int32)))) (xs (ix (x4 + (2 : Int32)))) (xs (ix (x4 + (3 : Int32)))) (fun r724 u724 =>
          wpL_lawX_b1154 B23 N xs u701.1 u701.2.1 u701.2.2 u724.1 u724.2 ou x4 K))) ∧
    (((xs (ix x4)) &&& (31 : Int32)) = (16 : Int32) →
      vp_in (x4 + (1 : Int32)) N ∧ vp_in (x4 + (2 : Int32)) N ∧ vp_in (x4 + (3 : Int32)) N ∧ wpX10_longest F L r (xs (ix (x4 + (1 : Int32)))) (xs (ix (x4 + (2 : Int32)))) (xs (ix (x4 + (3 : Int32)))) (fun r750 u750 =>
          vp_in (x4 + (1 : Int32)) N ∧ vp_in (x4 + (2 : Int32)) N ∧ vp_in (x4 + (3 : Int32)) N ∧ wpX11_longest f g (xs (ix (x4 + (1 : Int32)))) (xs (ix (x4 + (2 : Int32)))) (xs (ix (x4 + (3 : Int32)))) (fun r773 u773 =>
          wpL_lawX_b1154 B23 N xs u750.1 u750.2.1 u750.2.2 u773.1 u773.2 ou x4 K))) ∧
    (((xs (ix x4)) &&& (31 : Int32)) = (17 : Int32) →
      vp_in (x4 + (1 : Int32)) N ∧ vp_in (x4 + (2 : Int32)) N ∧ vp_in (x4 + (3 : Int32)) N ∧ wpX10_needs F L r (xs (ix (x4 + (1 : Int32)))) (xs (ix (x4 + (2 : Int32)))) (xs (ix (x4 + (3 : Int32)))) (fun r799 u799 =>
          vp_in (x4 + (1 : Int32)) N ∧ vp_in (x4 + (2 : Int32)) N ∧ vp_in (x4 + (3 : Int32)) N ∧ wpX11_needs f g (xs (ix (x4 + (1 : Int32)))) (xs (ix (x4 + (2 : Int32)))) (xs (ix (x4 + (3 : Int32)))) (fun r822 u822 =>
          wpL_lawX_b1154 B23 N xs u799.1 u799.2.1 u799.2.2 u822.1 u822.2 ou x4 K))) ∧
    (((xs (ix x4)) &&& (31 : Int32)) = (18 : Int32) →
      vp_in (x4 + (1 : Int32)) N ∧ wpX10_knows F L r (xs (ix (x4 + (1 : Int32)))) (fun r836 u836 =>
          vp_in (x4 + (1 : Int32)) N ∧ wpX11_knows f g (xs (ix (x4 + (1 : Int32)))) (fun r847 u847 =>
          wpL_lawX_b1154 B23 N xs u836.1 u836.2.1 u836.2.2 u847.1 u847.2 ou x4 K))) ∧
    (((xs (ix x4)) &&& (31 : Int32)) = (19 : Int32) →
      vp_in (x4 + (1 : Int32)) N ∧ wpX10_pull F L r (xs (ix (x4 + (1 : Int32)))) (fun r861 u861 =>
          vp_in (x4 + (1 : Int32)) N ∧ wpX11_pull f g (xs (ix (x4 + (1 : Int32)))) (fun r872 u872 =>
          wpL_lawX_b1154 B23 N xs u861.1 u861.2.1 u861.2.2 u872.1 u872.2 ou x4 K))) ∧
    (((xs (ix x4)) &&& (31 : Int32)) = (20 : Int32) →
      vp_in (x4 + (1 : Int32)) N ∧ wpX10_pullRun F L r (xs (ix (x4 + (1 : Int32)))) (fun r886 u886 =>
          vp_in (x4 + (1 : Int32)) N ∧ wpX11_pullRun f g (xs (ix (x4 + (1 : Int32)))) (fun r897 u897 =>
          wpL_lawX_b1154 B23 N xs u886.1 u886.2.1 u886.2.2 u897.1 u897.2 ou x4 K))) ∧
    (((xs (ix x4)) &&& (31 : Int32)) = (21 : Int32) →
      wpX10_relays F L r (fun r905 u905 =>
          wpX11_relays f g (fun r910 u910 =>
          wpL_lawX_b1154 B23 N xs u905.1 u905.2.1 u905.2.2 u910.1 u910.2 ou x4 K))) ∧
    (((xs (ix x4)) &&& (31 : Int32)) = (22 : Int32) →
      wpX10_race F L r (fun r918 u918 =>
          wpX11_race f g (fun r923 u923 =>
          wpL_lawX_b1154 B23 N xs u918.1 u918.2.1 u918.2.2 u923.1 u923.2 ou x4 K))) ∧
    (((xs (ix x4)) &&& (31 : Int32)) = (23 : Int32) →
      vp_in (x4 + (1 : Int32)) N ∧ vp_in (x4 + (2 : Int32)) N ∧ wpX10_stick F L r (xs (ix (x4 + (1 : Int32)))) (xs (ix (x4 + (2 : Int32)))) (fun r943 u943 =>
          vp_in (x4 + (1 : Int32)) N ∧ vp_in (x4 + (2 : Int32)) N ∧ wpX11_stick f g (xs (ix (x4 + (1 : Int32)))) (xs (ix (x4 + (2 : Int32)))) (fun r960 u960 =>
          wpL_lawX_b1154 B23 N xs u943.1 u943.2.1 u943.2.2 u960.1 u960.2 ou x4 K))) ∧
    (((xs (ix x4)) &&& (31 : Int32)) = (24 : Int32) →
      wpX10_stuck F L r (fun r968 u968 =>
          wpX11_stuck f g (fun r973 u973 =>
          wpL_lawX_b1154 B23 N xs u968.1 u968.2.1 u968.2.2 u973.1 u973.2 ou x4 K))) ∧
    (((xs (ix x4)) &&& (31 : Int32)) = (25 : Int32) →
      vp_in (x4 + (1 : Int32)) N ∧ wpX10_same F L r (xs (ix (x4 + (1 : Int32)))) (fun r987 u987 =>
          vp_in (x4 + (1 : Int32)) N ∧ wpX11_same f g (xs (ix (x4 + (1 : Int32)))) (fun r998 u998 =>
          wpL_lawX_b1154 B23 N xs u987.1 u987.2.1 u987.2.2 u998.1 u998.2 ou x4 K))) ∧
    (((xs (ix x4)) &&& (31 : Int32)) = (26 : Int32) →
      vp_in (x4 + (1 : Int32)) N ∧ vp_in (x4 + (2 : Int32)) N ∧ wpX10_suspects F L r (xs (ix (x4 + (1 : Int32)))) (xs (ix (x4 + (2 : Int32)))) (fun r1018 u1018 =>
          vp_in (x4 + (1 : Int32)) N ∧ vp_in (x4 + (2 : Int32)) N ∧ wpX11_suspects f g (xs (ix (x4 + (1 : Int32)))) (xs (ix (x4 + (2 : Int32)))) (fun r1035 u1035 =>
          wpL_lawX_b1154 B23 N xs u1018.1 u1018.2.1 u1018.2.2 u1035.1 u1035.2 ou x4 K))) ∧
    (((xs (ix x4)) &&& (31 : Int32)) = (27 : Int32) →
      vp_in (x4 + (1 : Int32)) N ∧ vp_in (x4 + (2 : Int32)) N ∧ wpX10_trial F L r (xs (ix (x4 + (1 : Int32)))) (xs (ix (x4 + (2 : Int32)))) (fun r1055 u1055 =>
          vp_in (x4 + (1 : Int32)) N ∧ vp_in (x4 + (2 : Int32)) N ∧ wpX11_trial f g (xs (ix (x4 + (1 : Int32)))) (xs (ix (x4 + (2 : Int32)))) (fun r1072 u1072 =>
          wpL_lawX_b1154 B23 N xs u1055.1 u1055.2.1 u1055.2.2 u1072.1 u1072.2 ou x4 K))) ∧
    (((xs (ix x4)) &&& (31 : Int32)) = (28 : Int32) →
      vp_in (x4 + (1 : Int32)) N ∧ wpX10_keep F L r (xs (ix (x4 + (1 : Int32)))) (fun r1086 u1086 =>
          vp_in (x4 + (1 : Int32)) N ∧ wpX11_keep f g (xs (ix (x4 + (1 : Int32)))) (fun r1096 u1096 =>
          ((r1086 = r1096) →
          wpL_lawX_b1154 B23 N xs u1086.1 u1086.2.1 u1086.2.2 u1096.1 u1096.2 ou x4 K) ∧
        (¬ (r1086 = r1096) →
          K (0 : Int32) ((u1086.1, u1086.2.1, u1086.2.2), (u1096.1, u1096.2), ou))))) ∧
    (((xs (ix x4)) &&& (31 : Int32)) = (29 : Int32) →
      vp_in (x4 + (1 : Int32)) N ∧ wpX10_restore F L r (xs (ix (x4 + (1 : Int32)))) (fun r1111 u1111 =>
          vp_in (x4 + (1 : Int32)) N ∧ wpX11_restore f g (xs (ix (x4 + (1 : Int32)))) (fun r1122 u1122 =>
          wpL_lawX_b1154 B23 N xs u1111.1 u1111.2.1 u1111.2.2 u1122.1 u1122.2 ou x4 K))) ∧
    (((xs (ix x4)) &&& (31 : Int32)) = (30 : Int32) →
      vp_in (x4 + (1 : Int32)) N ∧ wpX10_count F L r (xs (ix (x4 + (1 : Int32)))) (fun r1136 u1136 =>
          vp_in (x4 + (1 : Int32)) N ∧ wpX11_count f g (xs (ix (x4 + (1 : Int32)))) (fun r1147 u1147 =>
          wpL_lawX_b1154 B23 N xs u1136.1 u1136.2.1 u1136.2.2 u1147.1 u1147.2 ou x4 K))) ∧
    (((xs (ix x4)) &&& (31 : Int32)).toInt < 0 ∨ 30 < ((xs (ix x4)) &&& (31 : Int32)).toInt →
      wpL_lawX_b1154 B23 N xs F L r f g ou x4 K))
set_option maxHeartbeats 4000000 in
set_option maxRecDepth 100000 in
theorem tL_lawX_b23_body {N : Nat} {xs : Nat → Int32} {B23 : (Nat → Nat → Int32) → (Nat → Nat → Int64) → (Nat → Nat → Nat) → (Nat → Int32) → (Nat → Nat → Int32) → (Nat → Int64) → Int32 → Prop} {K : Int32 → lS → Prop} (C : CallFix p m c code 7 s args (Cond.initialized RX10 :: WL) RL) (hR : ∀ ca sa : Nat, ca ≤ 601024 → sa ≤ 7293034 → LRt ca sa p l e room_1 s m args below meth c code D A (T0 cI cZ cL cF cM) (lWu h o hm q cI cZ cL cF cM) K Q) (hX : va_X b N xs s s.heap) (hbl : b < s.heap.size) (hbA : ¬ A b) (hT : EXt s) (hZ : Zs A s s.heap) (hl0 : l.stackTraces = false) (hcc : cc + 1 ≤ 601024) (hsc : sc + 6 ≤ 7293034) (hB23 : ∀ (F : Nat → Nat → Int32) (L : Nat → Nat → Int64) (r : Nat → Nat → Nat) (f : Nat → Int32) (g : Nat → Nat → Int32) (ou : Nat → Int64) (x4 : Int32) (H : Heap) (locs : List Loc) (ls : Array Slot), B23 F L r f g ou x4 → Wd D A s (T0 cI cZ cL cF cM) (lW h o hm q cI cZ cL cF cM F L r f g ou) H locs → lv_has ls 7 [(0, .ref b), (1, .ref (h 0)), (2, .ref o), (3, .ref q), (4, .int x4)] → W p l e room_1 s m args below meth c H locs (cc + 1) (sc + 6) Q (F0 m 23 ls [])) {F : Nat → Nat → Int32} {L : Nat → Nat → Int64} {r : Nat → Nat → Nat} {f : Nat → Int32} {g : Nat → Nat → Int32} {ou : Nat → Int64} {x4 : Int32} (hh : wpL_lawX_b23_body B23 N xs F L r f g ou x4 K) {H : Heap} {locs : List Loc} {ls : Array Slot} (hw : Wd D A s (T0 cI cZ cL cF cM) (lW h o hm q cI cZ cL cF cM F L r f g ou) H locs) (hl : lv_has ls 7 [(0, .ref b), (1, .ref (h 0)), (2, .ref o), (3, .ref q), (4, .int x4)]) : W p l e room_1 s m args below meth c H locs cc sc Q (F0 m 23 ls []) := by
  unfold wpL_lawX_b23_body at hh
  refine lv_iload C.1 C.2.1 dL_law_23 (lv_at hl 4 rfl) ?_
  refine lv_aload_n C.1 C.2.1 dL_law_25 rfl (lv_at hl 0 rfl) ?_
  refine va_slen C.1 C.2.1 hX hbl hbA hw.2.2.2.1 dL_law_26 ?_
  refine lv_bipush (v := (6 : Int32)) C.1 C.2.1 dL_law_27 (by decide) ?_
  refine lv_isub C.1 C.2.1 dL_law_29 ?_
  refine lv_icmp_gt (tgt := 1160) C.1 C.2.1 dL_law_30 (by decide) (fun c30 => ?_) (fun c30 => ?_)
  · replace hh := hh.1 c30
    refine lv_iconst (v := (1 : Int32)) C.1 C.2.1 dL_law_1160 (by decide) ?_
    exact hR _ _ (by omega) (by omega) _ _ _ ((F, L, r), (f, g), ou) _ _ dL_law_1161 rfl hh hw
  · replace hh := hh.2 c30
    refine lv_aload_n C.1 C.2.1 dL_law_33 rfl (lv_at hl 0 rfl) ?_
    refine lv_iload C.1 C.2.1 dL_law_34 (lv_at hl 4 rfl) ?_
    obtain ⟨hi36, hh⟩ := hh
    refine va_sld C.1 C.2.1 hX hbl hbA hw.2.2.2.1 hi36 dL_law_36 ?_
    refine lv_bipush (v := (31 : Int32)) C.1 C.2.1 dL_law_37 (by decide) ?_
    refine lv_iand C.1 C.2.1 dL_law_39 ?_
    refine sw_in (x := (xs (ix x4)) &&& (31 : Int32)) (lo := 0) (hi := 30) (fun hlo hhi => ?_) (fun ho => ?_)
    · have hv : ((xs (ix x4)) &&& (31 : Int32)).toInt = 0 ∨ ((xs (ix x4)) &&& (31 : Int32)).toInt = 1 ∨ ((xs (ix x4)) &&& (31 : Int32)).toInt = 2 ∨ ((xs (ix x4)) &&& (31 : Int32)).toInt = 3 ∨ ((xs (ix x4)) &&& (31 : Int32)).toInt = 4 ∨ ((xs (ix x4)) &&& (31 : Int32)).toInt = 5 ∨ ((xs (ix x4)) &&& (31 : Int32)).toInt = 6 ∨ ((xs (ix x4)) &&& (31 : Int32)).toInt = 7 ∨ ((xs (ix x4)) &&& (31 : Int32)).toInt = 8 ∨ ((xs (ix x4)) &&& (31 : Int32)).toInt = 9 ∨ ((xs (ix x4)) &&& (31 : Int32)).toInt = 10 ∨ ((xs (ix x4)) &&& (31 : Int32)).toInt = 11 ∨ ((xs (ix x4)) &&& (31 : Int32)).toInt = 12 ∨ ((xs (ix x4)) &&& (31 : Int32)).toInt = 13 ∨ ((xs (ix x4)) &&& (31 : Int32)).toInt = 14 ∨ ((xs (ix x4)) &&& (31 : Int32)).toInt = 15 ∨ ((xs (ix x4)) &&& (31 : Int32)).toInt = 16 ∨ ((xs (ix x4)) &&& (31 : Int32)).toInt = 17 ∨ ((xs (ix x4)) &&& (31 : Int32)).toInt = 18 ∨ ((xs (ix x4)) &&& (31 : Int32)).toInt = 19 ∨ ((xs (ix x4)) &&& (31 : Int32)).toInt = 20 ∨ ((xs (ix x4)) &&& (31 : Int32)).toInt = 21 ∨ ((xs (ix x4)) &&& (31 : Int32)).toInt = 22 ∨ ((xs (ix x4)) &&& (31 : Int32)).toInt = 23 ∨ ((xs (ix x4)) &&& (31 : Int32)).toInt = 24 ∨ ((xs (ix x4)) &&& (31 : Int32)).toInt = 25 ∨ ((xs (ix x4)) &&& (31 : Int32)).toInt = 26 ∨ ((xs (ix x4)) &&& (31 : Int32)).toInt = 27 ∨ ((xs (ix x4)) &&& (31 : Int32)).toInt = 28 ∨ ((xs (ix x4)) &&& (31 : Int32)).toInt = 29 ∨ ((xs (ix x4)) &&& (31 : Int32)).toInt = 30 := by omega
      rcases hv with hv | hv | hv | hv | hv | hv | hv | hv | hv | hv | hv | hv | hv | hv | hv | hv | hv | hv | hv | hv | hv | hv | hv | hv | hv | hv | hv | hv | hv | hv | hv
      · replace hh := hh.1 (sw_eq hv (by decide))
        refine lv_tableIn (off := 140) (tgt := 180) C.1 C.2.1 dL_law_40 hlo hhi (by rw [hv]; rfl) (by decide) ?_
        refine lv_aload_n C.1 C.2.1 dL_law_180 rfl (lv_at hl 1 rfl) ?_
        refine lv_aload_n C.1 C.2.1 dL_law_181 rfl (lv_at hl 0 rfl) ?_
        refine lv_iload C.1 C.2.1 dL_law_182 (lv_at hl 4 rfl) ?_
        refine lv_iconst (v := (1 : Int32)) C.1 C.2.1 dL_law_184 (by decide) ?_
        refine lv_iadd C.1 C.2.1 dL_law_185 ?_
        obtain ⟨hi186, hh⟩ := hh
        refine va_sld C.1 C.2.1 hX hbl hbA hw.2.2.2.1 hi186 dL_law_186 ?_
        refine lv_aload_n C.1 C.2.1 dL_law_187 rfl (lv_at hl 0 rfl) ?_
        refine lv_iload C.1 C.2.1 dL_law_188 (lv_at hl 4 rfl) ?_
        refine lv_iconst (v := (2 : Int32)) C.1 C.2.1 dL_law_190 (by decide) ?_
        refine lv_iadd C.1 C.2.1 dL_law_191 ?_
        obtain ⟨hi192, hh⟩ := hh
        refine va_sld C.1 C.2.1 hX hbl hbA hw.2.2.2.1 hi192 dL_law_192 ?_
        refine lv_aload_n C.1 C.2.1 dL_law_193 rfl (lv_at hl 0 rfl) ?_
        refine lv_iload C.1 C.2.1 dL_law_194 (lv_at hl 4 rfl) ?_
        refine lv_iconst (v := (3 : Int32)) C.1 C.2.1 dL_law_196 (by decide) ?_
        refine lv_iadd C.1 C.2.1 dL_law_197 ?_
        obtain ⟨hi198, hh⟩ := hh
        refine va_sld C.1 C.2.1 hX hbl hbA hw.2.2.2.1 hi198 dL_law_198 ?_
        refine lv_aload_n C.1 C.2.1 dL_law_199 rfl (lv_at hl 0 rfl) ?_
        refine lv_iload C.1 C.2.1 dL_law_200 (lv_at hl 4 rfl) ?_
        refine lv_iconst (v := (4 : Int32)) C.1 C.2.1 dL_law_202 (by decide) ?_
        refine lv_iadd C.1 C.2.1 dL_law_203 ?_
        obtain ⟨hi204, hh⟩ := hh
        refine va_sld C.1 C.2.1 hX hbl hbA hw.2.2.2.1 hi204 dL_law_204 ?_
        refine lv_aload_n C.1 C.2.1 dL_law_205 rfl (lv_at hl 0 rfl) ?_
        refine lv_iload C.1 C.2.1 dL_law_206 (lv_at hl 4 rfl) ?_
        refine lv_iconst (v := (5 : Int32)) C.1 C.2.1 dL_law_208 (by decide) ?_
        refine lv_iadd C.1 C.2.1 dL_law_209 ?_
        obtain ⟨hi210, hh⟩ := hh
        refine va_sld C.1 C.2.1 hX hbl hbA hw.2.2.2.1 hi210 dL_law_210 ?_
        refine lx_Vi C hw (ctX10_feed l D h cI cL cF cM F L r (xs (ix (x4 + (1 : Int32)))) (xs (ix (x4 + (2 : Int32)))) (xs (ix (x4 + (3 : Int32)))) (xs (ix (x4 + (4 : Int32)))) (xs (ix (x4 + (5 : Int32)))) hh) (cwV 5 C.2.2.2.2 (gd_V w_616 w_617 w_618 w_114 w_619) rfl rfl rfl cdX10_feed ⟨Nat.le_of_ble_eq_true rfl, Nat.le_of_ble_eq_true rfl⟩) rfl hl.1 (Nat.le_of_ble_eq_true rfl) dL_law_211 ⟨rmc (by omega), rms (by omega)⟩ (fun r211 u211 H locs hh hw => ?_) rfl
        refine lv_pop C.1 C.2.1 dL_law_214 rfl ?_
        refine lv_aload_n C.1 C.2.1 dL_law_215 rfl (lv_at hl 2 rfl) ?_
        refine lv_aload_n C.1 C.2.1 dL_law_216 rfl (lv_at hl 0 rfl) ?_
        refine lv_iload C.1 C.2.1 dL_law_217 (lv_at hl 4 rfl) ?_
        refine lv_iconst (v := (1 : Int32)) C.1 C.2.1 dL_law_219 (by decide) ?_
        refine lv_iadd C.1 C.2.1 dL_law_220 ?_
        obtain ⟨hi221, hh⟩ := hh
        refine va_sld C.1 C.2.1 hX hbl hbA hw.2.2.2.1 hi221 dL_law_221 ?_
        refine lv_aload_n C.1 C.2.1 dL_law_222 rfl (lv_at hl 0 rfl) ?_
        refine lv_iload C.1 C.2.1 dL_law_223 (lv_at hl 4 rfl) ?_
        refine lv_iconst (v := (2 : Int32)) C.1 C.2.1 dL_law_225 (by decide) ?_
        refine lv_iadd C.1 C.2.1 dL_law_226 ?_
        obtain ⟨hi227, hh⟩ := hh
        refine va_sld C.1 C.2.1 hX hbl hbA hw.2.2.2.1 hi227 dL_law_227 ?_
        refine lv_aload_n C.1 C.2.1 dL_law_228 rfl (lv_at hl 0 rfl) ?_
        refine lv_iload C.1 C.2.1 dL_law_229 (lv_at hl 4 rfl) ?_
        refine lv_iconst (v := (3 : Int32)) C.1 C.2.1 dL_law_231 (by decide) ?_
        refine lv_iadd C.1 C.2.1 dL_law_232 ?_
        obtain ⟨hi233, hh⟩ := hh
        refine va_sld C.1 C.2.1 hX hbl hbA hw.2.2.2.1 hi233 dL_law_233 ?_
        refine lv_aload_n C.1 C.2.1 dL_law_234 rfl (lv_at hl 0 rfl) ?_
        refine lv_iload C.1 C.2.1 dL_law_235 (lv_at hl 4 rfl) ?_
        refine lv_iconst (v := (4 : Int32)) C.1 C.2.1 dL_law_237 (by decide) ?_
        refine lv_iadd C.1 C.2.1 dL_law_238 ?_
        obtain ⟨hi239, hh⟩ := hh
        refine va_sld C.1 C.2.1 hX hbl hbA hw.2.2.2.1 hi239 dL_law_239 ?_
        refine lv_aload_n C.1 C.2.1 dL_law_240 rfl (lv_at hl 0 rfl) ?_
        refine lv_iload C.1 C.2.1 dL_law_241 (lv_at hl 4 rfl) ?_
        refine lv_iconst (v := (5 : Int32)) C.1 C.2.1 dL_law_243 (by decide) ?_
        refine lv_iadd C.1 C.2.1 dL_law_244 ?_
        obtain ⟨hi245, hh⟩ := hh
        refine va_sld C.1 C.2.1 hX hbl hbA hw.2.2.2.1 hi245 dL_law_245 ?_
        refine lm_Vi C hw (ctX11_feed l D o hm cI cZ f g (xs (ix (x4 + (1 : Int32)))) (xs (ix (x4 + (2 : Int32)))) (xs (ix (x4 + (3 : Int32)))) (xs (ix (x4 + (4 : Int32)))) (xs (ix (x4 + (5 : Int32)))) hh) (cwV 5 C.2.2.2.2 (gd_V w_1686 w_1687 w_1688 w_125 w_1689) rfl rfl rfl cdX11_feed ⟨Nat.le_of_ble_eq_true rfl, Nat.le_of_ble_eq_true rfl⟩) rfl hl.1 (Nat.le_of_ble_eq_true rfl) dL_law_246 ⟨rmc (by omega), rms (by omega)⟩ (fun r246 u246 H locs hh hw => ?_) rfl
        refine lv_pop C.1 C.2.1 dL_law_249 rfl ?_
        refine lv_goto (tgt := 1154) C.1 C.2.1 dL_law_250 (by decide) ?_
        first | exact tL_lawX_b1154 C hR hX hbl hbA hT hZ hl0 hcc hsc hB23 hh hw hl | exact W.widen (Nat.le_succ _) (Nat.le_add_right _ 6) (tL_lawX_b1154 C hR hX hbl hbA hT hZ hl0 hcc hsc hB23 hh hw hl)
      · replace hh := hh.2.1 (sw_eq hv (by decide))
        refine lv_tableIn (off := 213) (tgt := 253) C.1 C.2.1 dL_law_40 hlo hhi (by rw [hv]; rfl) (by decide) ?_
        refine lv_aload_n C.1 C.2.1 dL_law_253 rfl (lv_at hl 1 rfl) ?_
        refine lv_aload_n C.1 C.2.1 dL_law_254 rfl (lv_at hl 0 rfl) ?_
        refine lv_iload C.1 C.2.1 dL_law_255 (lv_at hl 4 rfl) ?_
        refine lv_iconst (v := (1 : Int32)) C.1 C.2.1 dL_law_257 (by decide) ?_
        refine lv_iadd C.1 C.2.1 dL_law_258 ?_
        obtain ⟨hi259, hh⟩ := hh
        refine va_sld C.1 C.2.1 hX hbl hbA hw.2.2.2.1 hi259 dL_law_259 ?_
        refine lx_Vi C hw (ctX10_rules l D h cI cL cF cM F L r (xs (ix (x4 + (1 : Int32)))) hh) (cwV 1 C.2.2.2.2 (gd_V w_628 w_629 w_630 w_114 w_631) rfl rfl rfl cdX10_rules ⟨Nat.le_of_ble_eq_true rfl, Nat.le_of_ble_eq_true rfl⟩) rfl hl.1 (Nat.le_of_ble_eq_true rfl) dL_law_260 ⟨rmc (by omega), rms (by omega)⟩ (fun r260 u260 H locs hh hw => ?_) rfl
        refine lv_pop C.1 C.2.1 dL_law_263 rfl ?_
        refine lv_aload_n C.1 C.2.1 dL_law_264 rfl (lv_at hl 2 rfl) ?_
        refine lv_aload_n C.1 C.2.1 dL_law_265 rfl (lv_at hl 0 rfl) ?_
        refine lv_iload C.1 C.2.1 dL_law_266 (lv_at hl 4 rfl) ?_
        refine lv_iconst (v := (1 : Int32)) C.1 C.2.1 dL_law_268 (by decide) ?_
        refine lv_iadd C.1 C.2.1 dL_law_269 ?_
        obtain ⟨hi270, hh⟩ := hh
        refine va_sld C.1 C.2.1 hX hbl hbA hw.2.2.2.1 hi270 dL_law_270 ?_
        refine lm_Vi C hw (ctX11_rules l D o hm cI cZ f g (xs (ix (x4 + (1 : Int32)))) hh) (cwV 1 C.2.2.2.2 (gd_V w_1690 w_1691 w_1692 w_125 w_1693) rfl rfl rfl cdX11_rules ⟨Nat.le_of_ble_eq_true rfl, Nat.le_of_ble_eq_true rfl⟩) rfl hl.1 (Nat.le_of_ble_eq_true rfl) dL_law_271 ⟨rmc (by omega), rms (by omega)⟩ (fun r271 u271 H locs hh hw => ?_) rfl
        refine lv_pop C.1 C.2.1 dL_law_274 rfl ?_
        refine lv_goto (tgt := 1154) C.1 C.2.1 dL_law_275 (by decide) ?_
        first | exact tL_lawX_b1154 C hR hX hbl hbA hT hZ hl0 hcc hsc hB23 hh hw hl | exact W.widen (Nat.le_succ _) (Nat.le_add_right _ 6) (tL_lawX_b1154 C hR hX hbl hbA hT hZ hl0 hcc hsc hB23 hh hw hl)
      · replace hh := hh.2.2.1 (sw_eq hv (by decide))
        refine lv_tableIn (off := 238) (tgt := 278) C.1 C.2.1 dL_law_40 hlo hhi (by rw [hv]; rfl) (by decide) ?_
        refine lv_aload_n C.1 C.2.1 dL_law_278 rfl (lv_at hl 1 rfl) ?_
        refine lv_aload_n C.1 C.2.1 dL_law_279 rfl (lv_at hl 0 rfl) ?_
        refine lv_iload C.1 C.2.1 dL_law_280 (lv_at hl 4 rfl) ?_
        refine lv_iconst (v := (1 : Int32)) C.1 C.2.1 dL_law_282 (by decide) ?_
        refine lv_iadd C.1 C.2.1 dL_law_283 ?_
        obtain ⟨hi284, hh⟩ := hh
        refine va_sld C.1 C.2.1 hX hbl hbA hw.2.2.2.1 hi284 dL_law_284 ?_
        refine lx_Vi C hw (ctX10_net l D h cI cL cF cM F L r (xs (ix (x4 + (1 : Int32)))) hh) (cwV 1 C.2.2.2.2 (gd_V w_812 w_813 w_814 w_114 w_815) rfl rfl rfl cdX10_net ⟨Nat.le_of_ble_eq_true rfl, Nat.le_of_ble_eq_true rfl⟩) rfl hl.1 (Nat.le_of_ble_eq_true rfl) dL_law_285 ⟨rmc (by omega), rms (by omega)⟩ (fun r285 u285 H locs hh hw => ?_) rfl
        refine lv_pop C.1 C.2.1 dL_law_288 rfl ?_
        refine lv_aload_n C.1 C.2.1 dL_law_289 rfl (lv_at hl 2 rfl) ?_
        refine lv_aload_n C.1 C.2.1 dL_law_290 rfl (lv_at hl 0 rfl) ?_
        refine lv_iload C.1 C.2.1 dL_law_291 (lv_at hl 4 rfl) ?_
        refine lv_iconst (v := (1 : Int32)) C.1 C.2.1 dL_law_293 (by decide) ?_
        refine lv_iadd C.1 C.2.1 dL_law_294 ?_
        obtain ⟨hi295, hh⟩ := hh
        refine va_sld C.1 C.2.1 hX hbl hbA hw.2.2.2.1 hi295 dL_law_295 ?_
        refine lm_Vi C hw (ctX11_net l D o hm cI cZ f g (xs (ix (x4 + (1 : Int32)))) hh) (cwV 1 C.2.2.2.2 (gd_V w_1753 w_1754 w_1755 w_125 w_1756) rfl rfl rfl cdX11_net ⟨Nat.le_of_ble_eq_true rfl, Nat.le_of_ble_eq_true rfl⟩) rfl hl.1 (Nat.le_of_ble_eq_true rfl) dL_law_296 ⟨rmc (by omega), rms (by omega)⟩ (fun r296 u296 H locs hh hw => ?_) rfl
        refine lv_pop C.1 C.2.1 dL_law_299 rfl ?_
        refine lv_goto (tgt := 1154) C.1 C.2.1 dL_law_300 (by decide) ?_
        first | exact tL_lawX_b1154 C hR hX hbl hbA hT hZ hl0 hcc hsc hB23 hh hw hl | exact W.widen (Nat.le_succ _) (Nat.le_add_right _ 6) (tL_lawX_b1154 C hR hX hbl hbA hT hZ hl0 hcc hsc hB23 hh hw hl)
      · replace hh := hh.2.2.2.1 (sw_eq hv (by decide))
        refine lv_tableIn (off := 263) (tgt := 303) C.1 C.2.1 dL_law_40 hlo hhi (by rw [hv]; rfl) (by decide) ?_
        refine lv_aload_n C.1 C.2.1 dL_law_303 rfl (lv_at hl 1 rfl) ?_
        refine lv_aload_n C.1 C.2.1 dL_law_304 rfl (lv_at hl 0 rfl) ?_
        refine lv_iload C.1 C.2.1 dL_law_305 (lv_at hl 4 rfl) ?_
        refine lv_iconst (v := (1 : Int32)) C.1 C.2.1 dL_law_307 (by decide) ?_
        refine lv_iadd C.1 C.2.1 dL_law_308 ?_
        obtain ⟨hi309, hh⟩ := hh
        refine va_sld C.1 C.2.1 hX hbl hbA hw.2.2.2.1 hi309 dL_law_309 ?_
        refine lx_Vi C hw (ctX10_fault l D h cI cL cF cM F L r (xs (ix (x4 + (1 : Int32)))) hh) (cwV 1 C.2.2.2.2 (gd_V w_904 w_905 w_906 w_114 w_907) rfl rfl rfl cdX10_fault ⟨Nat.le_of_ble_eq_true rfl, Nat.le_of_ble_eq_true rfl⟩) rfl hl.1 (Nat.le_of_ble_eq_true rfl) dL_law_310 ⟨rmc (by omega), rms (by omega)⟩ (fun r310 u310 H locs hh hw => ?_) rfl
        refine lv_pop C.1 C.2.1 dL_law_313 rfl ?_
        refine lv_aload_n C.1 C.2.1 dL_law_314 rfl (lv_at hl 2 rfl) ?_
        refine lv_aload_n C.1 C.2.1 dL_law_315 rfl (lv_at hl 0 rfl) ?_
        refine lv_iload C.1 C.2.1 dL_law_316 (lv_at hl 4 rfl) ?_
        refine lv_iconst (v := (1 : Int32)) C.1 C.2.1 dL_law_318 (by decide) ?_
        refine lv_iadd C.1 C.2.1 dL_law_319 ?_
        obtain ⟨hi320, hh⟩ := hh
        refine va_sld C.1 C.2.1 hX hbl hbA hw.2.2.2.1 hi320 dL_law_320 ?_
        refine lm_Vi C hw (ctX11_fault l D o hm cI cZ f g (xs (ix (x4 + (1 : Int32)))) hh) (cwV 1 C.2.2.2.2 (gd_V w_1749 w_1750 w_1751 w_125 w_1752) rfl rfl rfl cdX11_fault ⟨Nat.le_of_ble_eq_true rfl, Nat.le_of_ble_eq_true rfl⟩) rfl hl.1 (Nat.le_of_ble_eq_true rfl) dL_law_321 ⟨rmc (by omega), rms (by omega)⟩ (fun r321 u321 H locs hh hw => ?_) rfl
        refine lv_pop C.1 C.2.1 dL_law_324 rfl ?_
        refine lv_goto (tgt := 1154) C.1 C.2.1 dL_law_325 (by decide) ?_
        first | exact tL_lawX_b1154 C hR hX hbl hbA hT hZ hl0 hcc hsc hB23 hh hw hl | exact W.widen (Nat.le_succ _) (Nat.le_add_right _ 6) (tL_lawX_b1154 C hR hX hbl hbA hT hZ hl0 hcc hsc hB23 hh hw hl)
      · replace hh := hh.2.2.2.2.1 (sw_eq hv (by decide))
        refine lv_tableIn (off := 288) (tgt := 328) C.1 C.2.1 dL_law_40 hlo hhi (by rw [hv]; rfl) (by decide) ?_
        refine lv_aload_n C.1 C.2.1 dL_law_328 rfl (lv_at hl 1 rfl) ?_
        refine lv_aload_n C.1 C.2.1 dL_law_329 rfl (lv_at hl 0 rfl) ?_
        refine lv_iload C.1 C.2.1 dL_law_330 (lv_at hl 4 rfl) ?_
        refine lv_iconst (v := (1 : Int32)) C.1 C.2.1 dL_law_332 (by decide) ?_
        refine lv_iadd C.1 C.2.1 dL_law_333 ?_
        obtain ⟨hi334, hh⟩ := hh
        refine va_sld C.1 C.2.1 hX hbl hbA hw.2.2.2.1 hi334 dL_law_334 ?_
        refine lv_aload_n C.1 C.2.1 dL_law_335 rfl (lv_at hl 0 rfl) ?_
        refine lv_iload C.1 C.2.1 dL_law_336 (lv_at hl 4 rfl) ?_
        refine lv_iconst (v := (2 : Int32)) C.1 C.2.1 dL_law_338 (by decide) ?_
        refine lv_iadd C.1 C.2.1 dL_law_339 ?_
        obtain ⟨hi340, hh⟩ := hh
        refine va_sld C.1 C.2.1 hX hbl hbA hw.2.2.2.1 hi340 dL_law_340 ?_
        refine lx_Vi C hw (ctX10_floor l D h cI cL cF cM F L r (xs (ix (x4 + (1 : Int32)))) (xs (ix (x4 + (2 : Int32)))) hh) (cwV 2 C.2.2.2.2 (gd_V w_908 w_909 w_910 w_114 w_911) rfl rfl rfl cdX10_floor ⟨Nat.le_of_ble_eq_true rfl, Nat.le_of_ble_eq_true rfl⟩) rfl hl.1 (Nat.le_of_ble_eq_true rfl) dL_law_341 ⟨rmc (by omega), rms (by omega)⟩ (fun r341 u341 H locs hh hw => ?_) rfl
        refine lv_pop C.1 C.2.1 dL_law_344 rfl ?_
        refine lv_aload_n C.1 C.2.1 dL_law_345 rfl (lv_at hl 2 rfl) ?_
        refine lv_aload_n C.1 C.2.1 dL_law_346 rfl (lv_at hl 0 rfl) ?_
        refine lv_iload C.1 C.2.1 dL_law_347 (lv_at hl 4 rfl) ?_
        refine lv_iconst (v := (1 : Int32)) C.1 C.2.1 dL_law_349 (by decide) ?_
        refine lv_iadd C.1 C.2.1 dL_law_350 ?_
        obtain ⟨hi351, hh⟩ := hh
        refine va_sld C.1 C.2.1 hX hbl hbA hw.2.2.2.1 hi351 dL_law_351 ?_
        refine lv_aload_n C.1 C.2.1 dL_law_352 rfl (lv_at hl 0 rfl) ?_
        refine lv_iload C.1 C.2.1 dL_law_353 (lv_at hl 4 rfl) ?_
        refine lv_iconst (v := (2 : Int32)) C.1 C.2.1 dL_law_355 (by decide) ?_
        refine lv_iadd C.1 C.2.1 dL_law_356 ?_
        obtain ⟨hi357, hh⟩ := hh
        refine va_sld C.1 C.2.1 hX hbl hbA hw.2.2.2.1 hi357 dL_law_357 ?_
        refine lm_Vi C hw (ctX11_floor l D o hm cI cZ f g (xs (ix (x4 + (1 : Int32)))) (xs (ix (x4 + (2 : Int32)))) hh) (cwV 2 C.2.2.2.2 (gd_V w_1800 w_1801 w_1802 w_125 w_1803) rfl rfl rfl cdX11_floor ⟨Nat.le_of_ble_eq_true rfl, Nat.le_of_ble_eq_true rfl⟩) rfl hl.1 (Nat.le_of_ble_eq_true rfl) dL_law_358 ⟨rmc (by omega), rms (by omega)⟩ (fun r358 u358 H locs hh hw => ?_) rfl
        refine lv_pop C.1 C.2.1 dL_law_361 rfl ?_
        refine lv_goto (tgt := 1154) C.1 C.2.1 dL_law_362 (by decide) ?_
        first | exact tL_lawX_b1154 C hR hX hbl hbA hT hZ hl0 hcc hsc hB23 hh hw hl | exact W.widen (Nat.le_succ _) (Nat.le_add_right _ 6) (tL_lawX_b1154 C hR hX hbl hbA hT hZ hl0 hcc hsc hB23 hh hw hl)
      · replace hh := hh.2.2.2.2.2.1 (sw_eq hv (by decide))
        refine lv_tableIn (off := 325) (tgt := 365) C.1 C.2.1 dL_law_40 hlo hhi (by rw [hv]; rfl) (by decide) ?_
        refine lv_aload_n C.1 C.2.1 dL_law_365 rfl (lv_at hl 1 rfl) ?_
        refine lv_aload_n C.1 C.2.1 dL_law_366 rfl (lv_at hl 0 rfl) ?_
        refine lv_iload C.1 C.2.1 dL_law_367 (lv_at hl 4 rfl) ?_
        refine lv_iconst (v := (1 : Int32)) C.1 C.2.1 dL_law_369 (by decide) ?_
        refine lv_iadd C.1 C.2.1 dL_law_370 ?_
        obtain ⟨hi371, hh⟩ := hh
        refine va_sld C.1 C.2.1 hX hbl hbA hw.2.2.2.1 hi371 dL_law_371 ?_
        refine lv_aload_n C.1 C.2.1 dL_law_372 rfl (lv_at hl 0 rfl) ?_
        refine lv_iload C.1 C.2.1 dL_law_373 (lv_at hl 4 rfl) ?_
        refine lv_iconst (v := (2 : Int32)) C.1 C.2.1 dL_law_375 (by decide) ?_
        refine lv_iadd C.1 C.2.1 dL_law_376 ?_
        obtain ⟨hi377, hh⟩ := hh
        refine va_sld C.1 C.2.1 hX hbl hbA hw.2.2.2.1 hi377 dL_law_377 ?_
        refine lv_aload_n C.1 C.2.1 dL_law_378 rfl (lv_at hl 0 rfl) ?_
        refine lv_iload C.1 C.2.1 dL_law_379 (lv_at hl 4 rfl) ?_
        refine lv_iconst (v := (3 : Int32)) C.1 C.2.1 dL_law_381 (by decide) ?_
        refine lv_iadd C.1 C.2.1 dL_law_382 ?_
        obtain ⟨hi383, hh⟩ := hh
        refine va_sld C.1 C.2.1 hX hbl hbA hw.2.2.2.1 hi383 dL_law_383 ?_
        refine lv_if_eq (tgt := 391) C.1 C.2.1 dL_law_384 (by decide) (fun c384 => ?_) (fun c384 => ?_)
        · replace hh := hh.1 c384
          refine lv_iconst (v := (0 : Int32)) C.1 C.2.1 dL_law_391 (by decide) ?_
          exact tL_lawX_b392 C hR hX hbl hbA hT hZ hl0 hcc hsc hB23 hh hw hl
        · replace hh := hh.2 c384
          refine lv_iconst (v := (1 : Int32)) C.1 C.2.1 dL_law_387 (by decide) ?_
          refine lv_goto (tgt := 392) C.1 C.2.1 dL_law_388 (by decide) ?_
          exact tL_lawX_b392 C hR hX hbl hbA hT hZ hl0 hcc hsc hB23 hh hw hl
      · replace hh := hh.2.2.2.2.2.2.1 (sw_eq hv (by decide))
        refine lv_tableIn (off := 390) (tgt := 430) C.1 C.2.1 dL_law_40 hlo hhi (by rw [hv]; rfl) (by decide) ?_
        refine lv_aload_n C.1 C.2.1 dL_law_430 rfl (lv_at hl 1 rfl) ?_
        refine lv_aload_n C.1 C.2.1 dL_law_431 rfl (lv_at hl 0 rfl) ?_
        refine lv_iload C.1 C.2.1 dL_law_432 (lv_at hl 4 rfl) ?_
        refine lv_iconst (v := (1 : Int32)) C.1 C.2.1 dL_law_434 (by decide) ?_
        refine lv_iadd C.1 C.2.1 dL_law_435 ?_
        obtain ⟨hi436, hh⟩ := hh
        refine va_sld C.1 C.2.1 hX hbl hbA hw.2.2.2.1 hi436 dL_law_436 ?_
        refine lx_Vi C hw (ctX10_bell l D h cI cL cF cM F L r (xs (ix (x4 + (1 : Int32)))) hh) (cwV 1 C.2.2.2.2 (gd_V w_965 w_966 w_967 w_114 w_968) rfl rfl rfl cdX10_bell ⟨Nat.le_of_ble_eq_true rfl, Nat.le_of_ble_eq_true rfl⟩) rfl hl.1 (Nat.le_of_ble_eq_true rfl) dL_law_437 ⟨rmc (by omega), rms (by omega)⟩ (fun r437 u437 H locs hh hw => ?_) rfl
        refine lv_pop C.1 C.2.1 dL_law_440 rfl ?_
        refine lv_aload_n C.1 C.2.1 dL_law_441 rfl (lv_at hl 2 rfl) ?_
        refine lv_aload_n C.1 C.2.1 dL_law_442 rfl (lv_at hl 0 rfl) ?_
        refine lv_iload C.1 C.2.1 dL_law_443 (lv_at hl 4 rfl) ?_
        refine lv_iconst (v := (1 : Int32)) C.1 C.2.1 dL_law_445 (by decide) ?_
        refine lv_iadd C.1 C.2.1 dL_law_446 ?_
        obtain ⟨hi447, hh⟩ := hh
        refine va_sld C.1 C.2.1 hX hbl hbA hw.2.2.2.1 hi447 dL_law_447 ?_
        refine lm_Vi C hw (ctX11_bell l D o hm cI cZ f g (xs (ix (x4 + (1 : Int32)))) hh) (cwV 1 C.2.2.2.2 (gd_V w_1834 w_1835 w_1836 w_125 w_1837) rfl rfl rfl cdX11_bell ⟨Nat.le_of_ble_eq_true rfl, Nat.le_of_ble_eq_true rfl⟩) rfl hl.1 (Nat.le_of_ble_eq_true rfl) dL_law_448 ⟨rmc (by omega), rms (by omega)⟩ (fun r448 u448 H locs hh hw => ?_) rfl
        refine lv_pop C.1 C.2.1 dL_law_451 rfl ?_
        refine lv_goto (tgt := 1154) C.1 C.2.1 dL_law_452 (by decide) ?_
        first | exact tL_lawX_b1154 C hR hX hbl hbA hT hZ hl0 hcc hsc hB23 hh hw hl | exact W.widen (Nat.le_succ _) (Nat.le_add_right _ 6) (tL_lawX_b1154 C hR hX hbl hbA hT hZ hl0 hcc hsc hB23 hh hw hl)
      · replace hh := hh.2.2.2.2.2.2.2.1 (sw_eq hv (by decide))
        refine lv_tableIn (off := 415) (tgt := 455) C.1 C.2.1 dL_law_40 hlo hhi (by rw [hv]; rfl) (by decide) ?_
        refine lv_aload_n C.1 C.2.1 dL_law_455 rfl (lv_at hl 1 rfl) ?_
        refine lv_aload_n C.1 C.2.1 dL_law_456 rfl (lv_at hl 0 rfl) ?_
        refine lv_iload C.1 C.2.1 dL_law_457 (lv_at hl 4 rfl) ?_
        refine lv_iconst (v := (1 : Int32)) C.1 C.2.1 dL_law_459 (by decide) ?_
        refine lv_iadd C.1 C.2.1 dL_law_460 ?_
        obtain ⟨hi461, hh⟩ := hh
        refine va_sld C.1 C.2.1 hX hbl hbA hw.2.2.2.1 hi461 dL_law_461 ?_
        refine lv_aload_n C.1 C.2.1 dL_law_462 rfl (lv_at hl 0 rfl) ?_
        refine lv_iload C.1 C.2.1 dL_law_463 (lv_at hl 4 rfl) ?_
        refine lv_iconst (v := (2 : Int32)) C.1 C.2.1 dL_law_465 (by decide) ?_
        refine lv_iadd C.1 C.2.1 dL_law_466 ?_
        obtain ⟨hi467, hh⟩ := hh
        refine va_sld C.1 C.2.1 hX hbl hbA hw.2.2.2.1 hi467 dL_law_467 ?_
        refine lx_Vi C hw (ctX10_lift l D h cI cL cF cM F L r (xs (ix (x4 + (1 : Int32)))) (xs (ix (x4 + (2 : Int32)))) hh) (cwV 2 C.2.2.2.2 (gd_V w_969 w_970 w_971 w_114 w_972) rfl rfl rfl cdX10_lift ⟨Nat.le_of_ble_eq_true rfl, Nat.le_of_ble_eq_true rfl⟩) rfl hl.1 (Nat.le_of_ble_eq_true rfl) dL_law_468 ⟨rmc (by omega), rms (by omega)⟩ (fun r468 u468 H locs hh hw => ?_) rfl
        refine lv_pop C.1 C.2.1 dL_law_471 rfl ?_
        refine lv_aload_n C.1 C.2.1 dL_law_472 rfl (lv_at hl 2 rfl) ?_
        refine lv_aload_n C.1 C.2.1 dL_law_473 rfl (lv_at hl 0 rfl) ?_
        refine lv_iload C.1 C.2.1 dL_law_474 (lv_at hl 4 rfl) ?_
        refine lv_iconst (v := (1 : Int32)) C.1 C.2.1 dL_law_476 (by decide) ?_
        refine lv_iadd C.1 C.2.1 dL_law_477 ?_
        obtain ⟨hi478, hh⟩ := hh
        refine va_sld C.1 C.2.1 hX hbl hbA hw.2.2.2.1 hi478 dL_law_478 ?_
        refine lv_aload_n C.1 C.2.1 dL_law_479 rfl (lv_at hl 0 rfl) ?_
        refine lv_iload C.1 C.2.1 dL_law_480 (lv_at hl 4 rfl) ?_
        refine lv_iconst (v := (2 : Int32)) C.1 C.2.1 dL_law_482 (by decide) ?_
        refine lv_iadd C.1 C.2.1 dL_law_483 ?_
        obtain ⟨hi484, hh⟩ := hh
        refine va_sld C.1 C.2.1 hX hbl hbA hw.2.2.2.1 hi484 dL_law_484 ?_
        refine lm_Vi C hw (ctX11_lift l D o hm cI cZ f g (xs (ix (x4 + (1 : Int32)))) (xs (ix (x4 + (2 : Int32)))) hh) (cwV 2 C.2.2.2.2 (gd_V w_1838 w_1839 w_1840 w_125 w_1841) rfl rfl rfl cdX11_lift ⟨Nat.le_of_ble_eq_true rfl, Nat.le_of_ble_eq_true rfl⟩) rfl hl.1 (Nat.le_of_ble_eq_true rfl) dL_law_485 ⟨rmc (by omega), rms (by omega)⟩ (fun r485 u485 H locs hh hw => ?_) rfl
        refine lv_pop C.1 C.2.1 dL_law_488 rfl ?_
        refine lv_goto (tgt := 1154) C.1 C.2.1 dL_law_489 (by decide) ?_
        first | exact tL_lawX_b1154 C hR hX hbl hbA hT hZ hl0 hcc hsc hB23 hh hw hl | exact W.widen (Nat.le_succ _) (Nat.le_add_right _ 6) (tL_lawX_b1154 C hR hX hbl hbA hT hZ hl0 hcc hsc hB23 hh hw hl)
      · replace hh := hh.2.2.2.2.2.2.2.2.1 (sw_eq hv (by decide))
        refine lv_tableIn (off := 452) (tgt := 492) C.1 C.2.1 dL_law_40 hlo hhi (by rw [hv]; rfl) (by decide) ?_
        refine lv_aload_n C.1 C.2.1 dL_law_492 rfl (lv_at hl 1 rfl) ?_
        refine lx_Vi C hw (ctX10_wipe l D h cI cL cF cM F L r hh) (cwV 0 C.2.2.2.2 (gd_V w_973 w_974 w_975 w_114 w_976) rfl rfl rfl cdX10_wipe ⟨Nat.le_of_ble_eq_true rfl, Nat.le_of_ble_eq_true rfl⟩) rfl hl.1 (Nat.le_of_ble_eq_true rfl) dL_law_493 ⟨rmc (by omega), rms (by omega)⟩ (fun r493 u493 H locs hh hw => ?_) rfl
        refine lv_pop C.1 C.2.1 dL_law_496 rfl ?_
        refine lv_aload_n C.1 C.2.1 dL_law_497 rfl (lv_at hl 2 rfl) ?_
        refine lm_Vi C hw (ctX11_wipe l D o hm cI cZ f g hh) (cwV 0 C.2.2.2.2 (gd_V w_1842 w_1843 w_1844 w_125 w_1845) rfl rfl rfl cdX11_wipe ⟨Nat.le_of_ble_eq_true rfl, Nat.le_of_ble_eq_true rfl⟩) rfl hl.1 (Nat.le_of_ble_eq_true rfl) dL_law_498 ⟨rmc (by omega), rms (by omega)⟩ (fun r498 u498 H locs hh hw => ?_) rfl
        refine lv_pop C.1 C.2.1 dL_law_501 rfl ?_
        refine lv_goto (tgt := 1154) C.1 C.2.1 dL_law_502 (by decide) ?_
        first | exact tL_lawX_b1154 C hR hX hbl hbA hT hZ hl0 hcc hsc hB23 hh hw hl | exact W.widen (Nat.le_succ _) (Nat.le_add_right _ 6) (tL_lawX_b1154 C hR hX hbl hbA hT hZ hl0 hcc hsc hB23 hh hw hl)
      · replace hh := hh.2.2.2.2.2.2.2.2.2.1 (sw_eq hv (by decide))
        refine lv_tableIn (off := 465) (tgt := 505) C.1 C.2.1 dL_law_40 hlo hhi (by rw [hv]; rfl) (by decide) ?_
        refine lv_aload_n C.1 C.2.1 dL_law_505 rfl (lv_at hl 1 rfl) ?_
        refine lv_aload_n C.1 C.2.1 dL_law_506 rfl (lv_at hl 0 rfl) ?_
        refine lv_iload C.1 C.2.1 dL_law_507 (lv_at hl 4 rfl) ?_
        refine lv_iconst (v := (1 : Int32)) C.1 C.2.1 dL_law_509 (by decide) ?_
        refine lv_iadd C.1 C.2.1 dL_law_510 ?_
        obtain ⟨hi511, hh⟩ := hh
        refine va_sld C.1 C.2.1 hX hbl hbA hw.2.2.2.1 hi511 dL_law_511 ?_
        refine lx_Vi C hw (ctX10_tick l D h cI cL cF cM F L r (xs (ix (x4 + (1 : Int32)))) hh) (cwV 1 C.2.2.2.2 (gd_V w_988 w_989 w_990 w_114 w_991) rfl rfl rfl cdX10_tick ⟨Nat.le_of_ble_eq_true rfl, Nat.le_of_ble_eq_true rfl⟩) rfl hl.1 (Nat.le_of_ble_eq_true rfl) dL_law_512 ⟨rmc (by omega), rms (by omega)⟩ (fun r512 u512 H locs hh hw => ?_) rfl
        refine lv_pop C.1 C.2.1 dL_law_515 rfl ?_
        refine lv_aload_n C.1 C.2.1 dL_law_516 rfl (lv_at hl 2 rfl) ?_
        refine lv_aload_n C.1 C.2.1 dL_law_517 rfl (lv_at hl 0 rfl) ?_
        refine lv_iload C.1 C.2.1 dL_law_518 (lv_at hl 4 rfl) ?_
        refine lv_iconst (v := (1 : Int32)) C.1 C.2.1 dL_law_520 (by decide) ?_
        refine lv_iadd C.1 C.2.1 dL_law_521 ?_
        obtain ⟨hi522, hh⟩ := hh
        refine va_sld C.1 C.2.1 hX hbl hbA hw.2.2.2.1 hi522 dL_law_522 ?_
        refine lm_Vi C hw (ctX11_tick l D o hm cI cZ f g (xs (ix (x4 + (1 : Int32)))) hh) (cwV 1 C.2.2.2.2 (gd_V w_1850 w_1851 w_1852 w_125 w_1853) rfl rfl rfl cdX11_tick ⟨Nat.le_of_ble_eq_true rfl, Nat.le_of_ble_eq_true rfl⟩) rfl hl.1 (Nat.le_of_ble_eq_true rfl) dL_law_523 ⟨rmc (by omega), rms (by omega)⟩ (fun r523 u523 H locs hh hw => ?_) rfl
        refine lv_pop C.1 C.2.1 dL_law_526 rfl ?_
        refine lv_goto (tgt := 1154) C.1 C.2.1 dL_law_527 (by decide) ?_
        first | exact tL_lawX_b1154 C hR hX hbl hbA hT hZ hl0 hcc hsc hB23 hh hw hl | exact W.widen (Nat.le_succ _) (Nat.le_add_right _ 6) (tL_lawX_b1154 C hR hX hbl hbA hT hZ hl0 hcc hsc hB23 hh hw hl)
      · replace hh := hh.2.2.2.2.2.2.2.2.2.2.1 (sw_eq hv (by decide))
        refine lv_tableIn (off := 490) (tgt := 530) C.1 C.2.1 dL_law_40 hlo hhi (by rw [hv]; rfl) (by decide) ?_
        refine lv_aload_n C.1 C.2.1 dL_law_530 rfl (lv_at hl 1 rfl) ?_
        refine lv_aload_n C.1 C.2.1 dL_law_531 rfl (lv_at hl 0 rfl) ?_
        refine lv_iload C.1 C.2.1 dL_law_532 (lv_at hl 4 rfl) ?_
        refine lv_iconst (v := (1 : Int32)) C.1 C.2.1 dL_law_534 (by decide) ?_
        refine lv_iadd C.1 C.2.1 dL_law_535 ?_
        obtain ⟨hi536, hh⟩ := hh
        refine va_sld C.1 C.2.1 hX hbl hbA hw.2.2.2.1 hi536 dL_law_536 ?_
        refine lx_Vi C hw (ctX10_run l D h cI cL cF cM F L r (xs (ix (x4 + (1 : Int32)))) hh) (cwV 1 C.2.2.2.2 (gd_V w_1035 w_1036 w_1037 w_114 w_1038) rfl rfl rfl cdX10_run ⟨Nat.le_of_ble_eq_true rfl, Nat.le_of_ble_eq_true rfl⟩) rfl hl.1 (Nat.le_of_ble_eq_true rfl) dL_law_537 ⟨rmc (by omega), rms (by omega)⟩ (fun r537 u537 H locs hh hw => ?_) rfl
        refine lv_pop C.1 C.2.1 dL_law_540 rfl ?_
        refine lv_aload_n C.1 C.2.1 dL_law_541 rfl (lv_at hl 2 rfl) ?_
        refine lv_aload_n C.1 C.2.1 dL_law_542 rfl (lv_at hl 0 rfl) ?_
        refine lv_iload C.1 C.2.1 dL_law_543 (lv_at hl 4 rfl) ?_
        refine lv_iconst (v := (1 : Int32)) C.1 C.2.1 dL_law_545 (by decide) ?_
        refine lv_iadd C.1 C.2.1 dL_law_546 ?_
        obtain ⟨hi547, hh⟩ := hh
        refine va_sld C.1 C.2.1 hX hbl hbA hw.2.2.2.1 hi547 dL_law_547 ?_
        refine lm_Vi C hw (ctX11_run l D o hm cI cZ f g (xs (ix (x4 + (1 : Int32)))) hh) (cwV 1 C.2.2.2.2 (gd_V w_1870 w_1871 w_1872 w_125 w_1873) rfl rfl rfl cdX11_run ⟨Nat.le_of_ble_eq_true rfl, Nat.le_of_ble_eq_true rfl⟩) rfl hl.1 (Nat.le_of_ble_eq_true rfl) dL_law_548 ⟨rmc (by omega), rms (by omega)⟩ (fun r548 u548 H locs hh hw => ?_) rfl
        refine lv_pop C.1 C.2.1 dL_law_551 rfl ?_
        refine lv_goto (tgt := 1154) C.1 C.2.1 dL_law_552 (by decide) ?_
        first | exact tL_lawX_b1154 C hR hX hbl hbA hT hZ hl0 hcc hsc hB23 hh hw hl | exact W.widen (Nat.le_succ _) (Nat.le_add_right _ 6) (tL_lawX_b1154 C hR hX hbl hbA hT hZ hl0 hcc hsc hB23 hh hw hl)
      · replace hh := hh.2.2.2.2.2.2.2.2.2.2.2.1 (sw_eq hv (by decide))
        refine lv_tableIn (off := 515) (tgt := 555) C.1 C.2.1 dL_law_40 hlo hhi (by rw [hv]; rfl) (by decide) ?_
        refine lv_aload_n C.1 C.2.1 dL_law_555 rfl (lv_at hl 1 rfl) ?_
        refine lv_aload_n C.1 C.2.1 dL_law_556 rfl (lv_at hl 0 rfl) ?_
        refine lv_iload C.1 C.2.1 dL_law_557 (lv_at hl 4 rfl) ?_
        refine lv_iconst (v := (1 : Int32)) C.1 C.2.1 dL_law_559 (by decide) ?_
        refine lv_iadd C.1 C.2.1 dL_law_560 ?_
        obtain ⟨hi561, hh⟩ := hh
        refine va_sld C.1 C.2.1 hX hbl hbA hw.2.2.2.1 hi561 dL_law_561 ?_
        refine lx_Vi C hw (ctX10_mouse l D h cI cL cF cM F L r (xs (ix (x4 + (1 : Int32)))) hh) (cwV 1 C.2.2.2.2 (gd_V w_1044 w_1045 w_1046 w_114 w_1047) rfl rfl rfl cdX10_mouse ⟨Nat.le_of_ble_eq_true rfl, Nat.le_of_ble_eq_true rfl⟩) rfl hl.1 (Nat.le_of_ble_eq_true rfl) dL_law_562 ⟨rmc (by omega), rms (by omega)⟩ (fun r562 u562 H locs hh hw => ?_) rfl
        refine lv_pop C.1 C.2.1 dL_law_565 rfl ?_
        refine lv_aload_n C.1 C.2.1 dL_law_566 rfl (lv_at hl 2 rfl) ?_
        refine lv_aload_n C.1 C.2.1 dL_law_567 rfl (lv_at hl 0 rfl) ?_
        refine lv_iload C.1 C.2.1 dL_law_568 (lv_at hl 4 rfl) ?_
        refine lv_iconst (v := (1 : Int32)) C.1 C.2.1 dL_law_570 (by decide) ?_
        refine lv_iadd C.1 C.2.1 dL_law_571 ?_
        obtain ⟨hi572, hh⟩ := hh
        refine va_sld C.1 C.2.1 hX hbl hbA hw.2.2.2.1 hi572 dL_law_572 ?_
        refine lm_Vi C hw (ctX11_mouse l D o hm cI cZ f g (xs (ix (x4 + (1 : Int32)))) hh) (cwV 1 C.2.2.2.2 (gd_V w_1874 w_1875 w_1876 w_125 w_1877) rfl rfl rfl cdX11_mouse ⟨Nat.le_of_ble_eq_true rfl, Nat.le_of_ble_eq_true rfl⟩) rfl hl.1 (Nat.le_of_ble_eq_true rfl) dL_law_573 ⟨rmc (by omega), rms (by omega)⟩ (fun r573 u573 H locs hh hw => ?_) rfl
        refine lv_pop C.1 C.2.1 dL_law_576 rfl ?_
        refine lv_goto (tgt := 1154) C.1 C.2.1 dL_law_577 (by decide) ?_
        first | exact tL_lawX_b1154 C hR hX hbl hbA hT hZ hl0 hcc hsc hB23 hh hw hl | exact W.widen (Nat.le_succ _) (Nat.le_add_right _ 6) (tL_lawX_b1154 C hR hX hbl hbA hT hZ hl0 hcc hsc hB23 hh hw hl)
      · replace hh := hh.2.2.2.2.2.2.2.2.2.2.2.2.1 (sw_eq hv (by decide))
        refine lv_tableIn (off := 540) (tgt := 580) C.1 C.2.1 dL_law_40 hlo hhi (by rw [hv]; rfl) (by decide) ?_
        refine lv_aload_n C.1 C.2.1 dL_law_580 rfl (lv_at hl 1 rfl) ?_
        refine lv_aload_n C.1 C.2.1 dL_law_581 rfl (lv_at hl 0 rfl) ?_
        refine lv_iload C.1 C.2.1 dL_law_582 (lv_at hl 4 rfl) ?_
        refine lv_iconst (v := (1 : Int32)) C.1 C.2.1 dL_law_584 (by decide) ?_
        refine lv_iadd C.1 C.2.1 dL_law_585 ?_
        obtain ⟨hi586, hh⟩ := hh
        refine va_sld C.1 C.2.1 hX hbl hbA hw.2.2.2.1 hi586 dL_law_586 ?_
        refine lv_aload_n C.1 C.2.1 dL_law_587 rfl (lv_at hl 0 rfl) ?_
        refine lv_iload C.1 C.2.1 dL_law_588 (lv_at hl 4 rfl) ?_
        refine lv_iconst (v := (2 : Int32)) C.1 C.2.1 dL_law_590 (by decide) ?_
        refine lv_iadd C.1 C.2.1 dL_law_591 ?_
        obtain ⟨hi592, hh⟩ := hh
        refine va_sld C.1 C.2.1 hX hbl hbA hw.2.2.2.1 hi592 dL_law_592 ?_
        refine lv_aload_n C.1 C.2.1 dL_law_593 rfl (lv_at hl 3 rfl) ?_
        refine lk_Si C hT hZ hw (ctL_look l hl0 D h q cI cL cF cM F L r ou (xs (ix (x4 + (1 : Int32)))) (xs (ix (x4 + (2 : Int32)))) hh) (vx_cwSW 4 C.2.2.2.2 (gd_S wl_h wl_i wl_k wl_j) rfl rfl rfl cdL_look ⟨Nat.le_of_ble_eq_true rfl, Nat.le_of_ble_eq_true rfl⟩) hl.1 (Nat.le_of_ble_eq_true rfl) dL_law_594 ⟨rmc (by omega), rms (by omega)⟩ (fun r594 u594 H locs hh hw => ?_)
        refine lv_istore (lv' := [(5, .int r594), (0, .ref b), (1, .ref (h 0)), (2, .ref o), (3, .ref q), (4, .int x4)]) C.1 C.2.1 dL_law_597 hl (by decide) rfl (fun ls hl => ?_)
        refine lv_aload_n C.1 C.2.1 dL_law_599 rfl (lv_at hl 3 rfl) ?_
        refine lv_aload_n C.1 C.2.1 dL_law_600 rfl (lv_at hl 1 rfl) ?_
        refine lv_iload C.1 C.2.1 dL_law_601 (lv_at hl 5 rfl) ?_
        refine lv_iconst (v := (1 : Int32)) C.1 C.2.1 dL_law_603 (by decide) ?_
        refine lv_iadd C.1 C.2.1 dL_law_604 ?_
        obtain ⟨hi605, hh⟩ := hh
        refine va_sld C.1 C.2.1 hX hbl hbA hw.2.2.2.1 hi605 dL_law_605 ?_
        refine lv_aload_n C.1 C.2.1 dL_law_606 rfl (lv_at hl 1 rfl) ?_
        refine lv_iload C.1 C.2.1 dL_law_607 (lv_at hl 5 rfl) ?_
        refine lv_iconst (v := (2 : Int32)) C.1 C.2.1 dL_law_609 (by decide) ?_
        refine lv_iadd C.1 C.2.1 dL_law_610 ?_
        obtain ⟨hi611, hh⟩ := hh
        refine va_sld C.1 C.2.1 hX hbl hbA hw.2.2.2.1 hi611 dL_law_611 ?_
        refine lm_Vi C hw (ctX11_look l D o hm cI cZ f g (xs (ix (x4 + (1 : Int32)))) (xs (ix (x4 + (2 : Int32)))) hh) (cwV 2 C.2.2.2.2 (gd_V w_1878 w_1879 w_1880 w_125 w_1881) rfl rfl rfl cdX11_look ⟨Nat.le_of_ble_eq_true rfl, Nat.le_of_ble_eq_true rfl⟩) rfl hl.1 (Nat.le_of_ble_eq_true rfl) dL_law_612 ⟨rmc (by omega), rms (by omega)⟩ (fun r612 u612 H locs hh hw => ?_) rfl
        refine lv_istore (lv' := [(6, .int r612), (5, .int r594), (0, .ref b), (1, .ref (h 0)), (2, .ref o), (3, .ref q), (4, .int x4)]) C.1 C.2.1 dL_law_615 hl (by decide) rfl (fun ls hl => ?_)
        refine lv_goto (tgt := 1154) C.1 C.2.1 dL_law_617 (by decide) ?_
        first | exact tL_lawX_b1154 C hR hX hbl hbA hT hZ hl0 hcc hsc hB23 hh hw (lv_sub hl [2, 3, 4, 5, 6] rfl) | exact W.widen (Nat.le_succ _) (Nat.le_add_right _ 6) (tL_lawX_b1154 C hR hX hbl hbA hT hZ hl0 hcc hsc hB23 hh hw (lv_sub hl [2, 3, 4, 5, 6] rfl))
      · replace hh := hh.2.2.2.2.2.2.2.2.2.2.2.2.2.1 (sw_eq hv (by decide))
        refine lv_tableIn (off := 580) (tgt := 620) C.1 C.2.1 dL_law_40 hlo hhi (by rw [hv]; rfl) (by decide) ?_
        refine lv_aload_n C.1 C.2.1 dL_law_620 rfl (lv_at hl 1 rfl) ?_
        refine lv_aload_n C.1 C.2.1 dL_law_621 rfl (lv_at hl 0 rfl) ?_
        refine lv_iload C.1 C.2.1 dL_law_622 (lv_at hl 4 rfl) ?_
        refine lv_iconst (v := (1 : Int32)) C.1 C.2.1 dL_law_624 (by decide) ?_
        refine lv_iadd C.1 C.2.1 dL_law_625 ?_
        obtain ⟨hi626, hh⟩ := hh
        refine va_sld C.1 C.2.1 hX hbl hbA hw.2.2.2.1 hi626 dL_law_626 ?_
        refine lx_Vi C hw (ctX10_comes l D h cI cL cF cM F L r (xs (ix (x4 + (1 : Int32)))) hh) (cwV 1 C.2.2.2.2 (gd_V w_1048 w_1049 w_1050 w_114 w_1051) rfl rfl rfl cdX10_comes ⟨Nat.le_of_ble_eq_true rfl, Nat.le_of_ble_eq_true rfl⟩) rfl hl.1 (Nat.le_of_ble_eq_true rfl) dL_law_627 ⟨rmc (by omega), rms (by omega)⟩ (fun r627 u627 H locs hh hw => ?_) rfl
        refine lv_pop C.1 C.2.1 dL_law_630 rfl ?_
        refine lv_aload_n C.1 C.2.1 dL_law_631 rfl (lv_at hl 2 rfl) ?_
        refine lv_aload_n C.1 C.2.1 dL_law_632 rfl (lv_at hl 0 rfl) ?_
        refine lv_iload C.1 C.2.1 dL_law_633 (lv_at hl 4 rfl) ?_
        refine lv_iconst (v := (1 : Int32)) C.1 C.2.1 dL_law_635 (by decide) ?_
        refine lv_iadd C.1 C.2.1 dL_law_636 ?_
        obtain ⟨hi637, hh⟩ := hh
        refine va_sld C.1 C.2.1 hX hbl hbA hw.2.2.2.1 hi637 dL_law_637 ?_
        refine lm_Vi C hw (ctX11_comes l D o hm cI cZ f g (xs (ix (x4 + (1 : Int32)))) hh) (cwV 1 C.2.2.2.2 (gd_V w_1906 w_1907 w_1908 w_125 w_1909) rfl rfl rfl cdX11_comes ⟨Nat.le_of_ble_eq_true rfl, Nat.le_of_ble_eq_true rfl⟩) rfl hl.1 (Nat.le_of_ble_eq_true rfl) dL_law_638 ⟨rmc (by omega), rms (by omega)⟩ (fun r638 u638 H locs hh hw => ?_) rfl
        refine lv_pop C.1 C.2.1 dL_law_641 rfl ?_
        refine lv_goto (tgt := 1154) C.1 C.2.1 dL_law_642 (by decide) ?_
        first | exact tL_lawX_b1154 C hR hX hbl hbA hT hZ hl0 hcc hsc hB23 hh hw hl | exact W.widen (Nat.le_succ _) (Nat.le_add_right _ 6) (tL_lawX_b1154 C hR hX hbl hbA hT hZ hl0 hcc hsc hB23 hh hw hl)
      · replace hh := hh.2.2.2.2.2.2.2.2.2.2.2.2.2.2.1 (sw_eq hv (by decide))
        refine lv_tableIn (off := 605) (tgt := 645) C.1 C.2.1 dL_law_40 hlo hhi (by rw [hv]; rfl) (by decide) ?_
        refine lv_aload_n C.1 C.2.1 dL_law_645 rfl (lv_at hl 1 rfl) ?_
        refine lv_aload_n C.1 C.2.1 dL_law_646 rfl (lv_at hl 0 rfl) ?_
        refine lv_iload C.1 C.2.1 dL_law_647 (lv_at hl 4 rfl) ?_
        refine lv_iconst (v := (1 : Int32)) C.1 C.2.1 dL_law_649 (by decide) ?_
        refine lv_iadd C.1 C.2.1 dL_law_650 ?_
        obtain ⟨hi651, hh⟩ := hh
        refine va_sld C.1 C.2.1 hX hbl hbA hw.2.2.2.1 hi651 dL_law_651 ?_
        refine lv_aload_n C.1 C.2.1 dL_law_652 rfl (lv_at hl 0 rfl) ?_
        refine lv_iload C.1 C.2.1 dL_law_653 (lv_at hl 4 rfl) ?_
        refine lv_iconst (v := (2 : Int32)) C.1 C.2.1 dL_law_655 (by decide) ?_
        refine lv_iadd C.1 C.2.1 dL_law_656 ?_
        obtain ⟨hi657, hh⟩ := hh
        refine va_sld C.1 C.2.1 hX hbl hbA hw.2.2.2.1 hi657 dL_law_657 ?_
        refine lx_Vi C hw (ctX10_second l D h cI cL cF cM F L r (xs (ix (x4 + (1 : Int32)))) (xs (ix (x4 + (2 : Int32)))) hh) (cwV 2 C.2.2.2.2 (gd_V w_1065 w_1066 w_1067 w_114 w_1068) rfl rfl rfl cdX10_second ⟨Nat.le_of_ble_eq_true rfl, Nat.le_of_ble_eq_true rfl⟩) rfl hl.1 (Nat.le_of_ble_eq_true rfl) dL_law_658 ⟨rmc (by omega), rms (by omega)⟩ (fun r658 u658 H locs hh hw => ?_) rfl
        refine lv_pop C.1 C.2.1 dL_law_661 rfl ?_
        refine lv_aload_n C.1 C.2.1 dL_law_662 rfl (lv_at hl 2 rfl) ?_
        refine lv_aload_n C.1 C.2.1 dL_law_663 rfl (lv_at hl 0 rfl) ?_
        refine lv_iload C.1 C.2.1 dL_law_664 (lv_at hl 4 rfl) ?_
        refine lv_iconst (v := (1 : Int32)) C.1 C.2.1 dL_law_666 (by decide) ?_
        refine lv_iadd C.1 C.2.1 dL_law_667 ?_
        obtain ⟨hi668, hh⟩ := hh
        refine va_sld C.1 C.2.1 hX hbl hbA hw.2.2.2.1 hi668 dL_law_668 ?_
        refine lv_aload_n C.1 C.2.1 dL_law_669 rfl (lv_at hl 0 rfl) ?_
        refine lv_iload C.1 C.2.1 dL_law_670 (lv_at hl 4 rfl) ?_
        refine lv_iconst (v := (2 : Int32)) C.1 C.2.1 dL_law_672 (by decide) ?_
        refine lv_iadd C.1 C.2.1 dL_law_673 ?_
        obtain ⟨hi674, hh⟩ := hh
        refine va_sld C.1 C.2.1 hX hbl hbA hw.2.2.2.1 hi674 dL_law_674 ?_
        refine lm_Vi C hw (ctX11_second l D o hm cI cZ f g (xs (ix (x4 + (1 : Int32)))) (xs (ix (x4 + (2 : Int32)))) hh) (cwV 2 C.2.2.2.2 (gd_V w_1918 w_1919 w_1920 w_125 w_1921) rfl rfl rfl cdX11_second ⟨Nat.le_of_ble_eq_true rfl, Nat.le_of_ble_eq_true rfl⟩) rfl hl.1 (Nat.le_of_ble_eq_true rfl) dL_law_675 ⟨rmc (by omega), rms (by omega)⟩ (fun r675 u675 H locs hh hw => ?_) rfl
        refine lv_pop C.1 C.2.1 dL_law_678 rfl ?_
        refine lv_goto (tgt := 1154) C.1 C.2.1 dL_law_679 (by decide) ?_
        first | exact tL_lawX_b1154 C hR hX hbl hbA hT hZ hl0 hcc hsc hB23 hh hw hl | exact W.widen (Nat.le_succ _) (Nat.le_add_right _ 6) (tL_lawX_b1154 C hR hX hbl hbA hT hZ hl0 hcc hsc hB23 hh hw hl)
      · replace hh := hh.2.2.2.2.2.2.2.2.2.2.2.2.2.2.2.1 (sw_eq hv (by decide))
        refine lv_tableIn (off := 642) (tgt := 682) C.1 C.2.1 dL_law_40 hlo hhi (by rw [hv]; rfl) (by decide) ?_
        refine lv_aload_n C.1 C.2.1 dL_law_682 rfl (lv_at hl 1 rfl) ?_
        refine lv_aload_n C.1 C.2.1 dL_law_683 rfl (lv_at hl 0 rfl) ?_
        refine lv_iload C.1 C.2.1 dL_law_684 (lv_at hl 4 rfl) ?_
        refine lv_iconst (v := (1 : Int32)) C.1 C.2.1 dL_law_686 (by decide) ?_
        refine lv_iadd C.1 C.2.1 dL_law_687 ?_
        obtain ⟨hi688, hh⟩ := hh
        refine va_sld C.1 C.2.1 hX hbl hbA hw.2.2.2.1 hi688 dL_law_688 ?_
        refine lv_aload_n C.1 C.2.1 dL_law_689 rfl (lv_at hl 0 rfl) ?_
        refine lv_iload C.1 C.2.1 dL_law_690 (lv_at hl 4 rfl) ?_
        refine lv_iconst (v := (2 : Int32)) C.1 C.2.1 dL_law_692 (by decide) ?_
        refine lv_iadd C.1 C.2.1 dL_law_693 ?_
        obtain ⟨hi694, hh⟩ := hh
        refine va_sld C.1 C.2.1 hX hbl hbA hw.2.2.2.1 hi694 dL_law_694 ?_
        refine lv_aload_n C.1 C.2.1 dL_law_695 rfl (lv_at hl 0 rfl) ?_
        refine lv_iload C.1 C.2.1 dL_law_696 (lv_at hl 4 rfl) ?_
        refine lv_iconst (v := (3 : Int32)) C.1 C.2.1 dL_law_698 (by decide) ?_
        refine lv_iadd C.1 C.2.1 dL_law_699 ?_
        obtain ⟨hi700, hh⟩ := hh
        refine va_sld C.1 C.2.1 hX hbl hbA hw.2.2.2.1 hi700 dL_law_700 ?_
        refine lx_Vi C hw (ctX10_held l D h cI cL cF cM F L r (xs (ix (x4 + (1 : Int32)))) (xs (ix (x4 + (2 : Int32)))) (xs (ix (x4 + (3 : Int32)))) hh) (cwV 3 C.2.2.2.2 (gd_V w_1069 w_1070 w_1071 w_114 w_1072) rfl rfl rfl cdX10_held ⟨Nat.le_of_ble_eq_true rfl, Nat.le_of_ble_eq_true rfl⟩) rfl hl.1 (Nat.le_of_ble_eq_true rfl) dL_law_701 ⟨rmc (by omega), rms (by omega)⟩ (fun r701 u701 H locs hh hw => ?_) rfl
        refine lv_pop C.1 C.2.1 dL_law_704 rfl ?_
        refine lv_aload_n C.1 C.2.1 dL_law_705 rfl (lv_at hl 2 rfl) ?_
        refine lv_aload_n C.1 C.2.1 dL_law_706 rfl (lv_at hl 0 rfl) ?_
        refine lv_iload C.1 C.2.1 dL_law_707 (lv_at hl 4 rfl) ?_
        refine lv_iconst (v := (1 : Int32)) C.1 C.2.1 dL_law_709 (by decide) ?_
        refine lv_iadd C.1 C.2.1 dL_law_710 ?_
        obtain ⟨hi711, hh⟩ := hh
        refine va_sld C.1 C.2.1 hX hbl hbA hw.2.2.2.1 hi711 dL_law_711 ?_
        refine lv_aload_n C.1 C.2.1 dL_law_712 rfl (lv_at hl 0 rfl) ?_
        refine lv_iload C.1 C.2.1 dL_law_713 (lv_at hl 4 rfl) ?_
        refine lv_iconst (v := (2 : Int32)) C.1 C.2.1 dL_law_715 (by decide) ?_
        refine lv_iadd C.1 C.2.1 dL_law_716 ?_
        obtain ⟨hi717, hh⟩ := hh
        refine va_sld C.1 C.2.1 hX hbl hbA hw.2.2.2.1 hi717 dL_law_717 ?_
        refine lv_aload_n C.1 C.2.1 dL_law_718 rfl (lv_at hl 0 rfl) ?_
        refine lv_iload C.1 C.2.1 dL_law_719 (lv_at hl 4 rfl) ?_
        refine lv_iconst (v := (3 : Int32)) C.1 C.2.1 dL_law_721 (by decide) ?_
        refine lv_iadd C.1 C.2.1 dL_law_722 ?_
        obtain ⟨hi723, hh⟩ := hh
        refine va_sld C.1 C.2.1 hX hbl hbA hw.2.2.2.1 hi723 dL_law_723 ?_
        refine lm_Vi C hw (ctX11_held l D o hm cI cZ f g (xs (ix (x4 + (1 : Int32)))) (xs (ix (x4 + (2 : Int32)))) (xs (ix (x4 + (3 : Int32)))) hh) (cwV 3 C.2.2.2.2 (gd_V w_1922 w_1923 w_1924 w_125 w_1925) rfl rfl rfl cdX11_held ⟨Nat.le_of_ble_eq_true rfl, Nat.le_of_ble_eq_true rfl⟩) rfl hl.1 (Nat.le_of_ble_eq_true rfl) dL_law_724 ⟨rmc (by omega), rms (by omega)⟩ (fun r724 u724 H locs hh hw => ?_) rfl
        refine lv_pop C.1 C.2.1 dL_law_727 rfl ?_
        refine lv_goto (tgt := 1154) C.1 C.2.1 dL_law_728 (by decide) ?_
        first | exact tL_lawX_b1154 C hR hX hbl hbA hT hZ hl0 hcc hsc hB23 hh hw hl | exact W.widen (Nat.le_succ _) (Nat.le_add_right _ 6) (tL_lawX_b1154 C hR hX hbl hbA hT hZ hl0 hcc hsc hB23 hh hw hl)
      · replace hh := hh.2.2.2.2.2.2.2.2.2.2.2.2.2.2.2.2.1 (sw_eq hv (by decide))
        refine lv_tableIn (off := 691) (tgt := 731) C.1 C.2.1 dL_law_40 hlo hhi (by rw [hv]; rfl) (by decide) ?_
        refine lv_aload_n C.1 C.2.1 dL_law_731 rfl (lv_at hl 1 rfl) ?_
        refine lv_aload_n C.1 C.2.1 dL_law_732 rfl (lv_at hl 0 rfl) ?_
        refine lv_iload C.1 C.2.1 dL_law_733 (lv_at hl 4 rfl) ?_
        refine lv_iconst (v := (1 : Int32)) C.1 C.2.1 dL_law_735 (by decide) ?_
        refine lv_iadd C.1 C.2.1 dL_law_736 ?_
        obtain ⟨hi737, hh⟩ := hh
        refine va_sld C.1 C.2.1 hX hbl hbA hw.2.2.2.1 hi737 dL_law_737 ?_
        refine lv_aload_n C.1 C.2.1 dL_law_738 rfl (lv_at hl 0 rfl) ?_
        refine lv_iload C.1 C.2.1 dL_law_739 (lv_at hl 4 rfl) ?_
        refine lv_iconst (v := (2 : Int32)) C.1 C.2.1 dL_law_741 (by decide) ?_
        refine lv_iadd C.1 C.2.1 dL_law_742 ?_
        obtain ⟨hi743, hh⟩ := hh
        refine va_sld C.1 C.2.1 hX hbl hbA hw.2.2.2.1 hi743 dL_law_743 ?_
        refine lv_aload_n C.1 C.2.1 dL_law_744 rfl (lv_at hl 0 rfl) ?_
        refine lv_iload C.1 C.2.1 dL_law_745 (lv_at hl 4 rfl) ?_
        refine lv_iconst (v := (3 : Int32)) C.1 C.2.1 dL_law_747 (by decide) ?_
        refine lv_iadd C.1 C.2.1 dL_law_748 ?_
        obtain ⟨hi749, hh⟩ := hh
        refine va_sld C.1 C.2.1 hX hbl hbA hw.2.2.2.1 hi749 dL_law_749 ?_
        refine lx_Vi C hw (ctX10_longest l D h cI cL cF cM F L r (xs (ix (x4 + (1 : Int32)))) (xs (ix (x4 + (2 : Int32)))) (xs (ix (x4 + (3 : Int32)))) hh) (cwV 3 C.2.2.2.2 (gd_V w_1119 w_1120 w_1121 w_114 w_1122) rfl rfl rfl cdX10_longest ⟨Nat.le_of_ble_eq_true rfl, Nat.le_of_ble_eq_true rfl⟩) rfl hl.1 (Nat.le_of_ble_eq_true rfl) dL_law_750 ⟨rmc (by omega), rms (by omega)⟩ (fun r750 u750 H locs hh hw => ?_) rfl
        refine lv_pop C.1 C.2.1 dL_law_753 rfl ?_
        refine lv_aload_n C.1 C.2.1 dL_law_754 rfl (lv_at hl 2 rfl) ?_
        refine lv_aload_n C.1 C.2.1 dL_law_755 rfl (lv_at hl 0 rfl) ?_
        refine lv_iload C.1 C.2.1 dL_law_756 (lv_at hl 4 rfl) ?_
        refine lv_iconst (v := (1 : Int32)) C.1 C.2.1 dL_law_758 (by decide) ?_
        refine lv_iadd C.1 C.2.1 dL_law_759 ?_
        obtain ⟨hi760, hh⟩ := hh
        refine va_sld C.1 C.2.1 hX hbl hbA hw.2.2.2.1 hi760 dL_law_760 ?_
        refine lv_aload_n C.1 C.2.1 dL_law_761 rfl (lv_at hl 0 rfl) ?_
        refine lv_iload C.1 C.2.1 dL_law_762 (lv_at hl 4 rfl) ?_
        refine lv_iconst (v := (2 : Int32)) C.1 C.2.1 dL_law_764 (by decide) ?_
        refine lv_iadd C.1 C.2.1 dL_law_765 ?_
        obtain ⟨hi766, hh⟩ := hh
        refine va_sld C.1 C.2.1 hX hbl hbA hw.2.2.2.1 hi766 dL_law_766 ?_
        refine lv_aload_n C.1 C.2.1 dL_law_767 rfl (lv_at hl 0 rfl) ?_
        refine lv_iload C.1 C.2.1 dL_law_768 (lv_at hl 4 rfl) ?_
        refine lv_iconst (v := (3 : Int32)) C.1 C.2.1 dL_law_770 (by decide) ?_
        refine lv_iadd C.1 C.2.1 dL_law_771 ?_
        obtain ⟨hi772, hh⟩ := hh
        refine va_sld C.1 C.2.1 hX hbl hbA hw.2.2.2.1 hi772 dL_law_772 ?_
        refine lm_Vi C hw (ctX11_longest l D o hm cI cZ f g (xs (ix (x4 + (1 : Int32)))) (xs (ix (x4 + (2 : Int32)))) (xs (ix (x4 + (3 : Int32)))) hh) (cwV 3 C.2.2.2.2 (gd_V w_1953 w_1954 w_1955 w_125 w_1956) rfl rfl rfl cdX11_longest ⟨Nat.le_of_ble_eq_true rfl, Nat.le_of_ble_eq_true rfl⟩) rfl hl.1 (Nat.le_of_ble_eq_true rfl) dL_law_773 ⟨rmc (by omega), rms (by omega)⟩ (fun r773 u773 H locs hh hw => ?_) rfl
        refine lv_pop C.1 C.2.1 dL_law_776 rfl ?_
        refine lv_goto (tgt := 1154) C.1 C.2.1 dL_law_777 (by decide) ?_
        first | exact tL_lawX_b1154 C hR hX hbl hbA hT hZ hl0 hcc hsc hB23 hh hw hl | exact W.widen (Nat.le_succ _) (Nat.le_add_right _ 6) (tL_lawX_b1154 C hR hX hbl hbA hT hZ hl0 hcc hsc hB23 hh hw hl)
      · replace hh := hh.2.2.2.2.2.2.2.2.2.2.2.2.2.2.2.2.2.1 (sw_eq hv (by decide))
        refine lv_tableIn (off := 740) (tgt := 780) C.1 C.2.1 dL_law_40 hlo hhi (by rw [hv]; rfl) (by decide) ?_
        refine lv_aload_n C.1 C.2.1 dL_law_780 rfl (lv_at hl 1 rfl) ?_
        refine lv_aload_n C.1 C.2.1 dL_law_781 rfl (lv_at hl 0 rfl) ?_
        refine lv_iload C.1 C.2.1 dL_law_782 (lv_at hl 4 rfl) ?_
        refine lv_iconst (v := (1 : Int32)) C.1 C.2.1 dL_law_784 (by decide) ?_
        refine lv_iadd C.1 C.2.1 dL_law_785 ?_
        obtain ⟨hi786, hh⟩ := hh
        refine va_sld C.1 C.2.1 hX hbl hbA hw.2.2.2.1 hi786 dL_law_786 ?_
        refine lv_aload_n C.1 C.2.1 dL_law_787 rfl (lv_at hl 0 rfl) ?_
        refine lv_iload C.1 C.2.1 dL_law_788 (lv_at hl 4 rfl) ?_
        refine lv_iconst (v := (2 : Int32)) C.1 C.2.1 dL_law_790 (by decide) ?_
        refine lv_iadd C.1 C.2.1 dL_law_791 ?_
        obtain ⟨hi792, hh⟩ := hh
        refine va_sld C.1 C.2.1 hX hbl hbA hw.2.2.2.1 hi792 dL_law_792 ?_
        refine lv_aload_n C.1 C.2.1 dL_law_793 rfl (lv_at hl 0 rfl) ?_
        refine lv_iload C.1 C.2.1 dL_law_794 (lv_at hl 4 rfl) ?_
        refine lv_iconst (v := (3 : Int32)) C.1 C.2.1 dL_law_796 (by decide) ?_
        refine lv_iadd C.1 C.2.1 dL_law_797 ?_
        obtain ⟨hi798, hh⟩ := hh
        refine va_sld C.1 C.2.1 hX hbl hbA hw.2.2.2.1 hi798 dL_law_798 ?_
        refine lx_Vi C hw (ctX10_needs l D h cI cL cF cM F L r (xs (ix (x4 + (1 : Int32)))) (xs (ix (x4 + (2 : Int32)))) (xs (ix (x4 + (3 : Int32)))) hh) (cwV 3 C.2.2.2.2 (gd_V w_1131 w_1132 w_1133 w_114 w_1134) rfl rfl rfl cdX10_needs ⟨Nat.le_of_ble_eq_true rfl, Nat.le_of_ble_eq_true rfl⟩) rfl hl.1 (Nat.le_of_ble_eq_true rfl) dL_law_799 ⟨rmc (by omega), rms (by omega)⟩ (fun r799 u799 H locs hh hw => ?_) rfl
        refine lv_pop C.1 C.2.1 dL_law_802 rfl ?_
        refine lv_aload_n C.1 C.2.1 dL_law_803 rfl (lv_at hl 2 rfl) ?_
        refine lv_aload_n C.1 C.2.1 dL_law_804 rfl (lv_at hl 0 rfl) ?_
        refine lv_iload C.1 C.2.1 dL_law_805 (lv_at hl 4 rfl) ?_
        refine lv_iconst (v := (1 : Int32)) C.1 C.2.1 dL_law_807 (by decide) ?_
        refine lv_iadd C.1 C.2.1 dL_law_808 ?_
        obtain ⟨hi809, hh⟩ := hh
        refine va_sld C.1 C.2.1 hX hbl hbA hw.2.2.2.1 hi809 dL_law_809 ?_
        refine lv_aload_n C.1 C.2.1 dL_law_810 rfl (lv_at hl 0 rfl) ?_
        refine lv_iload C.1 C.2.1 dL_law_811 (lv_at hl 4 rfl) ?_
        refine lv_iconst (v := (2 : Int32)) C.1 C.2.1 dL_law_813 (by decide) ?_
        refine lv_iadd C.1 C.2.1 dL_law_814 ?_
        obtain ⟨hi815, hh⟩ := hh
        refine va_sld C.1 C.2.1 hX hbl hbA hw.2.2.2.1 hi815 dL_law_815 ?_
        refine lv_aload_n C.1 C.2.1 dL_law_816 rfl (lv_at hl 0 rfl) ?_
        refine lv_iload C.1 C.2.1 dL_law_817 (lv_at hl 4 rfl) ?_
        refine lv_iconst (v := (3 : Int32)) C.1 C.2.1 dL_law_819 (by decide) ?_
        refine lv_iadd C.1 C.2.1 dL_law_820 ?_
        obtain ⟨hi821, hh⟩ := hh
        refine va_sld C.1 C.2.1 hX hbl hbA hw.2.2.2.1 hi821 dL_law_821 ?_
        refine lm_Vi C hw (ctX11_needs l D o hm cI cZ f g (xs (ix (x4 + (1 : Int32)))) (xs (ix (x4 + (2 : Int32)))) (xs (ix (x4 + (3 : Int32)))) hh) (cwV 3 C.2.2.2.2 (gd_V w_1957 w_1958 w_1959 w_125 w_1960) rfl rfl rfl cdX11_needs ⟨Nat.le_of_ble_eq_true rfl, Nat.le_of_ble_eq_true rfl⟩) rfl hl.1 (Nat.le_of_ble_eq_true rfl) dL_law_822 ⟨rmc (by omega), rms (by omega)⟩ (fun r822 u822 H locs hh hw => ?_) rfl
        refine lv_pop C.1 C.2.1 dL_law_825 rfl ?_
        refine lv_goto (tgt := 1154) C.1 C.2.1 dL_law_826 (by decide) ?_
        first | exact tL_lawX_b1154 C hR hX hbl hbA hT hZ hl0 hcc hsc hB23 hh hw hl | exact W.widen (Nat.le_succ _) (Nat.le_add_right _ 6) (tL_lawX_b1154 C hR hX hbl hbA hT hZ hl0 hcc hsc hB23 hh hw hl)
      · replace hh := hh.2.2.2.2.2.2.2.2.2.2.2.2.2.2.2.2.2.2.1 (sw_eq hv (by decide))
        refine lv_tableIn (off := 789) (tgt := 829) C.1 C.2.1 dL_law_40 hlo hhi (by rw [hv]; rfl) (by decide) ?_
        refine lv_aload_n C.1 C.2.1 dL_law_829 rfl (lv_at hl 1 rfl) ?_
        refine lv_aload_n C.1 C.2.1 dL_law_830 rfl (lv_at hl 0 rfl) ?_
        refine lv_iload C.1 C.2.1 dL_law_831 (lv_at hl 4 rfl) ?_
        refine lv_iconst (v := (1 : Int32)) C.1 C.2.1 dL_law_833 (by decide) ?_
        refine lv_iadd C.1 C.2.1 dL_law_834 ?_
        obtain ⟨hi835, hh⟩ := hh
        refine va_sld C.1 C.2.1 hX hbl hbA hw.2.2.2.1 hi835 dL_law_835 ?_
        refine lx_Vi C hw (ctX10_knows l D h cI cL cF cM F L r (xs (ix (x4 + (1 : Int32)))) hh) (cwV 1 C.2.2.2.2 (gd_V w_1153 w_1154 w_1155 w_114 w_1156) rfl rfl rfl cdX10_knows ⟨Nat.le_of_ble_eq_true rfl, Nat.le_of_ble_eq_true rfl⟩) rfl hl.1 (Nat.le_of_ble_eq_true rfl) dL_law_836 ⟨rmc (by omega), rms (by omega)⟩ (fun r836 u836 H locs hh hw => ?_) rfl
        refine lv_pop C.1 C.2.1 dL_law_839 rfl ?_
        refine lv_aload_n C.1 C.2.1 dL_law_840 rfl (lv_at hl 2 rfl) ?_
        refine lv_aload_n C.1 C.2.1 dL_law_841 rfl (lv_at hl 0 rfl) ?_
        refine lv_iload C.1 C.2.1 dL_law_842 (lv_at hl 4 rfl) ?_
        refine lv_iconst (v := (1 : Int32)) C.1 C.2.1 dL_law_844 (by decide) ?_
        refine lv_iadd C.1 C.2.1 dL_law_845 ?_
        obtain ⟨hi846, hh⟩ := hh
        refine va_sld C.1 C.2.1 hX hbl hbA hw.2.2.2.1 hi846 dL_law_846 ?_
        refine lm_Vi C hw (ctX11_knows l D o hm cI cZ f g (xs (ix (x4 + (1 : Int32)))) hh) (cwV 1 C.2.2.2.2 (gd_V w_1965 w_1966 w_1967 w_125 w_1968) rfl rfl rfl cdX11_knows ⟨Nat.le_of_ble_eq_true rfl, Nat.le_of_ble_eq_true rfl⟩) rfl hl.1 (Nat.le_of_ble_eq_true rfl) dL_law_847 ⟨rmc (by omega), rms (by omega)⟩ (fun r847 u847 H locs hh hw => ?_) rfl
        refine lv_pop C.1 C.2.1 dL_law_850 rfl ?_
        refine lv_goto (tgt := 1154) C.1 C.2.1 dL_law_851 (by decide) ?_
        first | exact tL_lawX_b1154 C hR hX hbl hbA hT hZ hl0 hcc hsc hB23 hh hw hl | exact W.widen (Nat.le_succ _) (Nat.le_add_right _ 6) (tL_lawX_b1154 C hR hX hbl hbA hT hZ hl0 hcc hsc hB23 hh hw hl)
      · replace hh := hh.2.2.2.2.2.2.2.2.2.2.2.2.2.2.2.2.2.2.2.1 (sw_eq hv (by decide))
        refine lv_tableIn (off := 814) (tgt := 854) C.1 C.2.1 dL_law_40 hlo hhi (by rw [hv]; rfl) (by decide) ?_
        refine lv_aload_n C.1 C.2.1 dL_law_854 rfl (lv_at hl 1 rfl) ?_
        refine lv_aload_n C.1 C.2.1 dL_law_855 rfl (lv_at hl 0 rfl) ?_
        refine lv_iload C.1 C.2.1 dL_law_856 (lv_at hl 4 rfl) ?_
        refine lv_iconst (v := (1 : Int32)) C.1 C.2.1 dL_law_858 (by decide) ?_
        refine lv_iadd C.1 C.2.1 dL_law_859 ?_
        obtain ⟨hi860, hh⟩ := hh
        refine va_sld C.1 C.2.1 hX hbl hbA hw.2.2.2.1 hi860 dL_law_860 ?_
        refine lx_Vi C hw (ctX10_pull l D h cI cL cF cM F L r (xs (ix (x4 + (1 : Int32)))) hh) (cwV 1 C.2.2.2.2 (gd_V w_1159 w_1160 w_1161 w_114 w_1162) rfl rfl rfl cdX10_pull ⟨Nat.le_of_ble_eq_true rfl, Nat.le_of_ble_eq_true rfl⟩) rfl hl.1 (Nat.le_of_ble_eq_true rfl) dL_law_861 ⟨rmc (by omega), rms (by omega)⟩ (fun r861 u861 H locs hh hw => ?_) rfl
        refine lv_pop C.1 C.2.1 dL_law_864 rfl ?_
        refine lv_aload_n C.1 C.2.1 dL_law_865 rfl (lv_at hl 2 rfl) ?_
        refine lv_aload_n C.1 C.2.1 dL_law_866 rfl (lv_at hl 0 rfl) ?_
        refine lv_iload C.1 C.2.1 dL_law_867 (lv_at hl 4 rfl) ?_
        refine lv_iconst (v := (1 : Int32)) C.1 C.2.1 dL_law_869 (by decide) ?_
        refine lv_iadd C.1 C.2.1 dL_law_870 ?_
        obtain ⟨hi871, hh⟩ := hh
        refine va_sld C.1 C.2.1 hX hbl hbA hw.2.2.2.1 hi871 dL_law_871 ?_
        refine lm_Vi C hw (ctX11_pull l D o hm cI cZ f g (xs (ix (x4 + (1 : Int32)))) hh) (cwV 1 C.2.2.2.2 (gd_V w_1969 w_1970 w_1971 w_125 w_1972) rfl rfl rfl cdX11_pull ⟨Nat.le_of_ble_eq_true rfl, Nat.le_of_ble_eq_true rfl⟩) rfl hl.1 (Nat.le_of_ble_eq_true rfl) dL_law_872 ⟨rmc (by omega), rms (by omega)⟩ (fun r872 u872 H locs hh hw => ?_) rfl
        refine lv_pop C.1 C.2.1 dL_law_875 rfl ?_
        refine lv_goto (tgt := 1154) C.1 C.2.1 dL_law_876 (by decide) ?_
        first | exact tL_lawX_b1154 C hR hX hbl hbA hT hZ hl0 hcc hsc hB23 hh hw hl | exact W.widen (Nat.le_succ _) (Nat.le_add_right _ 6) (tL_lawX_b1154 C hR hX hbl hbA hT hZ hl0 hcc hsc hB23 hh hw hl)
      · replace hh := hh.2.2.2.2.2.2.2.2.2.2.2.2.2.2.2.2.2.2.2.2.1 (sw_eq hv (by decide))
        refine lv_tableIn (off := 839) (tgt := 879) C.1 C.2.1 dL_law_40 hlo hhi (by rw [hv]; rfl) (by decide) ?_
        refine lv_aload_n C.1 C.2.1 dL_law_879 rfl (lv_at hl 1 rfl) ?_
        refine lv_aload_n C.1 C.2.1 dL_law_880 rfl (lv_at hl 0 rfl) ?_
        refine lv_iload C.1 C.2.1 dL_law_881 (lv_at hl 4 rfl) ?_
        refine lv_iconst (v := (1 : Int32)) C.1 C.2.1 dL_law_883 (by decide) ?_
        refine lv_iadd C.1 C.2.1 dL_law_884 ?_
        obtain ⟨hi885, hh⟩ := hh
        refine va_sld C.1 C.2.1 hX hbl hbA hw.2.2.2.1 hi885 dL_law_885 ?_
        refine lx_Vi C hw (ctX10_pullRun l D h cI cL cF cM F L r (xs (ix (x4 + (1 : Int32)))) hh) (cwV 1 C.2.2.2.2 (gd_V w_1190 w_1191 w_1192 w_114 w_1193) rfl rfl rfl cdX10_pullRun ⟨Nat.le_of_ble_eq_true rfl, Nat.le_of_ble_eq_true rfl⟩) rfl hl.1 (Nat.le_of_ble_eq_true rfl) dL_law_886 ⟨rmc (by omega), rms (by omega)⟩ (fun r886 u886 H locs hh hw => ?_) rfl
        refine lv_pop C.1 C.2.1 dL_law_889 rfl ?_
        refine lv_aload_n C.1 C.2.1 dL_law_890 rfl (lv_at hl 2 rfl) ?_
        refine lv_aload_n C.1 C.2.1 dL_law_891 rfl (lv_at hl 0 rfl) ?_
        refine lv_iload C.1 C.2.1 dL_law_892 (lv_at hl 4 rfl) ?_
        refine lv_iconst (v := (1 : Int32)) C.1 C.2.1 dL_law_894 (by decide) ?_
        refine lv_iadd C.1 C.2.1 dL_law_895 ?_
        obtain ⟨hi896, hh⟩ := hh
        refine va_sld C.1 C.2.1 hX hbl hbA hw.2.2.2.1 hi896 dL_law_896 ?_
        refine lm_Vi C hw (ctX11_pullRun l D o hm cI cZ f g (xs (ix (x4 + (1 : Int32)))) hh) (cwV 1 C.2.2.2.2 (gd_V w_1989 w_1990 w_1991 w_125 w_1992) rfl rfl rfl cdX11_pullRun ⟨Nat.le_of_ble_eq_true rfl, Nat.le_of_ble_eq_true rfl⟩) rfl hl.1 (Nat.le_of_ble_eq_true rfl) dL_law_897 ⟨rmc (by omega), rms (by omega)⟩ (fun r897 u897 H locs hh hw => ?_) rfl
        refine lv_pop C.1 C.2.1 dL_law_900 rfl ?_
        refine lv_goto (tgt := 1154) C.1 C.2.1 dL_law_901 (by decide) ?_
        first | exact tL_lawX_b1154 C hR hX hbl hbA hT hZ hl0 hcc hsc hB23 hh hw hl | exact W.widen (Nat.le_succ _) (Nat.le_add_right _ 6) (tL_lawX_b1154 C hR hX hbl hbA hT hZ hl0 hcc hsc hB23 hh hw hl)
      · replace hh := hh.2.2.2.2.2.2.2.2.2.2.2.2.2.2.2.2.2.2.2.2.2.1 (sw_eq hv (by decide))
        refine lv_tableIn (off := 864) (tgt := 904) C.1 C.2.1 dL_law_40 hlo hhi (by rw [hv]; rfl) (by decide) ?_
        refine lv_aload_n C.1 C.2.1 dL_law_904 rfl (lv_at hl 1 rfl) ?_
        refine lx_Vi C hw (ctX10_relays l D h cI cL cF cM F L r hh) (cwV 0 C.2.2.2.2 (gd_V w_1194 w_1195 w_1196 w_114 w_1197) rfl rfl rfl cdX10_relays ⟨Nat.le_of_ble_eq_true rfl, Nat.le_of_ble_eq_true rfl⟩) rfl hl.1 (Nat.le_of_ble_eq_true rfl) dL_law_905 ⟨rmc (by omega), rms (by omega)⟩ (fun r905 u905 H locs hh hw => ?_) rfl
        refine lv_pop C.1 C.2.1 dL_law_908 rfl ?_
        refine lv_aload_n C.1 C.2.1 dL_law_909 rfl (lv_at hl 2 rfl) ?_
        refine lm_Vi C hw (ctX11_relays l D o hm cI cZ f g hh) (cwV 0 C.2.2.2.2 (gd_V w_1993 w_1994 w_1995 w_125 w_1996) rfl rfl rfl cdX11_relays ⟨Nat.le_of_ble_eq_true rfl, Nat.le_of_ble_eq_true rfl⟩) rfl hl.1 (Nat.le_of_ble_eq_true rfl) dL_law_910 ⟨rmc (by omega), rms (by omega)⟩ (fun r910 u910 H locs hh hw => ?_) rfl
        refine lv_pop C.1 C.2.1 dL_law_913 rfl ?_
        refine lv_goto (tgt := 1154) C.1 C.2.1 dL_law_914 (by decide) ?_
        first | exact tL_lawX_b1154 C hR hX hbl hbA hT hZ hl0 hcc hsc hB23 hh hw hl | exact W.widen (Nat.le_succ _) (Nat.le_add_right _ 6) (tL_lawX_b1154 C hR hX hbl hbA hT hZ hl0 hcc hsc hB23 hh hw hl)
      · replace hh := hh.2.2.2.2.2.2.2.2.2.2.2.2.2.2.2.2.2.2.2.2.2.2.1 (sw_eq hv (by decide))
        refine lv_tableIn (off := 877) (tgt := 917) C.1 C.2.1 dL_law_40 hlo hhi (by rw [hv]; rfl) (by decide) ?_
        refine lv_aload_n C.1 C.2.1 dL_law_917 rfl (lv_at hl 1 rfl) ?_
        refine lx_Vi C hw (ctX10_race l D h cI cL cF cM F L r hh) (cwV 0 C.2.2.2.2 (gd_V w_1198 w_1199 w_1200 w_114 w_1201) rfl rfl rfl cdX10_race ⟨Nat.le_of_ble_eq_true rfl, Nat.le_of_ble_eq_true rfl⟩) rfl hl.1 (Nat.le_of_ble_eq_true rfl) dL_law_918 ⟨rmc (by omega), rms (by omega)⟩ (fun r918 u918 H locs hh hw => ?_) rfl
        refine lv_pop C.1 C.2.1 dL_law_921 rfl ?_
        refine lv_aload_n C.1 C.2.1 dL_law_922 rfl (lv_at hl 2 rfl) ?_
        refine lm_Vi C hw (ctX11_race l D o hm cI cZ f g hh) (cwV 0 C.2.2.2.2 (gd_V w_1997 w_1998 w_1999 w_125 w_2000) rfl rfl rfl cdX11_race ⟨Nat.le_of_ble_eq_true rfl, Nat.le_of_ble_eq_true rfl⟩) rfl hl.1 (Nat.le_of_ble_eq_true rfl) dL_law_923 ⟨rmc (by omega), rms (by omega)⟩ (fun r923 u923 H locs hh hw => ?_) rfl
        refine lv_pop C.1 C.2.1 dL_law_926 rfl ?_
        refine lv_goto (tgt := 1154) C.1 C.2.1 dL_law_927 (by decide) ?_
        first | exact tL_lawX_b1154 C hR hX hbl hbA hT hZ hl0 hcc hsc hB23 hh hw hl | exact W.widen (Nat.le_succ _) (Nat.le_add_right _ 6) (tL_lawX_b1154 C hR hX hbl hbA hT hZ hl0 hcc hsc hB23 hh hw hl)
      · replace hh := hh.2.2.2.2.2.2.2.2.2.2.2.2.2.2.2.2.2.2.2.2.2.2.2.1 (sw_eq hv (by decide))
        refine lv_tableIn (off := 890) (tgt := 930) C.1 C.2.1 dL_law_40 hlo hhi (by rw [hv]; rfl) (by decide) ?_
        refine lv_aload_n C.1 C.2.1 dL_law_930 rfl (lv_at hl 1 rfl) ?_
        refine lv_aload_n C.1 C.2.1 dL_law_931 rfl (lv_at hl 0 rfl) ?_
        refine lv_iload C.1 C.2.1 dL_law_932 (lv_at hl 4 rfl) ?_
        refine lv_iconst (v := (1 : Int32)) C.1 C.2.1 dL_law_934 (by decide) ?_
        refine lv_iadd C.1 C.2.1 dL_law_935 ?_
        obtain ⟨hi936, hh⟩ := hh
        refine va_sld C.1 C.2.1 hX hbl hbA hw.2.2.2.1 hi936 dL_law_936 ?_
        refine lv_aload_n C.1 C.2.1 dL_law_937 rfl (lv_at hl 0 rfl) ?_
        refine lv_iload C.1 C.2.1 dL_law_938 (lv_at hl 4 rfl) ?_
        refine lv_iconst (v := (2 : Int32)) C.1 C.2.1 dL_law_940 (by decide) ?_
        refine lv_iadd C.1 C.2.1 dL_law_941 ?_
        obtain ⟨hi942, hh⟩ := hh
        refine va_sld C.1 C.2.1 hX hbl hbA hw.2.2.2.1 hi942 dL_law_942 ?_
        refine lx_Vi C hw (ctX10_stick l D h cI cL cF cM F L r (xs (ix (x4 + (1 : Int32)))) (xs (ix (x4 + (2 : Int32)))) hh) (cwV 2 C.2.2.2.2 (gd_V w_1215 w_1216 w_1217 w_114 w_1218) rfl rfl rfl cdX10_stick ⟨Nat.le_of_ble_eq_true rfl, Nat.le_of_ble_eq_true rfl⟩) rfl hl.1 (Nat.le_of_ble_eq_true rfl) dL_law_943 ⟨rmc (by omega), rms (by omega)⟩ (fun r943 u943 H locs hh hw => ?_) rfl
        refine lv_pop C.1 C.2.1 dL_law_946 rfl ?_
        refine lv_aload_n C.1 C.2.1 dL_law_947 rfl (lv_at hl 2 rfl) ?_
        refine lv_aload_n C.1 C.2.1 dL_law_948 rfl (lv_at hl 0 rfl) ?_
        refine lv_iload C.1 C.2.1 dL_law_949 (lv_at hl 4 rfl) ?_
        refine lv_iconst (v := (1 : Int32)) C.1 C.2.1 dL_law_951 (by decide) ?_
        refine lv_iadd C.1 C.2.1 dL_law_952 ?_
        obtain ⟨hi953, hh⟩ := hh
        refine va_sld C.1 C.2.1 hX hbl hbA hw.2.2.2.1 hi953 dL_law_953 ?_
        refine lv_aload_n C.1 C.2.1 dL_law_954 rfl (lv_at hl 0 rfl) ?_
        refine lv_iload C.1 C.2.1 dL_law_955 (lv_at hl 4 rfl) ?_
        refine lv_iconst (v := (2 : Int32)) C.1 C.2.1 dL_law_957 (by decide) ?_
        refine lv_iadd C.1 C.2.1 dL_law_958 ?_
        obtain ⟨hi959, hh⟩ := hh
        refine va_sld C.1 C.2.1 hX hbl hbA hw.2.2.2.1 hi959 dL_law_959 ?_
        refine lm_Vi C hw (ctX11_stick l D o hm cI cZ f g (xs (ix (x4 + (1 : Int32)))) (xs (ix (x4 + (2 : Int32)))) hh) (cwV 2 C.2.2.2.2 (gd_V w_2005 w_2006 w_2007 w_125 w_2008) rfl rfl rfl cdX11_stick ⟨Nat.le_of_ble_eq_true rfl, Nat.le_of_ble_eq_true rfl⟩) rfl hl.1 (Nat.le_of_ble_eq_true rfl) dL_law_960 ⟨rmc (by omega), rms (by omega)⟩ (fun r960 u960 H locs hh hw => ?_) rfl
        refine lv_pop C.1 C.2.1 dL_law_963 rfl ?_
        refine lv_goto (tgt := 1154) C.1 C.2.1 dL_law_964 (by decide) ?_
        first | exact tL_lawX_b1154 C hR hX hbl hbA hT hZ hl0 hcc hsc hB23 hh hw hl | exact W.widen (Nat.le_succ _) (Nat.le_add_right _ 6) (tL_lawX_b1154 C hR hX hbl hbA hT hZ hl0 hcc hsc hB23 hh hw hl)
      · replace hh := hh.2.2.2.2.2.2.2.2.2.2.2.2.2.2.2.2.2.2.2.2.2.2.2.2.1 (sw_eq hv (by decide))
        refine lv_tableIn (off := 927) (tgt := 967) C.1 C.2.1 dL_law_40 hlo hhi (by rw [hv]; rfl) (by decide) ?_
        refine lv_aload_n C.1 C.2.1 dL_law_967 rfl (lv_at hl 1 rfl) ?_
        refine lx_Vi C hw (ctX10_stuck l D h cI cL cF cM F L r hh) (cwV 0 C.2.2.2.2 (gd_V w_1227 w_1228 w_1229 w_114 w_1230) rfl rfl rfl cdX10_stuck ⟨Nat.le_of_ble_eq_true rfl, Nat.le_of_ble_eq_true rfl⟩) rfl hl.1 (Nat.le_of_ble_eq_true rfl) dL_law_968 ⟨rmc (by omega), rms (by omega)⟩ (fun r968 u968 H locs hh hw => ?_) rfl
        refine lv_pop C.1 C.2.1 dL_law_971 rfl ?_
        refine lv_aload_n C.1 C.2.1 dL_law_972 rfl (lv_at hl 2 rfl) ?_
        refine lm_Vi C hw (ctX11_stuck l D o hm cI cZ f g hh) (cwV 0 C.2.2.2.2 (gd_V w_2013 w_2014 w_2015 w_125 w_2016) rfl rfl rfl cdX11_stuck ⟨Nat.le_of_ble_eq_true rfl, Nat.le_of_ble_eq_true rfl⟩) rfl hl.1 (Nat.le_of_ble_eq_true rfl) dL_law_973 ⟨rmc (by omega), rms (by omega)⟩ (fun r973 u973 H locs hh hw => ?_) rfl
        refine lv_pop C.1 C.2.1 dL_law_976 rfl ?_
        refine lv_goto (tgt := 1154) C.1 C.2.1 dL_law_977 (by decide) ?_
        first | exact tL_lawX_b1154 C hR hX hbl hbA hT hZ hl0 hcc hsc hB23 hh hw hl | exact W.widen (Nat.le_succ _) (Nat.le_add_right _ 6) (tL_lawX_b1154 C hR hX hbl hbA hT hZ hl0 hcc hsc hB23 hh hw hl)
      · replace hh := hh.2.2.2.2.2.2.2.2.2.2.2.2.2.2.2.2.2.2.2.2.2.2.2.2.2.1 (sw_eq hv (by decide))
        refine lv_tableIn (off := 940) (tgt := 980) C.1 C.2.1 dL_law_40 hlo hhi (by rw [hv]; rfl) (by decide) ?_
        refine lv_aload_n C.1 C.2.1 dL_law_980 rfl (lv_at hl 1 rfl) ?_
        refine lv_aload_n C.1 C.2.1 dL_law_981 rfl (lv_at hl 0 rfl) ?_
        refine lv_iload C.1 C.2.1 dL_law_982 (lv_at hl 4 rfl) ?_
        refine lv_iconst (v := (1 : Int32)) C.1 C.2.1 dL_law_984 (by decide) ?_
        refine lv_iadd C.1 C.2.1 dL_law_985 ?_
        obtain ⟨hi986, hh⟩ := hh
        refine va_sld C.1 C.2.1 hX hbl hbA hw.2.2.2.1 hi986 dL_law_986 ?_
        refine lx_Vi C hw (ctX10_same l D h cI cL cF cM F L r (xs (ix (x4 + (1 : Int32)))) hh) (cwV 1 C.2.2.2.2 (gd_V w_1231 w_1232 w_1233 w_114 w_1234) rfl rfl rfl cdX10_same ⟨Nat.le_of_ble_eq_true rfl, Nat.le_of_ble_eq_true rfl⟩) rfl hl.1 (Nat.le_of_ble_eq_true rfl) dL_law_987 ⟨rmc (by omega), rms (by omega)⟩ (fun r987 u987 H locs hh hw => ?_) rfl
        refine lv_pop C.1 C.2.1 dL_law_990 rfl ?_
        refine lv_aload_n C.1 C.2.1 dL_law_991 rfl (lv_at hl 2 rfl) ?_
        refine lv_aload_n C.1 C.2.1 dL_law_992 rfl (lv_at hl 0 rfl) ?_
        refine lv_iload C.1 C.2.1 dL_law_993 (lv_at hl 4 rfl) ?_
        refine lv_iconst (v := (1 : Int32)) C.1 C.2.1 dL_law_995 (by decide) ?_
        refine lv_iadd C.1 C.2.1 dL_law_996 ?_
        obtain ⟨hi997, hh⟩ := hh
        refine va_sld C.1 C.2.1 hX hbl hbA hw.2.2.2.1 hi997 dL_law_997 ?_
        refine lm_Vi C hw (ctX11_same l D o hm cI cZ f g (xs (ix (x4 + (1 : Int32)))) hh) (cwV 1 C.2.2.2.2 (gd_V w_2017 w_2018 w_2019 w_125 w_2020) rfl rfl rfl cdX11_same ⟨Nat.le_of_ble_eq_true rfl, Nat.le_of_ble_eq_true rfl⟩) rfl hl.1 (Nat.le_of_ble_eq_true rfl) dL_law_998 ⟨rmc (by omega), rms (by omega)⟩ (fun r998 u998 H locs hh hw => ?_) rfl
        refine lv_pop C.1 C.2.1 dL_law_1001 rfl ?_
        refine lv_goto (tgt := 1154) C.1 C.2.1 dL_law_1002 (by decide) ?_
        first | exact tL_lawX_b1154 C hR hX hbl hbA hT hZ hl0 hcc hsc hB23 hh hw hl | exact W.widen (Nat.le_succ _) (Nat.le_add_right _ 6) (tL_lawX_b1154 C hR hX hbl hbA hT hZ hl0 hcc hsc hB23 hh hw hl)
      · replace hh := hh.2.2.2.2.2.2.2.2.2.2.2.2.2.2.2.2.2.2.2.2.2.2.2.2.2.2.1 (sw_eq hv (by decide))
        refine lv_tableIn (off := 965) (tgt := 1005) C.1 C.2.1 dL_law_40 hlo hhi (by rw [hv]; rfl) (by decide) ?_
        refine lv_aload_n C.1 C.2.1 dL_law_1005 rfl (lv_at hl 1 rfl) ?_
        refine lv_aload_n C.1 C.2.1 dL_law_1006 rfl (lv_at hl 0 rfl) ?_
        refine lv_iload C.1 C.2.1 dL_law_1007 (lv_at hl 4 rfl) ?_
        refine lv_iconst (v := (1 : Int32)) C.1 C.2.1 dL_law_1009 (by decide) ?_
        refine lv_iadd C.1 C.2.1 dL_law_1010 ?_
        obtain ⟨hi1011, hh⟩ := hh
        refine va_sld C.1 C.2.1 hX hbl hbA hw.2.2.2.1 hi1011 dL_law_1011 ?_
        refine lv_aload_n C.1 C.2.1 dL_law_1012 rfl (lv_at hl 0 rfl) ?_
        refine lv_iload C.1 C.2.1 dL_law_1013 (lv_at hl 4 rfl) ?_
        refine lv_iconst (v := (2 : Int32)) C.1 C.2.1 dL_law_1015 (by decide) ?_
        refine lv_iadd C.1 C.2.1 dL_law_1016 ?_
        obtain ⟨hi1017, hh⟩ := hh
        refine va_sld C.1 C.2.1 hX hbl hbA hw.2.2.2.1 hi1017 dL_law_1017 ?_
        refine lx_Vi C hw (ctX10_suspects l D h cI cL cF cM F L r (xs (ix (x4 + (1 : Int32)))) (xs (ix (x4 + (2 : Int32)))) hh) (cwV 2 C.2.2.2.2 (gd_V w_1269 w_1270 w_1271 w_114 w_1272) rfl rfl rfl cdX10_suspects ⟨Nat.le_of_ble_eq_true rfl, Nat.le_of_ble_eq_true rfl⟩) rfl hl.1 (Nat.le_of_ble_eq_true rfl) dL_law_1018 ⟨rmc (by omega), rms (by omega)⟩ (fun r1018 u1018 H locs hh hw => ?_) rfl
        refine lv_pop C.1 C.2.1 dL_law_1021 rfl ?_
        refine lv_aload_n C.1 C.2.1 dL_law_1022 rfl (lv_at hl 2 rfl) ?_
        refine lv_aload_n C.1 C.2.1 dL_law_1023 rfl (lv_at hl 0 rfl) ?_
        refine lv_iload C.1 C.2.1 dL_law_1024 (lv_at hl 4 rfl) ?_
        refine lv_iconst (v := (1 : Int32)) C.1 C.2.1 dL_law_1026 (by decide) ?_
        refine lv_iadd C.1 C.2.1 dL_law_1027 ?_
        obtain ⟨hi1028, hh⟩ := hh
        refine va_sld C.1 C.2.1 hX hbl hbA hw.2.2.2.1 hi1028 dL_law_1028 ?_
        refine lv_aload_n C.1 C.2.1 dL_law_1029 rfl (lv_at hl 0 rfl) ?_
        refine lv_iload C.1 C.2.1 dL_law_1030 (lv_at hl 4 rfl) ?_
        refine lv_iconst (v := (2 : Int32)) C.1 C.2.1 dL_law_1032 (by decide) ?_
        refine lv_iadd C.1 C.2.1 dL_law_1033 ?_
        obtain ⟨hi1034, hh⟩ := hh
        refine va_sld C.1 C.2.1 hX hbl hbA hw.2.2.2.1 hi1034 dL_law_1034 ?_
        refine lm_Vi C hw (ctX11_suspects l D o hm cI cZ f g (xs (ix (x4 + (1 : Int32)))) (xs (ix (x4 + (2 : Int32)))) hh) (cwV 2 C.2.2.2.2 (gd_V w_2021 w_2022 w_2023 w_125 w_2024) rfl rfl rfl cdX11_suspects ⟨Nat.le_of_ble_eq_true rfl, Nat.le_of_ble_eq_true rfl⟩) rfl hl.1 (Nat.le_of_ble_eq_true rfl) dL_law_1035 ⟨rmc (by omega), rms (by omega)⟩ (fun r1035 u1035 H locs hh hw => ?_) rfl
        refine lv_pop C.1 C.2.1 dL_law_1038 rfl ?_
        refine lv_goto (tgt := 1154) C.1 C.2.1 dL_law_1039 (by decide) ?_
        first | exact tL_lawX_b1154 C hR hX hbl hbA hT hZ hl0 hcc hsc hB23 hh hw hl | exact W.widen (Nat.le_succ _) (Nat.le_add_right _ 6) (tL_lawX_b1154 C hR hX hbl hbA hT hZ hl0 hcc hsc hB23 hh hw hl)
      · replace hh := hh.2.2.2.2.2.2.2.2.2.2.2.2.2.2.2.2.2.2.2.2.2.2.2.2.2.2.2.1 (sw_eq hv (by decide))
        refine lv_tableIn (off := 1002) (tgt := 1042) C.1 C.2.1 dL_law_40 hlo hhi (by rw [hv]; rfl) (by decide) ?_
        refine lv_aload_n C.1 C.2.1 dL_law_1042 rfl (lv_at hl 1 rfl) ?_
        refine lv_aload_n C.1 C.2.1 dL_law_1043 rfl (lv_at hl 0 rfl) ?_
        refine lv_iload C.1 C.2.1 dL_law_1044 (lv_at hl 4 rfl) ?_
        refine lv_iconst (v := (1 : Int32)) C.1 C.2.1 dL_law_1046 (by decide) ?_
        refine lv_iadd C.1 C.2.1 dL_law_1047 ?_
        obtain ⟨hi1048, hh⟩ := hh
        refine va_sld C.1 C.2.1 hX hbl hbA hw.2.2.2.1 hi1048 dL_law_1048 ?_
        refine lv_aload_n C.1 C.2.1 dL_law_1049 rfl (lv_at hl 0 rfl) ?_
        refine lv_iload C.1 C.2.1 dL_law_1050 (lv_at hl 4 rfl) ?_
        refine lv_iconst (v := (2 : Int32)) C.1 C.2.1 dL_law_1052 (by decide) ?_
        refine lv_iadd C.1 C.2.1 dL_law_1053 ?_
        obtain ⟨hi1054, hh⟩ := hh
        refine va_sld C.1 C.2.1 hX hbl hbA hw.2.2.2.1 hi1054 dL_law_1054 ?_
        refine lx_Vi C hw (ctX10_trial l D h cI cL cF cM F L r (xs (ix (x4 + (1 : Int32)))) (xs (ix (x4 + (2 : Int32)))) hh) (cwV 2 C.2.2.2.2 (gd_V w_1290 w_1291 w_1292 w_114 w_1293) rfl rfl rfl cdX10_trial ⟨Nat.le_of_ble_eq_true rfl, Nat.le_of_ble_eq_true rfl⟩) rfl hl.1 (Nat.le_of_ble_eq_true rfl) dL_law_1055 ⟨rmc (by omega), rms (by omega)⟩ (fun r1055 u1055 H locs hh hw => ?_) rfl
        refine lv_pop C.1 C.2.1 dL_law_1058 rfl ?_
        refine lv_aload_n C.1 C.2.1 dL_law_1059 rfl (lv_at hl 2 rfl) ?_
        refine lv_aload_n C.1 C.2.1 dL_law_1060 rfl (lv_at hl 0 rfl) ?_
        refine lv_iload C.1 C.2.1 dL_law_1061 (lv_at hl 4 rfl) ?_
        refine lv_iconst (v := (1 : Int32)) C.1 C.2.1 dL_law_1063 (by decide) ?_
        refine lv_iadd C.1 C.2.1 dL_law_1064 ?_
        obtain ⟨hi1065, hh⟩ := hh
        refine va_sld C.1 C.2.1 hX hbl hbA hw.2.2.2.1 hi1065 dL_law_1065 ?_
        refine lv_aload_n C.1 C.2.1 dL_law_1066 rfl (lv_at hl 0 rfl) ?_
        refine lv_iload C.1 C.2.1 dL_law_1067 (lv_at hl 4 rfl) ?_
        refine lv_iconst (v := (2 : Int32)) C.1 C.2.1 dL_law_1069 (by decide) ?_
        refine lv_iadd C.1 C.2.1 dL_law_1070 ?_
        obtain ⟨hi1071, hh⟩ := hh
        refine va_sld C.1 C.2.1 hX hbl hbA hw.2.2.2.1 hi1071 dL_law_1071 ?_
        refine lm_Vi C hw (ctX11_trial l D o hm cI cZ f g (xs (ix (x4 + (1 : Int32)))) (xs (ix (x4 + (2 : Int32)))) hh) (cwV 2 C.2.2.2.2 (gd_V w_2045 w_2046 w_2047 w_125 w_2048) rfl rfl rfl cdX11_trial ⟨Nat.le_of_ble_eq_true rfl, Nat.le_of_ble_eq_true rfl⟩) rfl hl.1 (Nat.le_of_ble_eq_true rfl) dL_law_1072 ⟨rmc (by omega), rms (by omega)⟩ (fun r1072 u1072 H locs hh hw => ?_) rfl
        refine lv_pop C.1 C.2.1 dL_law_1075 rfl ?_
        refine lv_goto (tgt := 1154) C.1 C.2.1 dL_law_1076 (by decide) ?_
        first | exact tL_lawX_b1154 C hR hX hbl hbA hT hZ hl0 hcc hsc hB23 hh hw hl | exact W.widen (Nat.le_succ _) (Nat.le_add_right _ 6) (tL_lawX_b1154 C hR hX hbl hbA hT hZ hl0 hcc hsc hB23 hh hw hl)
      · replace hh := hh.2.2.2.2.2.2.2.2.2.2.2.2.2.2.2.2.2.2.2.2.2.2.2.2.2.2.2.2.1 (sw_eq hv (by decide))
        refine lv_tableIn (off := 1039) (tgt := 1079) C.1 C.2.1 dL_law_40 hlo hhi (by rw [hv]; rfl) (by decide) ?_
        refine lv_aload_n C.1 C.2.1 dL_law_1079 rfl (lv_at hl 1 rfl) ?_
        refine lv_aload_n C.1 C.2.1 dL_law_1080 rfl (lv_at hl 0 rfl) ?_
        refine lv_iload C.1 C.2.1 dL_law_1081 (lv_at hl 4 rfl) ?_
        refine lv_iconst (v := (1 : Int32)) C.1 C.2.1 dL_law_1083 (by decide) ?_
        refine lv_iadd C.1 C.2.1 dL_law_1084 ?_
        obtain ⟨hi1085, hh⟩ := hh
        refine va_sld C.1 C.2.1 hX hbl hbA hw.2.2.2.1 hi1085 dL_law_1085 ?_
        refine lx_Vi C hw (ctX10_keep l D h cI cL cF cM F L r (xs (ix (x4 + (1 : Int32)))) hh) (cwV 1 C.2.2.2.2 (gd_V w_1319 w_1320 w_1321 w_114 w_1322) rfl rfl rfl cdX10_keep ⟨Nat.le_of_ble_eq_true rfl, Nat.le_of_ble_eq_true rfl⟩) rfl hl.1 (Nat.le_of_ble_eq_true rfl) dL_law_1086 ⟨rmc (by omega), rms (by omega)⟩ (fun r1086 u1086 H locs hh hw => ?_) rfl
        refine lv_aload_n C.1 C.2.1 dL_law_1089 rfl (lv_at hl 2 rfl) ?_
        refine lv_aload_n C.1 C.2.1 dL_law_1090 rfl (lv_at hl 0 rfl) ?_
        refine lv_iload C.1 C.2.1 dL_law_1091 (lv_at hl 4 rfl) ?_
        refine lv_iconst (v := (1 : Int32)) C.1 C.2.1 dL_law_1093 (by decide) ?_
        refine lv_iadd C.1 C.2.1 dL_law_1094 ?_
        obtain ⟨hi1095, hh⟩ := hh
        refine va_sld C.1 C.2.1 hX hbl hbA hw.2.2.2.1 hi1095 dL_law_1095 ?_
        refine lm_Vi C hw (ctX11_keep l D o hm cI cZ f g (xs (ix (x4 + (1 : Int32)))) hh) (cwV 1 C.2.2.2.2 (gd_V w_1890 w_1891 w_1892 w_125 w_1893) rfl rfl rfl cdX11_keep ⟨Nat.le_of_ble_eq_true rfl, Nat.le_of_ble_eq_true rfl⟩) rfl hl.1 (Nat.le_of_ble_eq_true rfl) dL_law_1096 ⟨rmc (by omega), rms (by omega)⟩ (fun r1096 u1096 H locs hh hw => ?_) rfl
        refine lv_icmp_eq (tgt := 1154) C.1 C.2.1 dL_law_1099 (by decide) (fun c1099 => ?_) (fun c1099 => ?_)
        · replace hh := hh.1 c1099
          first | exact tL_lawX_b1154 C hR hX hbl hbA hT hZ hl0 hcc hsc hB23 hh hw hl | exact W.widen (Nat.le_succ _) (Nat.le_add_right _ 6) (tL_lawX_b1154 C hR hX hbl hbA hT hZ hl0 hcc hsc hB23 hh hw hl)
        · replace hh := hh.2 c1099
          refine lv_iconst (v := (0 : Int32)) C.1 C.2.1 dL_law_1102 (by decide) ?_
          exact hR _ _ (by omega) (by omega) _ _ _ ((u1086.1, u1086.2.1, u1086.2.2), (u1096.1, u1096.2), ou) _ _ dL_law_1103 rfl hh hw
      · replace hh := hh.2.2.2.2.2.2.2.2.2.2.2.2.2.2.2.2.2.2.2.2.2.2.2.2.2.2.2.2.2.1 (sw_eq hv (by decide))
        refine lv_tableIn (off := 1064) (tgt := 1104) C.1 C.2.1 dL_law_40 hlo hhi (by rw [hv]; rfl) (by decide) ?_
        refine lv_aload_n C.1 C.2.1 dL_law_1104 rfl (lv_at hl 1 rfl) ?_
        refine lv_aload_n C.1 C.2.1 dL_law_1105 rfl (lv_at hl 0 rfl) ?_
        refine lv_iload C.1 C.2.1 dL_law_1106 (lv_at hl 4 rfl) ?_
        refine lv_iconst (v := (1 : Int32)) C.1 C.2.1 dL_law_1108 (by decide) ?_
        refine lv_iadd C.1 C.2.1 dL_law_1109 ?_
        obtain ⟨hi1110, hh⟩ := hh
        refine va_sld C.1 C.2.1 hX hbl hbA hw.2.2.2.1 hi1110 dL_law_1110 ?_
        refine lx_Vi C hw (ctX10_restore l D h cI cL cF cM F L r (xs (ix (x4 + (1 : Int32)))) hh) (cwV 1 C.2.2.2.2 (gd_V w_1325 w_1326 w_1327 w_114 w_1328) rfl rfl rfl cdX10_restore ⟨Nat.le_of_ble_eq_true rfl, Nat.le_of_ble_eq_true rfl⟩) rfl hl.1 (Nat.le_of_ble_eq_true rfl) dL_law_1111 ⟨rmc (by omega), rms (by omega)⟩ (fun r1111 u1111 H locs hh hw => ?_) rfl
        refine lv_pop C.1 C.2.1 dL_law_1114 rfl ?_
        refine lv_aload_n C.1 C.2.1 dL_law_1115 rfl (lv_at hl 2 rfl) ?_
        refine lv_aload_n C.1 C.2.1 dL_law_1116 rfl (lv_at hl 0 rfl) ?_
        refine lv_iload C.1 C.2.1 dL_law_1117 (lv_at hl 4 rfl) ?_
        refine lv_iconst (v := (1 : Int32)) C.1 C.2.1 dL_law_1119 (by decide) ?_
        refine lv_iadd C.1 C.2.1 dL_law_1120 ?_
        obtain ⟨hi1121, hh⟩ := hh
        refine va_sld C.1 C.2.1 hX hbl hbA hw.2.2.2.1 hi1121 dL_law_1121 ?_
        refine lm_Vi C hw (ctX11_restore l D o hm cI cZ f g (xs (ix (x4 + (1 : Int32)))) hh) (cwV 1 C.2.2.2.2 (gd_V w_1898 w_1899 w_1900 w_125 w_1901) rfl rfl rfl cdX11_restore ⟨Nat.le_of_ble_eq_true rfl, Nat.le_of_ble_eq_true rfl⟩) rfl hl.1 (Nat.le_of_ble_eq_true rfl) dL_law_1122 ⟨rmc (by omega), rms (by omega)⟩ (fun r1122 u1122 H locs hh hw => ?_) rfl
        refine lv_pop C.1 C.2.1 dL_law_1125 rfl ?_
        refine lv_goto (tgt := 1154) C.1 C.2.1 dL_law_1126 (by decide) ?_
        first | exact tL_lawX_b1154 C hR hX hbl hbA hT hZ hl0 hcc hsc hB23 hh hw hl | exact W.widen (Nat.le_succ _) (Nat.le_add_right _ 6) (tL_lawX_b1154 C hR hX hbl hbA hT hZ hl0 hcc hsc hB23 hh hw hl)
      · replace hh := hh.2.2.2.2.2.2.2.2.2.2.2.2.2.2.2.2.2.2.2.2.2.2.2.2.2.2.2.2.2.2.1 (sw_eq hv (by decide))
        refine lv_tableIn (off := 1089) (tgt := 1129) C.1 C.2.1 dL_law_40 hlo hhi (by rw [hv]; rfl) (by decide) ?_
        refine lv_aload_n C.1 C.2.1 dL_law_1129 rfl (lv_at hl 1 rfl) ?_
        refine lv_aload_n C.1 C.2.1 dL_law_1130 rfl (lv_at hl 0 rfl) ?_
        refine lv_iload C.1 C.2.1 dL_law_1131 (lv_at hl 4 rfl) ?_
        refine lv_iconst (v := (1 : Int32)) C.1 C.2.1 dL_law_1133 (by decide) ?_
        refine lv_iadd C.1 C.2.1 dL_law_1134 ?_
        obtain ⟨hi1135, hh⟩ := hh
        refine va_sld C.1 C.2.1 hX hbl hbA hw.2.2.2.1 hi1135 dL_law_1135 ?_
        refine lx_Vi C hw (ctX10_count l D h cI cL cF cM F L r (xs (ix (x4 + (1 : Int32)))) hh) (cwV 1 C.2.2.2.2 (gd_V w_1330 w_1331 w_1332 w_114 w_1333) rfl rfl rfl cdX10_count ⟨Nat.le_of_ble_eq_true rfl, Nat.le_of_ble_eq_true rfl⟩) rfl hl.1 (Nat.le_of_ble_eq_true rfl) dL_law_1136 ⟨rmc (by omega), rms (by omega)⟩ (fun r1136 u1136 H locs hh hw => ?_) rfl
        refine lv_pop C.1 C.2.1 dL_law_1139 rfl ?_
        refine lv_aload_n C.1 C.2.1 dL_law_1140 rfl (lv_at hl 2 rfl) ?_
        refine lv_aload_n C.1 C.2.1 dL_law_1141 rfl (lv_at hl 0 rfl) ?_
        refine lv_iload C.1 C.2.1 dL_law_1142 (lv_at hl 4 rfl) ?_
        refine lv_iconst (v := (1 : Int32)) C.1 C.2.1 dL_law_1144 (by decide) ?_
        refine lv_iadd C.1 C.2.1 dL_law_1145 ?_
        obtain ⟨hi1146, hh⟩ := hh
        refine va_sld C.1 C.2.1 hX hbl hbA hw.2.2.2.1 hi1146 dL_law_1146 ?_
        refine lm_Vi C hw (ctX11_count l D o hm cI cZ f g (xs (ix (x4 + (1 : Int32)))) hh) (cwV 1 C.2.2.2.2 (gd_V w_2052 w_2053 w_2054 w_125 w_2055) rfl rfl rfl cdX11_count ⟨Nat.le_of_ble_eq_true rfl, Nat.le_of_ble_eq_true rfl⟩) rfl hl.1 (Nat.le_of_ble_eq_true rfl) dL_law_1147 ⟨rmc (by omega), rms (by omega)⟩ (fun r1147 u1147 H locs hh hw => ?_) rfl
        refine lv_pop C.1 C.2.1 dL_law_1150 rfl ?_
        refine lv_goto (tgt := 1154) C.1 C.2.1 dL_law_1151 (by decide) ?_
        first | exact tL_lawX_b1154 C hR hX hbl hbA hT hZ hl0 hcc hsc hB23 hh hw hl | exact W.widen (Nat.le_succ _) (Nat.le_add_right _ 6) (tL_lawX_b1154 C hR hX hbl hbA hT hZ hl0 hcc hsc hB23 hh hw hl)
    · replace hh := hh.2.2.2.2.2.2.2.2.2.2.2.2.2.2.2.2.2.2.2.2.2.2.2.2.2.2.2.2.2.2.2 ho
      refine lv_tableOut (tgt := 1154) C.1 C.2.1 dL_law_40 ho (by decide) ?_
      first | exact tL_lawX_b1154 C hR hX hbl hbA hT hZ hl0 hcc hsc hB23 hh hw hl | exact W.widen (Nat.le_succ _) (Nat.le_add_right _ 6) (tL_lawX_b1154 C hR hX hbl hbA hT hZ hl0 hcc hsc hB23 hh hw hl)
def wpL_lawX_b23 (N : Nat) (xs : Nat → Int32) (n_ : Nat) (F : Nat → Nat → Int32) (L : Nat → Nat → Int64) (r : Nat → Nat → Nat) (f : Nat → Int32) (g : Nat → Nat → Int32) (ou : Nat → Int64) (x4 : Int32) (K : Int32 → lS → Prop) : Prop := match n_ with
  | 0 => False
  | n + 1 => wpL_lawX_b23_body (fun F L r f g ou x4 => wpL_lawX_b23 N xs n F L r f g ou x4 K) N xs F L r f g ou x4 K
theorem tL_lawX_b23 {N : Nat} {xs : Nat → Int32} {K : Int32 → lS → Prop} (C : CallFix p m c code 7 s args (Cond.initialized RX10 :: WL) RL) (hR : ∀ ca sa : Nat, ca ≤ 601024 → sa ≤ 7293034 → LRt ca sa p l e room_1 s m args below meth c code D A (T0 cI cZ cL cF cM) (lWu h o hm q cI cZ cL cF cM) K Q) (hX : va_X b N xs s s.heap) (hbl : b < s.heap.size) (hbA : ¬ A b) (hT : EXt s) (hZ : Zs A s s.heap) (hl0 : l.stackTraces = false) (n : Nat) : ∀ (cc sc : Nat), cc + n ≤ 601024 → sc + 6 * n ≤ 7293034 → ∀ (F : Nat → Nat → Int32) (L : Nat → Nat → Int64) (r : Nat → Nat → Nat) (f : Nat → Int32) (g : Nat → Nat → Int32) (ou : Nat → Int64) (x4 : Int32) (H : Heap) (locs : List Loc) (ls : Array Slot), wpL_lawX_b23 N xs n F L r f g ou x4 K → Wd D A s (T0 cI cZ cL cF cM) (lW h o hm q cI cZ cL cF cM F L r f g ou) H locs → lv_has ls 7 [(0, .ref b), (1, .ref (h 0)), (2, .ref o), (3, .ref q), (4, .int x4)] → W p l e room_1 s m args below meth c H locs cc sc Q (F0 m 23 ls []) := by
  induction n with
  | zero => intro cc sc _ _ F L r f g ou x4 H locs ls hh; exact hh.elim
  | succ n ih => intro cc sc hcc hsc F L r f g ou x4 H locs ls hh hw hl; exact tL_lawX_b23_body C hR hX hbl hbA hT hZ hl0 (by omega) (by omega) (fun F L r f g ou x4 H locs ls hh hw hl => ih (cc + 1) (sc + 6) (by omega) (by omega) F L r f g ou x4 H locs ls hh hw hl) hh hw hl
end
