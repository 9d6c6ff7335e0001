section
variable {p : Program} {l : Launch} {e : Env} {s : State} {m : MethodId} {args : Array Value} {below : List Frame} {meth : Method} {c : Code} {D : va_G} {A : Nat → Prop} {o : Nat} {h : Nat → Nat} {cI cZ : ClassId} {Q : State → Prop}
abbrev rmX11_begins : Room := { frames := 2, cells := 0, slots := 0, locals := 41 }
def wpX11_begins_b95_body (B95 : (Nat → Int32) → (Nat → Nat → Int32) → Int32 → Prop) (f : Nat → Int32) (g : Nat → Nat → Int32) (x3 : Int32) (K : ((Nat → Int32) × (Nat → Nat → Int32)) → Prop) : Prop :=
  (((4 : Int32) ≤ x3) →
    K (f, g)) ∧
  (¬ ((4 : Int32) ≤ x3) →
    vp_in x3 4 ∧ B95 f (pt g 56 (ix x3) (vp_nar .boolean (0 : Int32))) (x3 + (1 : Int32)))
set_option maxHeartbeats 4000000 in
set_option maxRecDepth 100000 in
theorem tX11_begins_b95_body {B95 : (Nat → Int32) → (Nat → Nat → Int32) → Int32 → Prop} {K : ((Nat → Int32) × (Nat → Nat → Int32)) → Prop} (C : CallFix p m c cX11_begins 4 s args wsX11_begins RX11) (hR : Rtv p l e rmX11_begins s m args below meth c cX11_begins D A (mT cI cZ) (mWu o h cI cZ) K Q) (hB95 : ∀ (f : Nat → Int32) (g : Nat → Nat → Int32) (x3 : Int32) (H : Heap) (locs : List Loc) (ls : Array Slot), B95 f g x3 → Wd D A s (mT cI cZ) (mW o h cI cZ f g) H locs → lv_has ls 4 [(0, .ref o), (3, .int x3)] → W p l e rmX11_begins s m args below meth c H locs 0 0 Q (F0 m 95 ls [])) {f : Nat → Int32} {g : Nat → Nat → Int32} {x3 : Int32} (hh : wpX11_begins_b95_body B95 f g x3 K) {H : Heap} {locs : List Loc} {ls : Array Slot} (hw : Wd D A s (mT cI cZ) (mW o h cI cZ f g) H locs) (hl : lv_has ls 4 [(0, .ref o), (3, .int x3)]) : W p l e rmX11_begins s m args below meth c H locs 0 0 Q (F0 m 95 ls []) := by
  unfold wpX11_begins_b95_body at hh
  refine lv_iload_n C.1 C.2.1 dX11_begins_95 rfl (lv_at hl 1 rfl) ?_
  refine lv_iconst (v := (4 : Int32)) C.1 C.2.1 dX11_begins_96 (by decide) ?_
  refine lv_icmp_ge (tgt := 113) C.1 C.2.1 dX11_begins_97 (by decide) (fun c97 => ?_) (fun c97 => ?_)
  · replace hh := hh.1 c97
    exact hR _ _ (f, g) _ _ dX11_begins_113 hh hw
  · replace hh := hh.2 c97
    refine lv_aload_n C.1 C.2.1 dX11_begins_100 rfl (lv_at hl 0 rfl) ?_
    refine m_ga C hw (inC inW11) 56 (by decide) (wc w_1518) mg_56 dX11_begins_101 ?_
    refine lv_iload_n C.1 C.2.1 dX11_begins_104 rfl (lv_at hl 1 rfl) ?_
    refine lv_iconst (v := (0 : Int32)) C.1 C.2.1 dX11_begins_105 (by decide) ?_
    obtain ⟨hi106, hh⟩ := hh
    refine m_zas C hw mp_56 mq_56 hi106 dX11_begins_106 (fun H locs hw => ?_)
    refine lv_iinc (v := x3 + (1 : Int32)) (lv' := [(3, .int (x3 + (1 : Int32))), (0, .ref o)]) C.1 C.2.1 dX11_begins_107 hl (k := 1) rfl rfl (by decide) rfl (fun ls hl => ?_)
    refine lv_goto (tgt := 95) C.1 C.2.1 dX11_begins_110 (by decide) ?_
    exact hB95 _ _ _ _ _ _ hh hw (lv_sub hl [1, 0] rfl)
def wpX11_begins_b95 (n_ : Nat) (f : Nat → Int32) (g : Nat → Nat → Int32) (x3 : Int32) (K : ((Nat → Int32) × (Nat → Nat → Int32)) → Prop) : Prop := match n_ with
  | 0 => False
  | n + 1 => wpX11_begins_b95_body (fun f g x3 => wpX11_begins_b95 n f g x3 K) f g x3 K
theorem tX11_begins_b95 {K : ((Nat → Int32) × (Nat → Nat → Int32)) → Prop} (C : CallFix p m c cX11_begins 4 s args wsX11_begins RX11) (hR : Rtv p l e rmX11_begins s m args below meth c cX11_begins D A (mT cI cZ) (mWu o h cI cZ) K Q) (n : Nat) : ∀ (f : Nat → Int32) (g : Nat → Nat → Int32) (x3 : Int32) (H : Heap) (locs : List Loc) (ls : Array Slot), wpX11_begins_b95 n f g x3 K → Wd D A s (mT cI cZ) (mW o h cI cZ f g) H locs → lv_has ls 4 [(0, .ref o), (3, .int x3)] → W p l e rmX11_begins s m args below meth c H locs 0 0 Q (F0 m 95 ls []) := by
  induction n with
  | zero => intro f g x3 H locs ls hh; exact hh.elim
  | succ n ih => intro f g x3 H locs ls hh hw hl; exact tX11_begins_b95_body C hR ih hh hw hl
def wpX11_begins_b58_body (B58 : (Nat → Int32) → (Nat → Nat → Int32) → Int32 → Prop) (f : Nat → Int32) (g : Nat → Nat → Int32) (x3 : Int32) (K : ((Nat → Int32) × (Nat → Nat → Int32)) → Prop) : Prop :=
  (((36 : Int32) ≤ x3) →
    wpX11_forgets (upd f 51 (-1 : Int32)) g  (fun u90 =>
      ∃ n, wpX11_begins_b95 n u90.1 u90.2 (0 : Int32) K)) ∧
  (¬ ((36 : Int32) ≤ x3) →
    vp_in x3 36 ∧ vp_in x3 36 ∧ B58 f (pt (pt g 47 (ix x3) (0 : Int32)) 48 (ix x3) (0 : Int32)) (x3 + (1 : Int32)))
set_option maxHeartbeats 4000000 in
set_option maxRecDepth 100000 in
theorem tX11_begins_b58_body {B58 : (Nat → Int32) → (Nat → Nat → Int32) → Int32 → Prop} {K : ((Nat → Int32) × (Nat → Nat → Int32)) → Prop} (C : CallFix p m c cX11_begins 4 s args wsX11_begins RX11) (hR : Rtv p l e rmX11_begins s m args below meth c cX11_begins D A (mT cI cZ) (mWu o h cI cZ) K Q) (hB58 : ∀ (f : Nat → Int32) (g : Nat → Nat → Int32) (x3 : Int32) (H : Heap) (locs : List Loc) (ls : Array Slot), B58 f g x3 → Wd D A s (mT cI cZ) (mW o h cI cZ f g) H locs → lv_has ls 4 [(0, .ref o), (3, .int x3)] → W p l e rmX11_begins s m args below meth c H locs 0 0 Q (F0 m 58 ls [])) {f : Nat → Int32} {g : Nat → Nat → Int32} {x3 : Int32} (hh : wpX11_begins_b58_body B58 f g x3 K) {H : Heap} {locs : List Loc} {ls : Array Slot} (hw : Wd D A s (mT cI cZ) (mW o h cI cZ f g) H locs) (hl : lv_has ls 4 [(0, .ref o), (3, .int x3)]) : W p l e rmX11_begins s m args below meth c H locs 0 0 Q (F0 m 58 ls []) := by
  unfold wpX11_begins_b58_body at hh
  refine lv_iload_n C.1 C.2.1 dX11_begins_58 rfl (lv_at hl 1 rfl) ?_
  refine lv_bipush (v := (36 : Int32)) C.1 C.2.1 dX11_begins_59 (by decide) ?_
  refine lv_icmp_ge (tgt := 84) C.1 C.2.1 dX11_begins_61 (by decide) (fun c61 => ?_) (fun c61 => ?_)
  · replace hh := hh.1 c61
    refine lv_aload_n C.1 C.2.1 dX11_begins_84 rfl (lv_at hl 0 rfl) ?_
    refine lv_iconst (v := (-1 : Int32)) C.1 C.2.1 dX11_begins_85 (by decide) ?_
    refine m_pi C hw (inC inW11) 51 (by decide) (wc w_1513) rfl (ty := .int) (by decide +kernel) rfl rfl (Nat.le_of_ble_eq_true rfl) ms_51 dX11_begins_86 (fun H locs hw => ?_)
    refine lv_aload_n C.1 C.2.1 dX11_begins_89 rfl (lv_at hl 0 rfl) ?_
    refine m_Vv C hw (ctX11_forgets l D o h cI cZ (upd f 51 (-1 : Int32)) g  hh) (cwV 0 C.2.2.2.2 (gd_V w_1458 w_1460 w_55 w_125 w_1461) rfl rfl rfl cdX11_forgets ⟨Nat.le_of_ble_eq_true rfl, Nat.le_of_ble_eq_true rfl⟩) rfl hl.1 (Nat.le_of_ble_eq_true rfl) dX11_begins_90 ⟨Nat.zero_le _, Nat.zero_le _⟩ (fun u90 H locs hh hw => ?_) rfl
    refine lv_iconst (v := (0 : Int32)) C.1 C.2.1 dX11_begins_93 (by decide) ?_
    refine lv_istore_n (lv' := [(3, .int (0 : Int32)), (0, .ref o)]) C.1 C.2.1 dX11_begins_94 rfl hl (by decide) rfl (fun ls hl => ?_)
    obtain ⟨n, hh⟩ := hh
    exact tX11_begins_b95 C hR n _ _ _ _ _ _ hh hw (lv_sub hl [1, 0] rfl)
  · replace hh := hh.2 c61
    refine lv_aload_n C.1 C.2.1 dX11_begins_64 rfl (lv_at hl 0 rfl) ?_
    refine m_ga C hw (inC inW11) 47 (by decide) (wc w_1509) mg_47 dX11_begins_65 ?_
    refine lv_iload_n C.1 C.2.1 dX11_begins_68 rfl (lv_at hl 1 rfl) ?_
    refine lv_iconst (v := (0 : Int32)) C.1 C.2.1 dX11_begins_69 (by decide) ?_
    obtain ⟨hi70, hh⟩ := hh
    refine m_ias C hw mp_47 mq_47 hi70 dX11_begins_70 (fun H locs hw => ?_)
    refine lv_aload_n C.1 C.2.1 dX11_begins_71 rfl (lv_at hl 0 rfl) ?_
    refine m_ga C hw (inC inW11) 48 (by decide) (wc w_1510) mg_48 dX11_begins_72 ?_
    refine lv_iload_n C.1 C.2.1 dX11_begins_75 rfl (lv_at hl 1 rfl) ?_
    refine lv_iconst (v := (0 : Int32)) C.1 C.2.1 dX11_begins_76 (by decide) ?_
    obtain ⟨hi77, hh⟩ := hh
    refine m_ias C hw mp_48 mq_48 hi77 dX11_begins_77 (fun H locs hw => ?_)
    refine lv_iinc (v := x3 + (1 : Int32)) (lv' := [(3, .int (x3 + (1 : Int32))), (0, .ref o)]) C.1 C.2.1 dX11_begins_78 hl (k := 1) rfl rfl (by decide) rfl (fun ls hl => ?_)
    refine lv_goto (tgt := 58) C.1 C.2.1 dX11_begins_81 (by decide) ?_
    exact hB58 _ _ _ _ _ _ hh hw (lv_sub hl [1, 0] rfl)
def wpX11_begins_b58 (n_ : Nat) (f : Nat → Int32) (g : Nat → Nat → Int32) (x3 : Int32) (K : ((Nat → Int32) × (Nat → Nat → Int32)) → Prop) : Prop := match n_ with
  | 0 => False
  | n + 1 => wpX11_begins_b58_body (fun f g x3 => wpX11_begins_b58 n f g x3 K) f g x3 K
theorem tX11_begins_b58 {K : ((Nat → Int32) × (Nat → Nat → Int32)) → Prop} (C : CallFix p m c cX11_begins 4 s args wsX11_begins RX11) (hR : Rtv p l e rmX11_begins s m args below meth c cX11_begins D A (mT cI cZ) (mWu o h cI cZ) K Q) (n : Nat) : ∀ (f : Nat → Int32) (g : Nat → Nat → Int32) (x3 : Int32) (H : Heap) (locs : List Loc) (ls : Array Slot), wpX11_begins_b58 n f g x3 K → Wd D A s (mT cI cZ) (mW o h cI cZ f g) H locs → lv_has ls 4 [(0, .ref o), (3, .int x3)] → W p l e rmX11_begins s m args below meth c H locs 0 0 Q (F0 m 58 ls []) := by
  induction n with
  | zero => intro f g x3 H locs ls hh; exact hh.elim
  | succ n ih => intro f g x3 H locs ls hh hw hl; exact tX11_begins_b58_body C hR ih hh hw hl
def wpX11_begins_b0 (f : Nat → Int32) (g : Nat → Nat → Int32) (x1 : Int32) (x2 : Int32) (K : ((Nat → Int32) × (Nat → Nat → Int32)) → Prop) : Prop :=
  wpX11_plainWalls (upd (upd (upd (upd (upd (upd (upd (upd f 38 x1) 39 x2) 40 ((x1 * x2) - (1 : Int32))) 41 (0 : Int32)) 42 (0 : Int32)) 43 (0 : Int32)) 44 (0 : Int32)) 45 ((f 49) &&& (f 50))) g  (fun u53 =>
    ∃ n, wpX11_begins_b58 n u53.1 u53.2 (0 : Int32) K)
set_option maxHeartbeats 4000000 in
set_option maxRecDepth 100000 in
theorem tX11_begins_b0 {K : ((Nat → Int32) × (Nat → Nat → Int32)) → Prop} (C : CallFix p m c cX11_begins 4 s args wsX11_begins RX11) (hR : Rtv p l e rmX11_begins s m args below meth c cX11_begins D A (mT cI cZ) (mWu o h cI cZ) K Q) {f : Nat → Int32} {g : Nat → Nat → Int32} {x1 : Int32} {x2 : Int32} (hh : wpX11_begins_b0 f g x1 x2 K) {H : Heap} {locs : List Loc} {ls : Array Slot} (hw : Wd D A s (mT cI cZ) (mW o h cI cZ f g) H locs) (hl : lv_has ls 4 [(0, .ref o), (1, .int x1), (2, .int x2)]) : W p l e rmX11_begins s m args below meth c H locs 0 0 Q (F0 m 0 ls []) := by
  unfold wpX11_begins_b0 at hh
  refine lv_aload_n C.1 C.2.1 dX11_begins_0 rfl (lv_at hl 0 rfl) ?_
  refine lv_iload_n C.1 C.2.1 dX11_begins_1 rfl (lv_at hl 1 rfl) ?_
  refine m_pi C hw (inC inW11) 38 (by decide) (wc w_1500) rfl (ty := .int) (by decide +kernel) rfl rfl (Nat.le_of_ble_eq_true rfl) ms_38 dX11_begins_2 (fun H locs hw => ?_)
  refine lv_aload_n C.1 C.2.1 dX11_begins_5 rfl (lv_at hl 0 rfl) ?_
  refine lv_iload_n C.1 C.2.1 dX11_begins_6 rfl (lv_at hl 2 rfl) ?_
  refine m_pi C hw (inC inW11) 39 (by decide) (wc w_1501) rfl (ty := .int) (by decide +kernel) rfl rfl (Nat.le_of_ble_eq_true rfl) ms_39 dX11_begins_7 (fun H locs hw => ?_)
  refine lv_aload_n C.1 C.2.1 dX11_begins_10 rfl (lv_at hl 0 rfl) ?_
  refine lv_iload_n C.1 C.2.1 dX11_begins_11 rfl (lv_at hl 1 rfl) ?_
  refine lv_iload_n C.1 C.2.1 dX11_begins_12 rfl (lv_at hl 2 rfl) ?_
  refine lv_imul C.1 C.2.1 dX11_begins_13 ?_
  refine lv_iconst (v := (1 : Int32)) C.1 C.2.1 dX11_begins_14 (by decide) ?_
  refine lv_isub C.1 C.2.1 dX11_begins_15 ?_
  refine m_pi C hw (inC inW11) 40 (by decide) (wc w_1502) rfl (ty := .int) (by decide +kernel) rfl rfl (Nat.le_of_ble_eq_true rfl) ms_40 dX11_begins_16 (fun H locs hw => ?_)
  refine lv_aload_n C.1 C.2.1 dX11_begins_19 rfl (lv_at hl 0 rfl) ?_
  refine lv_iconst (v := (0 : Int32)) C.1 C.2.1 dX11_begins_20 (by decide) ?_
  refine m_pi C hw (inC inW11) 41 (by decide) (wc w_1503) rfl (ty := .int) (by decide +kernel) rfl rfl (Nat.le_of_ble_eq_true rfl) ms_41 dX11_begins_21 (fun H locs hw => ?_)
  refine lv_aload_n C.1 C.2.1 dX11_begins_24 rfl (lv_at hl 0 rfl) ?_
  refine lv_iconst (v := (0 : Int32)) C.1 C.2.1 dX11_begins_25 (by decide) ?_
  refine m_pi C hw (inC inW11) 42 (by decide) (wc w_1504) rfl (ty := .int) (by decide +kernel) rfl rfl (Nat.le_of_ble_eq_true rfl) ms_42 dX11_begins_26 (fun H locs hw => ?_)
  refine lv_aload_n C.1 C.2.1 dX11_begins_29 rfl (lv_at hl 0 rfl) ?_
  refine lv_iconst (v := (0 : Int32)) C.1 C.2.1 dX11_begins_30 (by decide) ?_
  refine m_pi C hw (inC inW11) 43 (by decide) (wc w_1505) rfl (ty := .int) (by decide +kernel) rfl rfl (Nat.le_of_ble_eq_true rfl) ms_43 dX11_begins_31 (fun H locs hw => ?_)
  refine lv_aload_n C.1 C.2.1 dX11_begins_34 rfl (lv_at hl 0 rfl) ?_
  refine lv_iconst (v := (0 : Int32)) C.1 C.2.1 dX11_begins_35 (by decide) ?_
  refine m_pi C hw (inC inW11) 44 (by decide) (wc w_1506) rfl (ty := .int) (by decide +kernel) rfl rfl (Nat.le_of_ble_eq_true rfl) ms_44 dX11_begins_36 (fun H locs hw => ?_)
  refine lv_aload_n C.1 C.2.1 dX11_begins_39 rfl (lv_at hl 0 rfl) ?_
  refine lv_aload_n C.1 C.2.1 dX11_begins_40 rfl (lv_at hl 0 rfl) ?_
  refine m_gi C hw (inC inW11) 49 (by decide) (wc w_1511) mg_49 (x := f 49) rfl dX11_begins_41 ?_
  refine lv_aload_n C.1 C.2.1 dX11_begins_44 rfl (lv_at hl 0 rfl) ?_
  refine m_gi C hw (inC inW11) 50 (by decide) (wc w_1512) mg_50 (x := f 50) rfl dX11_begins_45 ?_
  refine lv_iand C.1 C.2.1 dX11_begins_48 ?_
  refine m_pi C hw (inC inW11) 45 (by decide) (wc w_1507) rfl (ty := .int) (by decide +kernel) rfl rfl (Nat.le_of_ble_eq_true rfl) ms_45 dX11_begins_49 (fun H locs hw => ?_)
  refine lv_aload_n C.1 C.2.1 dX11_begins_52 rfl (lv_at hl 0 rfl) ?_
  refine m_Vv C hw (ctX11_plainWalls l D o h cI cZ (upd (upd (upd (upd (upd (upd (upd (upd f 38 x1) 39 x2) 40 ((x1 * x2) - (1 : Int32))) 41 (0 : Int32)) 42 (0 : Int32)) 43 (0 : Int32)) 44 (0 : Int32)) 45 ((f 49) &&& (f 50))) g  hh) (cwV 0 C.2.2.2.2 (gd_V w_1450 w_1452 w_53 w_125 w_1453) rfl rfl rfl cdX11_plainWalls ⟨Nat.le_of_ble_eq_true rfl, Nat.le_of_ble_eq_true rfl⟩) rfl hl.1 (Nat.le_of_ble_eq_true rfl) dX11_begins_53 ⟨Nat.zero_le _, Nat.zero_le _⟩ (fun u53 H locs hh hw => ?_) rfl
  refine lv_iconst (v := (0 : Int32)) C.1 C.2.1 dX11_begins_56 (by decide) ?_
  refine lv_istore_n (lv' := [(3, .int (0 : Int32)), (0, .ref o), (1, .int x1), (2, .int x2)]) C.1 C.2.1 dX11_begins_57 rfl hl (by decide) rfl (fun ls hl => ?_)
  obtain ⟨n, hh⟩ := hh
  exact tX11_begins_b58 C hR n _ _ _ _ _ _ hh hw (lv_sub hl [1, 0] rfl)
def wpX11_begins (f : Nat → Int32) (g : Nat → Nat → Int32) (x1 : Int32) (x2 : Int32) (K : ((Nat → Int32) × (Nat → Nat → Int32)) → Prop) : Prop := wpX11_begins_b0 f g x1 x2 K
theorem ctX11_begins (l : Launch) (D : va_G) (o : Nat) (h : Nat → Nat) (cI cZ : ClassId) (f : Nat → Int32) (g : Nat → Nat → Int32) (x1 : Int32) (x2 : Int32) {K : ((Nat → Int32) × (Nat → Nat → Int32)) → Prop} (hh : wpX11_begins f g x1 x2 K) : Cv l yX11_begins wsX11_begins rmX11_begins [.ref o, .int x1, .int x2] D (mT cI cZ) (mWu o h cI cZ) (f, g) K := by
  refine Cv_of (cc := cX11_begins) (maxL := 4) (by decide) rfl (Nat.le_of_ble_eq_true rfl) ?_
  intro p e s m below meth c A Q C hw hR ls hl
  exact tX11_begins_b0 C hR hh hw hl
theorem cdX11_begins : yX11_begins.cls = RX11 ∧ yX11_begins.cls ≠ "java/lang/invoke/MethodHandle" ∧ yX11_begins.cls ≠ "java/lang/invoke/VarHandle" ∧ (parseMethodDescriptor yX11_begins.desc).map (fun d => d.parameters.length) = some 2 := by decide +kernel
abbrev rmX11_ahead : Room := { frames := 0, cells := 0, slots := 0, locals := 0 }
def wpX11_ahead_b41 (f : Nat → Int32) (g : Nat → Nat → Int32) (k0 : Int32) (K : Int32 → ((Nat → Int32) × (Nat → Nat → Int32)) → Prop) : Prop :=
  K k0 (f, g)
set_option maxHeartbeats 4000000 in
set_option maxRecDepth 100000 in
theorem tX11_ahead_b41 {K : Int32 → ((Nat → Int32) × (Nat → Nat → Int32)) → Prop} (C : CallFix p m c cX11_ahead 3 s args wsX11_ahead RX11) (hR : Rti .int p l e rmX11_ahead s m args below meth c cX11_ahead D A (mT cI cZ) (mWu o h cI cZ) K Q) {f : Nat → Int32} {g : Nat → Nat → Int32} {k0 : Int32} (hh : wpX11_ahead_b41 f g k0 K) {H : Heap} {locs : List Loc} {ls : Array Slot} (hw : Wd D A s (mT cI cZ) (mW o h cI cZ f g) H locs) (hl : lv_has ls 3 [(0, .ref o)]) : W p l e rmX11_ahead s m args below meth c H locs 0 0 Q (F0 m 41 ls [.int k0]) := by
  unfold wpX11_ahead_b41 at hh
  exact hR _ _ _ (f, g) _ _ dX11_ahead_41 rfl hh hw
def wpX11_ahead_b0 (f : Nat → Int32) (g : Nat → Nat → Int32) (x1 : Int32) (x2 : Int32) (K : Int32 → ((Nat → Int32) × (Nat → Nat → Int32)) → Prop) : Prop :=
  (¬ (x2 = 0) →
    (¬ (x2 = (1 : Int32)) →
      (¬ (x2 = (2 : Int32)) →
        wpX11_ahead_b41 f g (x1 - (1 : Int32)) K) ∧
      ((x2 = (2 : Int32)) →
        wpX11_ahead_b41 f g (x1 + (f 38)) K)) ∧
    ((x2 = (1 : Int32)) →
      wpX11_ahead_b41 f g (x1 + (1 : Int32)) K)) ∧
  ((x2 = 0) →
    wpX11_ahead_b41 f g (x1 - (f 38)) K)
set_option maxHeartbeats 4000000 in
set_option maxRecDepth 100000 in
theorem tX11_ahead_b0 {K : Int32 → ((Nat → Int32) × (Nat → Nat → Int32)) → Prop} (C : CallFix p m c cX11_ahead 3 s args wsX11_ahead RX11) (hR : Rti .int p l e rmX11_ahead s m args below meth c cX11_ahead D A (mT cI cZ) (mWu o h cI cZ) K Q) {f : Nat → Int32} {g : Nat → Nat → Int32} {x1 : Int32} {x2 : Int32} (hh : wpX11_ahead_b0 f g x1 x2 K) {H : Heap} {locs : List Loc} {ls : Array Slot} (hw : Wd D A s (mT cI cZ) (mW o h cI cZ f g) H locs) (hl : lv_has ls 3 [(0, .ref o), (1, .int x1), (2, .int x2)]) : W p l e rmX11_ahead s m args below meth c H locs 0 0 Q (F0 m 0 ls []) := by
  unfold wpX11_ahead_b0 at hh
  refine lv_iload_n C.1 C.2.1 dX11_ahead_0 rfl (lv_at hl 2 rfl) ?_
  refine lv_if_ne (tgt := 13) C.1 C.2.1 dX11_ahead_1 (by decide) (fun c1 => ?_) (fun c1 => ?_)
  · replace hh := hh.1 c1
    refine lv_iload_n C.1 C.2.1 dX11_ahead_13 rfl (lv_at hl 2 rfl) ?_
    refine lv_iconst (v := (1 : Int32)) C.1 C.2.1 dX11_ahead_14 (by decide) ?_
    refine lv_icmp_ne (tgt := 24) C.1 C.2.1 dX11_ahead_15 (by decide) (fun c15 => ?_) (fun c15 => ?_)
    · replace hh := hh.1 c15
      refine lv_iload_n C.1 C.2.1 dX11_ahead_24 rfl (lv_at hl 2 rfl) ?_
      refine lv_iconst (v := (2 : Int32)) C.1 C.2.1 dX11_ahead_25 (by decide) ?_
      refine lv_icmp_ne (tgt := 38) C.1 C.2.1 dX11_ahead_26 (by decide) (fun c26 => ?_) (fun c26 => ?_)
      · replace hh := hh.1 c26
        refine lv_iload_n C.1 C.2.1 dX11_ahead_38 rfl (lv_at hl 1 rfl) ?_
        refine lv_iconst (v := (1 : Int32)) C.1 C.2.1 dX11_ahead_39 (by decide) ?_
        refine lv_isub C.1 C.2.1 dX11_ahead_40 ?_
        exact tX11_ahead_b41 C hR hh hw (lv_sub hl [0] rfl)
      · replace hh := hh.2 c26
        refine lv_iload_n C.1 C.2.1 dX11_ahead_29 rfl (lv_at hl 1 rfl) ?_
        refine lv_aload_n C.1 C.2.1 dX11_ahead_30 rfl (lv_at hl 0 rfl) ?_
        refine m_gi C hw (inC inW11) 38 (by decide) (wc w_1500) mg_38 (x := f 38) rfl dX11_ahead_31 ?_
        refine lv_iadd C.1 C.2.1 dX11_ahead_34 ?_
        refine lv_goto (tgt := 41) C.1 C.2.1 dX11_ahead_35 (by decide) ?_
        exact tX11_ahead_b41 C hR hh hw (lv_sub hl [0] rfl)
    · replace hh := hh.2 c15
      refine lv_iload_n C.1 C.2.1 dX11_ahead_18 rfl (lv_at hl 1 rfl) ?_
      refine lv_iconst (v := (1 : Int32)) C.1 C.2.1 dX11_ahead_19 (by decide) ?_
      refine lv_iadd C.1 C.2.1 dX11_ahead_20 ?_
      refine lv_goto (tgt := 41) C.1 C.2.1 dX11_ahead_21 (by decide) ?_
      exact tX11_ahead_b41 C hR hh hw (lv_sub hl [0] rfl)
  · replace hh := hh.2 c1
    refine lv_iload_n C.1 C.2.1 dX11_ahead_4 rfl (lv_at hl 1 rfl) ?_
    refine lv_aload_n C.1 C.2.1 dX11_ahead_5 rfl (lv_at hl 0 rfl) ?_
    refine m_gi C hw (inC inW11) 38 (by decide) (wc w_1500) mg_38 (x := f 38) rfl dX11_ahead_6 ?_
    refine lv_isub C.1 C.2.1 dX11_ahead_9 ?_
    refine lv_goto (tgt := 41) C.1 C.2.1 dX11_ahead_10 (by decide) ?_
    exact tX11_ahead_b41 C hR hh hw (lv_sub hl [0] rfl)
def wpX11_ahead (f : Nat → Int32) (g : Nat → Nat → Int32) (x1 : Int32) (x2 : Int32) (K : Int32 → ((Nat → Int32) × (Nat → Nat → Int32)) → Prop) : Prop := wpX11_ahead_b0 f g x1 x2 K
theorem ctX11_ahead (l : Launch) (D : va_G) (o : Nat) (h : Nat → Nat) (cI cZ : ClassId) (f : Nat → Int32) (g : Nat → Nat → Int32) (x1 : Int32) (x2 : Int32) {K : Int32 → ((Nat → Int32) × (Nat → Nat → Int32)) → Prop} (hh : wpX11_ahead f g x1 x2 K) : Ci l yX11_ahead wsX11_ahead rmX11_ahead [.ref o, .int x1, .int x2] D (mT cI cZ) (mWu o h cI cZ) (f, g) K := by
  refine Ci_of (cc := cX11_ahead) (maxL := 3) (by decide) rfl (Nat.le_of_ble_eq_true rfl) ?_
  intro p e s m below meth c A Q C hw hR ls hl
  exact tX11_ahead_b0 C hR hh hw hl
theorem cdX11_ahead : yX11_ahead.cls = RX11 ∧ yX11_ahead.cls ≠ "java/lang/invoke/MethodHandle" ∧ yX11_ahead.cls ≠ "java/lang/invoke/VarHandle" ∧ (parseMethodDescriptor yX11_ahead.desc).map (fun d => d.parameters.length) = some 2 := by decide +kernel
abbrev rmX11_isWall : Room := { frames := 1, cells := 0, slots := 0, locals := 21 }
def wpX11_isWall_b0 (f : Nat → Int32) (g : Nat → Nat → Int32) (x1 : Int32) (x2 : Int32) (K : Int32 → ((Nat → Int32) × (Nat → Nat → Int32)) → Prop) : Prop :=
  vp_in x1 36 ∧ wpX11_isOf (g 46 (ix x1)) x2 (fun r7 u7 =>
    isB r7 ∧ K r7 (f, g))
set_option maxHeartbeats 4000000 in
set_option maxRecDepth 100000 in
theorem tX11_isWall_b0 {K : Int32 → ((Nat → Int32) × (Nat → Nat → Int32)) → Prop} (C : CallFix p m c cX11_isWall 3 s args wsX11_isWall RX11) (hR : Rti .boolean p l e rmX11_isWall s m args below meth c cX11_isWall D A (mT cI cZ) (mWu o h cI cZ) K Q) {f : Nat → Int32} {g : Nat → Nat → Int32} {x1 : Int32} {x2 : Int32} (hh : wpX11_isWall_b0 f g x1 x2 K) {H : Heap} {locs : List Loc} {ls : Array Slot} (hw : Wd D A s (mT cI cZ) (mW o h cI cZ f g) H locs) (hl : lv_has ls 3 [(0, .ref o), (1, .int x1), (2, .int x2)]) : W p l e rmX11_isWall s m args below meth c H locs 0 0 Q (F0 m 0 ls []) := by
  unfold wpX11_isWall_b0 at hh
  refine lv_aload_n C.1 C.2.1 dX11_isWall_0 rfl (lv_at hl 0 rfl) ?_
  refine m_ga C hw (inC inW11) 46 (by decide) (wc w_1508) mg_46 dX11_isWall_1 ?_
  refine lv_iload_n C.1 C.2.1 dX11_isWall_4 rfl (lv_at hl 1 rfl) ?_
  obtain ⟨hi5, hh⟩ := hh
  refine m_ial C hw mp_46 (x := g 46 (ix x1)) hi5 rfl dX11_isWall_5 ?_
  refine lv_iload_n C.1 C.2.1 dX11_isWall_6 rfl (lv_at hl 2 rfl) ?_
  refine wd_Si C hw (ctX11_isOf l D (g 46 (ix x1)) x2 hh) (va_cwS 2 C.2.2.2.2 (gd_S w_1827 w_1828 (ini_cls rfl w_125) w_1829) rfl rfl rfl cdX11_isOf ⟨Nat.le_of_ble_eq_true rfl, Nat.le_of_ble_eq_true rfl⟩) rfl hl.1 (Nat.le_of_ble_eq_true rfl) dX11_isWall_7 ⟨Nat.zero_le _, Nat.zero_le _⟩ (fun r7 H locs hh hw => ?_) rfl
  obtain ⟨hb10, hh⟩ := hh
  exact hR _ _ _ (f, g) _ _ dX11_isWall_10 (isB_nar hb10) hh hw
def wpX11_isWall (f : Nat → Int32) (g : Nat → Nat → Int32) (x1 : Int32) (x2 : Int32) (K : Int32 → ((Nat → Int32) × (Nat → Nat → Int32)) → Prop) : Prop := wpX11_isWall_b0 f g x1 x2 K
theorem ctX11_isWall (l : Launch) (D : va_G) (o : Nat) (h : Nat → Nat) (cI cZ : ClassId) (f : Nat → Int32) (g : Nat → Nat → Int32) (x1 : Int32) (x2 : Int32) {K : Int32 → ((Nat → Int32) × (Nat → Nat → Int32)) → Prop} (hh : wpX11_isWall f g x1 x2 K) : Ci l yX11_isWall wsX11_isWall rmX11_isWall [.ref o, .int x1, .int x2] D (mT cI cZ) (mWu o h cI cZ) (f, g) K := by
  refine Ci_of (cc := cX11_isWall) (maxL := 3) (by decide) rfl (Nat.le_of_ble_eq_true rfl) ?_
  intro p e s m below meth c A Q C hw hR ls hl
  exact tX11_isWall_b0 C hR hh hw hl
theorem cdX11_isWall : yX11_isWall.cls = RX11 ∧ yX11_isWall.cls ≠ "java/lang/invoke/MethodHandle" ∧ yX11_isWall.cls ≠ "java/lang/invoke/VarHandle" ∧ (parseMethodDescriptor yX11_isWall.desc).map (fun d => d.parameters.length) = some 2 := by decide +kernel
abbrev rmX11_putWall : Room := { frames := 1, cells := 0, slots := 0, locals := 22 }
def wpX11_putWall_b89 (f : Nat → Int32) (g : Nat → Nat → Int32) (k1 : Int32) (k2 : Int32) (K : ((Nat → Int32) × (Nat → Nat → Int32)) → Prop) : Prop :=
  vp_in k1 36 ∧ K (f, pt g 46 (ix k1) k2)
set_option maxHeartbeats 4000000 in
set_option maxRecDepth 100000 in
theorem tX11_putWall_b89 {K : ((Nat → Int32) × (Nat → Nat → Int32)) → Prop} (C : CallFix p m c cX11_putWall 6 s args wsX11_putWall RX11) (hR : Rtv p l e rmX11_putWall s m args below meth c cX11_putWall D A (mT cI cZ) (mWu o h cI cZ) K Q) {f : Nat → Int32} {g : Nat → Nat → Int32} {k1 : Int32} {k2 : Int32} (hh : wpX11_putWall_b89 f g k1 k2 K) {H : Heap} {locs : List Loc} {ls : Array Slot} (hw : Wd D A s (mT cI cZ) (mW o h cI cZ f g) H locs) (hl : lv_has ls 6 [(0, .ref o)]) : W p l e rmX11_putWall s m args below meth c H locs 0 0 Q (F0 m 89 ls [.int k2, .int k1, .ref (h 46)]) := by
  unfold wpX11_putWall_b89 at hh
  obtain ⟨hi89, hh⟩ := hh
  refine m_ias C hw mp_46 mq_46 hi89 dX11_putWall_89 (fun H locs hw => ?_)
  exact hR _ _ (f, pt g 46 (ix k1) k2) _ _ dX11_putWall_90 hh hw
def wpX11_putWall_b49 (f : Nat → Int32) (g : Nat → Nat → Int32) (k1 : Int32) (k2 : Int32) (x3 : Int32) (x4 : Int32) (x5 : Int32) (K : ((Nat → Int32) × (Nat → Nat → Int32)) → Prop) : Prop :=
  vp_in k1 36 ∧ ((x3 = 0) →
    vp_in x4 36 ∧ wpX11_putWall_b89 f (pt g 46 (ix k1) k2) x4 (((pt g 46 (ix k1) k2) 46 (ix x4)) &&& ((jshl (1 : Int32) x5) ^^^ (-1 : Int32))) K) ∧
  (¬ (x3 = 0) →
    vp_in x4 36 ∧ wpX11_putWall_b89 f (pt g 46 (ix k1) k2) x4 (((pt g 46 (ix k1) k2) 46 (ix x4)) ||| (jshl (1 : Int32) x5)) K)
set_option maxHeartbeats 4000000 in
set_option maxRecDepth 100000 in
theorem tX11_putWall_b49 {K : ((Nat → Int32) × (Nat → Nat → Int32)) → Prop} (C : CallFix p m c cX11_putWall 6 s args wsX11_putWall RX11) (hR : Rtv p l e rmX11_putWall s m args below meth c cX11_putWall D A (mT cI cZ) (mWu o h cI cZ) K Q) {f : Nat → Int32} {g : Nat → Nat → Int32} {k1 : Int32} {k2 : Int32} {x3 : Int32} {x4 : Int32} {x5 : Int32} (hh : wpX11_putWall_b49 f g k1 k2 x3 x4 x5 K) {H : Heap} {locs : List Loc} {ls : Array Slot} (hw : Wd D A s (mT cI cZ) (mW o h cI cZ f g) H locs) (hl : lv_has ls 6 [(0, .ref o), (3, .int x3), (4, .int x4), (5, .int x5)]) : W p l e rmX11_putWall s m args below meth c H locs 0 0 Q (F0 m 49 ls [.int k2, .int k1, .ref (h 46)]) := by
  unfold wpX11_putWall_b49 at hh
  obtain ⟨hi49, hh⟩ := hh
  refine m_ias C hw mp_46 mq_46 hi49 dX11_putWall_49 (fun H locs hw => ?_)
  refine lv_aload_n C.1 C.2.1 dX11_putWall_50 rfl (lv_at hl 0 rfl) ?_
  refine m_ga C hw (inC inW11) 46 (by decide) (wc w_1508) mg_46 dX11_putWall_51 ?_
  refine lv_iload C.1 C.2.1 dX11_putWall_54 (lv_at hl 2 rfl) ?_
  refine lv_iload_n C.1 C.2.1 dX11_putWall_56 rfl (lv_at hl 1 rfl) ?_
  refine lv_if_eq (tgt := 75) C.1 C.2.1 dX11_putWall_57 (by decide) (fun c57 => ?_) (fun c57 => ?_)
  · replace hh := hh.1 c57
    refine lv_aload_n C.1 C.2.1 dX11_putWall_75 rfl (lv_at hl 0 rfl) ?_
    refine m_ga C hw (inC inW11) 46 (by decide) (wc w_1508) mg_46 dX11_putWall_76 ?_
    refine lv_iload C.1 C.2.1 dX11_putWall_79 (lv_at hl 2 rfl) ?_
    obtain ⟨hi81, hh⟩ := hh
    refine m_ial C hw mp_46 (x := (pt g 46 (ix k1) k2) 46 (ix x4)) hi81 rfl dX11_putWall_81 ?_
    refine lv_iconst (v := (1 : Int32)) C.1 C.2.1 dX11_putWall_82 (by decide) ?_
    refine lv_iload C.1 C.2.1 dX11_putWall_83 (lv_at hl 3 rfl) ?_
    refine g_ishl C dX11_putWall_85 ?_
    refine lv_iconst (v := (-1 : Int32)) C.1 C.2.1 dX11_putWall_86 (by decide) ?_
    refine lv_ixor C.1 C.2.1 dX11_putWall_87 ?_
    refine lv_iand C.1 C.2.1 dX11_putWall_88 ?_
    exact tX11_putWall_b89 C hR hh hw (lv_sub hl [0] rfl)
  · replace hh := hh.2 c57
    refine lv_aload_n C.1 C.2.1 dX11_putWall_60 rfl (lv_at hl 0 rfl) ?_
    refine m_ga C hw (inC inW11) 46 (by decide) (wc w_1508) mg_46 dX11_putWall_61 ?_
    refine lv_iload C.1 C.2.1 dX11_putWall_64 (lv_at hl 2 rfl) ?_
    obtain ⟨hi66, hh⟩ := hh
    refine m_ial C hw mp_46 (x := (pt g 46 (ix k1) k2) 46 (ix x4)) hi66 rfl dX11_putWall_66 ?_
    refine lv_iconst (v := (1 : Int32)) C.1 C.2.1 dX11_putWall_67 (by decide) ?_
    refine lv_iload C.1 C.2.1 dX11_putWall_68 (lv_at hl 3 rfl) ?_
    refine g_ishl C dX11_putWall_70 ?_
    refine lv_ior C.1 C.2.1 dX11_putWall_71 ?_
    refine lv_goto (tgt := 89) C.1 C.2.1 dX11_putWall_72 (by decide) ?_
    exact tX11_putWall_b89 C hR hh hw (lv_sub hl [0] rfl)
def wpX11_putWall_b0 (f : Nat → Int32) (g : Nat → Nat → Int32) (x1 : Int32) (x2 : Int32) (x3 : Int32) (K : ((Nat → Int32) × (Nat → Nat → Int32)) → Prop) : Prop :=
  wpX11_ahead f g x1 x2 (fun r3 u3 =>
    ((x3 = 0) →
    vp_in x1 36 ∧ wpX11_putWall_b49 u3.1 u3.2 x1 ((u3.2 46 (ix x1)) &&& ((jshl (1 : Int32) x2) ^^^ (-1 : Int32))) x3 r3 (jrem (x2 + (2 : Int32)) (4 : Int32)) K) ∧
  (¬ (x3 = 0) →
    vp_in x1 36 ∧ wpX11_putWall_b49 u3.1 u3.2 x1 ((u3.2 46 (ix x1)) ||| (jshl (1 : Int32) x2)) x3 r3 (jrem (x2 + (2 : Int32)) (4 : Int32)) K))
set_option maxHeartbeats 4000000 in
set_option maxRecDepth 100000 in
theorem tX11_putWall_b0 {K : ((Nat → Int32) × (Nat → Nat → Int32)) → Prop} (C : CallFix p m c cX11_putWall 6 s args wsX11_putWall RX11) (hR : Rtv p l e rmX11_putWall s m args below meth c cX11_putWall D A (mT cI cZ) (mWu o h cI cZ) K Q) {f : Nat → Int32} {g : Nat → Nat → Int32} {x1 : Int32} {x2 : Int32} {x3 : Int32} (hh : wpX11_putWall_b0 f g x1 x2 x3 K) {H : Heap} {locs : List Loc} {ls : Array Slot} (hw : Wd D A s (mT cI cZ) (mW o h cI cZ f g) H locs) (hl : lv_has ls 6 [(0, .ref o), (1, .int x1), (2, .int x2), (3, .int x3)]) : W p l e rmX11_putWall s m args below meth c H locs 0 0 Q (F0 m 0 ls []) := by
  unfold wpX11_putWall_b0 at hh
  refine lv_aload_n C.1 C.2.1 dX11_putWall_0 rfl (lv_at hl 0 rfl) ?_
  refine lv_iload_n C.1 C.2.1 dX11_putWall_1 rfl (lv_at hl 1 rfl) ?_
  refine lv_iload_n C.1 C.2.1 dX11_putWall_2 rfl (lv_at hl 2 rfl) ?_
  refine m_Vi C hw (ctX11_ahead l D o h cI cZ f g x1 x2 hh) (cwV 2 C.2.2.2.2 (gd_V w_1834 w_1836 w_83 w_125 w_1837) rfl rfl rfl cdX11_ahead ⟨Nat.le_of_ble_eq_true rfl, Nat.le_of_ble_eq_true rfl⟩) rfl hl.1 (Nat.le_of_ble_eq_true rfl) dX11_putWall_3 ⟨Nat.zero_le _, Nat.zero_le _⟩ (fun r3 u3 H locs hh hw => ?_) rfl
  refine lv_istore (lv' := [(4, .int r3), (0, .ref o), (1, .int x1), (2, .int x2), (3, .int x3)]) C.1 C.2.1 dX11_putWall_6 hl (by decide) rfl (fun ls hl => ?_)
  refine lv_iload_n C.1 C.2.1 dX11_putWall_8 rfl (lv_at hl 3 rfl) ?_
  refine lv_iconst (v := (2 : Int32)) C.1 C.2.1 dX11_putWall_9 (by decide) ?_
  refine lv_iadd C.1 C.2.1 dX11_putWall_10 ?_
  refine lv_iconst (v := (4 : Int32)) C.1 C.2.1 dX11_putWall_11 (by decide) ?_
  refine g_irem C dX11_putWall_12 (by decide) ?_
  refine lv_istore (lv' := [(5, .int (jrem (x2 + (2 : Int32)) (4 : Int32))), (4, .int r3), (0, .ref o), (1, .int x1), (2, .int x2), (3, .int x3)]) C.1 C.2.1 dX11_putWall_13 hl (by decide) rfl (fun ls hl => ?_)
  refine lv_aload_n C.1 C.2.1 dX11_putWall_15 rfl (lv_at hl 2 rfl) ?_
  refine m_ga C hw (inC inW11) 46 (by decide) (wc w_1508) mg_46 dX11_putWall_16 ?_
  refine lv_iload_n C.1 C.2.1 dX11_putWall_19 rfl (lv_at hl 3 rfl) ?_
  refine lv_iload_n C.1 C.2.1 dX11_putWall_20 rfl (lv_at hl 5 rfl) ?_
  refine lv_if_eq (tgt := 37) C.1 C.2.1 dX11_putWall_21 (by decide) (fun c21 => ?_) (fun c21 => ?_)
  · replace hh := hh.1 c21
    refine lv_aload_n C.1 C.2.1 dX11_putWall_37 rfl (lv_at hl 2 rfl) ?_
    refine m_ga C hw (inC inW11) 46 (by decide) (wc w_1508) mg_46 dX11_putWall_38 ?_
    refine lv_iload_n C.1 C.2.1 dX11_putWall_41 rfl (lv_at hl 3 rfl) ?_
    obtain ⟨hi42, hh⟩ := hh
    refine m_ial C hw mp_46 (x := u3.2 46 (ix x1)) hi42 rfl dX11_putWall_42 ?_
    refine lv_iconst (v := (1 : Int32)) C.1 C.2.1 dX11_putWall_43 (by decide) ?_
    refine lv_iload_n C.1 C.2.1 dX11_putWall_44 rfl (lv_at hl 4 rfl) ?_
    refine g_ishl C dX11_putWall_45 ?_
    refine lv_iconst (v := (-1 : Int32)) C.1 C.2.1 dX11_putWall_46 (by decide) ?_
    refine lv_ixor C.1 C.2.1 dX11_putWall_47 ?_
    refine lv_iand C.1 C.2.1 dX11_putWall_48 ?_
    exact tX11_putWall_b49 C hR hh hw (lv_sub hl [2, 5, 1, 0] rfl)
  · replace hh := hh.2 c21
    refine lv_aload_n C.1 C.2.1 dX11_putWall_24 rfl (lv_at hl 2 rfl) ?_
    refine m_ga C hw (inC inW11) 46 (by decide) (wc w_1508) mg_46 dX11_putWall_25 ?_
    refine lv_iload_n C.1 C.2.1 dX11_putWall_28 rfl (lv_at hl 3 rfl) ?_
    obtain ⟨hi29, hh⟩ := hh
    refine m_ial C hw mp_46 (x := u3.2 46 (ix x1)) hi29 rfl dX11_putWall_29 ?_
    refine lv_iconst (v := (1 : Int32)) C.1 C.2.1 dX11_putWall_30 (by decide) ?_
    refine lv_iload_n C.1 C.2.1 dX11_putWall_31 rfl (lv_at hl 4 rfl) ?_
    refine g_ishl C dX11_putWall_32 ?_
    refine lv_ior C.1 C.2.1 dX11_putWall_33 ?_
    refine lv_goto (tgt := 49) C.1 C.2.1 dX11_putWall_34 (by decide) ?_
    exact tX11_putWall_b49 C hR hh hw (lv_sub hl [2, 5, 1, 0] rfl)
def wpX11_putWall (f : Nat → Int32) (g : Nat → Nat → Int32) (x1 : Int32) (x2 : Int32) (x3 : Int32) (K : ((Nat → Int32) × (Nat → Nat → Int32)) → Prop) : Prop := wpX11_putWall_b0 f g x1 x2 x3 K
theorem ctX11_putWall (l : Launch) (D : va_G) (o : Nat) (h : Nat → Nat) (cI cZ : ClassId) (f : Nat → Int32) (g : Nat → Nat → Int32) (x1 : Int32) (x2 : Int32) (x3 : Int32) {K : ((Nat → Int32) × (Nat → Nat → Int32)) → Prop} (hh : wpX11_putWall f g x1 x2 x3 K) : Cv l yX11_putWall wsX11_putWall rmX11_putWall [.ref o, .int x1, .int x2, .int x3] D (mT cI cZ) (mWu o h cI cZ) (f, g) K := by
  refine Cv_of (cc := cX11_putWall) (maxL := 6) (by decide) rfl (Nat.le_of_ble_eq_true rfl) ?_
  intro p e s m below meth c A Q C hw hR ls hl
  exact tX11_putWall_b0 C hR hh hw hl
theorem cdX11_putWall : yX11_putWall.cls = RX11 ∧ yX11_putWall.cls ≠ "java/lang/invoke/MethodHandle" ∧ yX11_putWall.cls ≠ "java/lang/invoke/VarHandle" ∧ (parseMethodDescriptor yX11_putWall.desc).map (fun d => d.parameters.length) = some 3 := by decide +kernel
abbrev rmX11_floor : Room := { frames := 3, cells := 0, slots := 0, locals := 64 }
def wpX11_floor_b25 (f : Nat → Int32) (g : Nat → Nat → Int32) (K : Int32 → ((Nat → Int32) × (Nat → Nat → Int32)) → Prop) : Prop :=
  K (0 : Int32) (f, g)
set_option maxHeartbeats 4000000 in
set_option maxRecDepth 100000 in
theorem tX11_floor_b25 {K : Int32 → ((Nat → Int32) × (Nat → Nat → Int32)) → Prop} (C : CallFix p m c cX11_floor 3 s args wsX11_floor RX11) (hR : Rti .boolean p l e rmX11_floor s m args below meth c cX11_floor D A (mT cI cZ) (mWu o h cI cZ) K Q) {f : Nat → Int32} {g : Nat → Nat → Int32} (hh : wpX11_floor_b25 f g K) {H : Heap} {locs : List Loc} {ls : Array Slot} (hw : Wd D A s (mT cI cZ) (mW o h cI cZ f g) H locs) (hl : lv_has ls 3 [(0, .ref o)]) : W p l e rmX11_floor s m args below meth c H locs 0 0 Q (F0 m 25 ls []) := by
  unfold wpX11_floor_b25 at hh
  refine lv_iconst (v := (0 : Int32)) C.1 C.2.1 dX11_floor_25 (by decide) ?_
  exact hR _ _ _ (f, g) _ _ dX11_floor_26 rfl hh hw
def wpX11_floor_b0 (f : Nat → Int32) (g : Nat → Nat → Int32) (x1 : Int32) (x2 : Int32) (K : Int32 → ((Nat → Int32) × (Nat → Nat → Int32)) → Prop) : Prop :=
  wpX11_isIn x1 (2 : Int32) (6 : Int32) (fun r9 u9 =>
    ((r9 = 0) →
    wpX11_floor_b25 (upd f 2 (0 : Int32)) g K) ∧
  (¬ (r9 = 0) →
    wpX11_isIn x2 (2 : Int32) (6 : Int32) (fun r19 u19 =>
      (¬ (r19 = 0) →
      wpX11_begins (upd f 2 (0 : Int32)) g x1 x2 (fun u30 =>
        K (1 : Int32) (u30.1, u30.2))) ∧
    ((r19 = 0) →
      wpX11_floor_b25 (upd f 2 (0 : Int32)) g K))))
set_option maxHeartbeats 4000000 in
set_option maxRecDepth 100000 in
theorem tX11_floor_b0 {K : Int32 → ((Nat → Int32) × (Nat → Nat → Int32)) → Prop} (C : CallFix p m c cX11_floor 3 s args wsX11_floor RX11) (hR : Rti .boolean p l e rmX11_floor s m args below meth c cX11_floor D A (mT cI cZ) (mWu o h cI cZ) K Q) {f : Nat → Int32} {g : Nat → Nat → Int32} {x1 : Int32} {x2 : Int32} (hh : wpX11_floor_b0 f g x1 x2 K) {H : Heap} {locs : List Loc} {ls : Array Slot} (hw : Wd D A s (mT cI cZ) (mW o h cI cZ f g) H locs) (hl : lv_has ls 3 [(0, .ref o), (1, .int x1), (2, .int x2)]) : W p l e rmX11_floor s m args below meth c H locs 0 0 Q (F0 m 0 ls []) := by
  unfold wpX11_floor_b0 at hh
  refine lv_aload_n C.1 C.2.1 dX11_floor_0 rfl (lv_at hl 0 rfl) ?_
  refine lv_iconst (v := (0 : Int32)) C.1 C.2.1 dX11_floor_1 (by decide) ?_
  refine m_pi C hw (inC inW11) 2 (by decide) (wc w_1464) rfl (ty := .int) (by decide +kernel) rfl rfl (Nat.le_of_ble_eq_true rfl) ms_2 dX11_floor_2 (fun H locs hw => ?_)
  refine lv_iload_n C.1 C.2.1 dX11_floor_5 rfl (lv_at hl 1 rfl) ?_
  refine lv_iconst (v := (2 : Int32)) C.1 C.2.1 dX11_floor_6 (by decide) ?_
  refine lv_bipush (v := (6 : Int32)) C.1 C.2.1 dX11_floor_7 (by decide) ?_
  refine wd_Si C hw (ctX11_isIn l D x1 (2 : Int32) (6 : Int32) hh) (va_cwS 3 C.2.2.2.2 (gd_S w_1808 w_1809 (ini_cls rfl w_125) w_1810) rfl rfl rfl cdX11_isIn ⟨Nat.le_of_ble_eq_true rfl, Nat.le_of_ble_eq_true rfl⟩) rfl hl.1 (Nat.le_of_ble_eq_true rfl) dX11_floor_9 ⟨Nat.zero_le _, Nat.zero_le _⟩ (fun r9 H locs hh hw => ?_) rfl
  refine lv_if_eq (tgt := 25) C.1 C.2.1 dX11_floor_12 (by decide) (fun c12 => ?_) (fun c12 => ?_)
  · replace hh := hh.1 c12
    exact tX11_floor_b25 C hR hh hw (lv_sub hl [0] rfl)
  · replace hh := hh.2 c12
    refine lv_iload_n C.1 C.2.1 dX11_floor_15 rfl (lv_at hl 2 rfl) ?_
    refine lv_iconst (v := (2 : Int32)) C.1 C.2.1 dX11_floor_16 (by decide) ?_
    refine lv_bipush (v := (6 : Int32)) C.1 C.2.1 dX11_floor_17 (by decide) ?_
    refine wd_Si C hw (ctX11_isIn l D x2 (2 : Int32) (6 : Int32) hh) (va_cwS 3 C.2.2.2.2 (gd_S w_1808 w_1809 (ini_cls rfl w_125) w_1810) rfl rfl rfl cdX11_isIn ⟨Nat.le_of_ble_eq_true rfl, Nat.le_of_ble_eq_true rfl⟩) rfl hl.1 (Nat.le_of_ble_eq_true rfl) dX11_floor_19 ⟨Nat.zero_le _, Nat.zero_le _⟩ (fun r19 H locs hh hw => ?_) rfl
    refine lv_if_ne (tgt := 27) C.1 C.2.1 dX11_floor_22 (by decide) (fun c22 => ?_) (fun c22 => ?_)
    · replace hh := hh.1 c22
      refine lv_aload_n C.1 C.2.1 dX11_floor_27 rfl (lv_at hl 0 rfl) ?_
      refine lv_iload_n C.1 C.2.1 dX11_floor_28 rfl (lv_at hl 1 rfl) ?_
      refine lv_iload_n C.1 C.2.1 dX11_floor_29 rfl (lv_at hl 2 rfl) ?_
      refine m_Vv C hw (ctX11_begins l D o h cI cZ (upd f 2 (0 : Int32)) g x1 x2 hh) (cwV 2 C.2.2.2.2 (gd_V w_1446 w_1448 w_52 w_125 w_1449) rfl rfl rfl cdX11_begins ⟨Nat.le_of_ble_eq_true rfl, Nat.le_of_ble_eq_true rfl⟩) rfl hl.1 (Nat.le_of_ble_eq_true rfl) dX11_floor_30 ⟨Nat.zero_le _, Nat.zero_le _⟩ (fun u30 H locs hh hw => ?_) rfl
      refine lv_iconst (v := (1 : Int32)) C.1 C.2.1 dX11_floor_33 (by decide) ?_
      exact hR _ _ _ (u30.1, u30.2) _ _ dX11_floor_34 rfl hh hw
    · replace hh := hh.2 c22
      exact tX11_floor_b25 C hR hh hw (lv_sub hl [0] rfl)
def wpX11_floor (f : Nat → Int32) (g : Nat → Nat → Int32) (x1 : Int32) (x2 : Int32) (K : Int32 → ((Nat → Int32) × (Nat → Nat → Int32)) → Prop) : Prop := wpX11_floor_b0 f g x1 x2 K
theorem ctX11_floor (l : Launch) (D : va_G) (o : Nat) (h : Nat → Nat) (cI cZ : ClassId) (f : Nat → Int32) (g : Nat → Nat → Int32) (x1 : Int32) (x2 : Int32) {K : Int32 → ((Nat → Int32) × (Nat → Nat → Int32)) → Prop} (hh : wpX11_floor f g x1 x2 K) : Ci l yX11_floor wsX11_floor rmX11_floor [.ref o, .int x1, .int x2] D (mT cI cZ) (mWu o h cI cZ) (f, g) K := by
  refine Ci_of (cc := cX11_floor) (maxL := 3) (by decide) rfl (Nat.le_of_ble_eq_true rfl) ?_
  intro p e s m below meth c A Q C hw hR ls hl
  exact tX11_floor_b0 C hR hh hw hl
theorem cdX11_floor : yX11_floor.cls = RX11 ∧ yX11_floor.cls ≠ "java/lang/invoke/MethodHandle" ∧ yX11_floor.cls ≠ "java/lang/invoke/VarHandle" ∧ (parseMethodDescriptor yX11_floor.desc).map (fun d => d.parameters.length) = some 2 := by decide +kernel
abbrev rmX11_isAround : Room := { frames := 1, cells := 0, slots := 0, locals := 20 }
def wpX11_isAround_b88 (f : Nat → Int32) (g : Nat → Nat → Int32) (k0 : Int32) (K : Int32 → ((Nat → Int32) × (Nat → Nat → Int32)) → Prop) : Prop :=
  isB k0 ∧ K k0 (f, g)
set_option maxHeartbeats 4000000 in
set_option maxRecDepth 100000 in
theorem tX11_isAround_b88 {K : Int32 → ((Nat → Int32) × (Nat → Nat → Int32)) → Prop} (C : CallFix p m c cX11_isAround 3 s args wsX11_isAround RX11) (hR : Rti .boolean p l e rmX11_isAround s m args below meth c cX11_isAround D A (mT cI cZ) (mWu o h cI cZ) K Q) {f : Nat → Int32} {g : Nat → Nat → Int32} {k0 : Int32} (hh : wpX11_isAround_b88 f g k0 K) {H : Heap} {locs : List Loc} {ls : Array Slot} (hw : Wd D A s (mT cI cZ) (mW o h cI cZ f g) H locs) (hl : lv_has ls 3 [(0, .ref o)]) : W p l e rmX11_isAround s m args below meth c H locs 0 0 Q (F0 m 88 ls [.int k0]) := by
  unfold wpX11_isAround_b88 at hh
  obtain ⟨hb88, hh⟩ := hh
  exact hR _ _ _ (f, g) _ _ dX11_isAround_88 (isB_nar hb88) hh hw
def wpX11_isAround_b0 (f : Nat → Int32) (g : Nat → Nat → Int32) (x1 : Int32) (x2 : Int32) (K : Int32 → ((Nat → Int32) × (Nat → Nat → Int32)) → Prop) : Prop :=
  (¬ (x2 = 0) →
    (¬ (x2 = (1 : Int32)) →
      (¬ (x2 = (2 : Int32)) →
        (¬ f 38 = 0) ∧ (¬ ((jrem x1 (f 38)) = 0) →
          wpX11_isAround_b88 f g (0 : Int32) K) ∧
        (((jrem x1 (f 38)) = 0) →
          wpX11_isAround_b88 f g (1 : Int32) K)) ∧
      ((x2 = (2 : Int32)) →
        wpX11_squares f g  (fun r55 u55 =>
          ((x1 < (r55 - (u55.1 38))) →
          wpX11_isAround_b88 u55.1 u55.2 (0 : Int32) K) ∧
        (¬ (x1 < (r55 - (u55.1 38))) →
          wpX11_isAround_b88 u55.1 u55.2 (1 : Int32) K)))) ∧
    ((x2 = (1 : Int32)) →
      (¬ f 38 = 0) ∧ (¬ ((jrem x1 (f 38)) = ((f 38) - (1 : Int32))) →
        wpX11_isAround_b88 f g (0 : Int32) K) ∧
      (((jrem x1 (f 38)) = ((f 38) - (1 : Int32))) →
        wpX11_isAround_b88 f g (1 : Int32) K))) ∧
  ((x2 = 0) →
    (((f 38) ≤ x1) →
      wpX11_isAround_b88 f g (0 : Int32) K) ∧
    (¬ ((f 38) ≤ x1) →
      wpX11_isAround_b88 f g (1 : Int32) K))
set_option maxHeartbeats 4000000 in
set_option maxRecDepth 100000 in
theorem tX11_isAround_b0 {K : Int32 → ((Nat → Int32) × (Nat → Nat → Int32)) → Prop} (C : CallFix p m c cX11_isAround 3 s args wsX11_isAround RX11) (hR : Rti .boolean p l e rmX11_isAround s m args below meth c cX11_isAround D A (mT cI cZ) (mWu o h cI cZ) K Q) {f : Nat → Int32} {g : Nat → Nat → Int32} {x1 : Int32} {x2 : Int32} (hh : wpX11_isAround_b0 f g x1 x2 K) {H : Heap} {locs : List Loc} {ls : Array Slot} (hw : Wd D A s (mT cI cZ) (mW o h cI cZ f g) H locs) (hl : lv_has ls 3 [(0, .ref o), (1, .int x1), (2, .int x2)]) : W p l e rmX11_isAround s m args below meth c H locs 0 0 Q (F0 m 0 ls []) := by
  unfold wpX11_isAround_b0 at hh
  refine lv_iload_n C.1 C.2.1 dX11_isAround_0 rfl (lv_at hl 2 rfl) ?_
  refine lv_if_ne (tgt := 20) C.1 C.2.1 dX11_isAround_1 (by decide) (fun c1 => ?_) (fun c1 => ?_)
  · replace hh := hh.1 c1
    refine lv_iload_n C.1 C.2.1 dX11_isAround_20 rfl (lv_at hl 2 rfl) ?_
    refine lv_iconst (v := (1 : Int32)) C.1 C.2.1 dX11_isAround_21 (by decide) ?_
    refine lv_icmp_ne (tgt := 48) C.1 C.2.1 dX11_isAround_22 (by decide) (fun c22 => ?_) (fun c22 => ?_)
    · replace hh := hh.1 c22
      refine lv_iload_n C.1 C.2.1 dX11_isAround_48 rfl (lv_at hl 2 rfl) ?_
      refine lv_iconst (v := (2 : Int32)) C.1 C.2.1 dX11_isAround_49 (by decide) ?_
      refine lv_icmp_ne (tgt := 74) C.1 C.2.1 dX11_isAround_50 (by decide) (fun c50 => ?_) (fun c50 => ?_)
      · replace hh := hh.1 c50
        refine lv_iload_n C.1 C.2.1 dX11_isAround_74 rfl (lv_at hl 1 rfl) ?_
        refine lv_aload_n C.1 C.2.1 dX11_isAround_75 rfl (lv_at hl 0 rfl) ?_
        refine m_gi C hw (inC inW11) 38 (by decide) (wc w_1500) mg_38 (x := f 38) rfl dX11_isAround_76 ?_
        obtain ⟨hz79, hh⟩ := hh
        refine g_irem C dX11_isAround_79 hz79 ?_
        refine lv_if_ne (tgt := 87) C.1 C.2.1 dX11_isAround_80 (by decide) (fun c80 => ?_) (fun c80 => ?_)
        · replace hh := hh.1 c80
          refine lv_iconst (v := (0 : Int32)) C.1 C.2.1 dX11_isAround_87 (by decide) ?_
          exact tX11_isAround_b88 C hR hh hw (lv_sub hl [0] rfl)
        · replace hh := hh.2 c80
          refine lv_iconst (v := (1 : Int32)) C.1 C.2.1 dX11_isAround_83 (by decide) ?_
          refine lv_goto (tgt := 88) C.1 C.2.1 dX11_isAround_84 (by decide) ?_
          exact tX11_isAround_b88 C hR hh hw (lv_sub hl [0] rfl)
      · replace hh := hh.2 c50
        refine lv_iload_n C.1 C.2.1 dX11_isAround_53 rfl (lv_at hl 1 rfl) ?_
        refine lv_aload_n C.1 C.2.1 dX11_isAround_54 rfl (lv_at hl 0 rfl) ?_
        refine m_Vi C hw (ctX11_squares l D o h cI cZ f g  hh) (cwV 0 C.2.2.2.2 (gd_V w_1454 w_1456 w_54 w_125 w_1457) rfl rfl rfl cdX11_squares ⟨Nat.le_of_ble_eq_true rfl, Nat.le_of_ble_eq_true rfl⟩) rfl hl.1 (Nat.le_of_ble_eq_true rfl) dX11_isAround_55 ⟨Nat.zero_le _, Nat.zero_le _⟩ (fun r55 u55 H locs hh hw => ?_) rfl
        refine lv_aload_n C.1 C.2.1 dX11_isAround_58 rfl (lv_at hl 0 rfl) ?_
        refine m_gi C hw (inC inW11) 38 (by decide) (wc w_1500) mg_38 (x := u55.1 38) rfl dX11_isAround_59 ?_
        refine lv_isub C.1 C.2.1 dX11_isAround_62 ?_
        refine lv_icmp_lt (tgt := 70) C.1 C.2.1 dX11_isAround_63 (by decide) (fun c63 => ?_) (fun c63 => ?_)
        · replace hh := hh.1 c63
          refine lv_iconst (v := (0 : Int32)) C.1 C.2.1 dX11_isAround_70 (by decide) ?_
          refine lv_goto (tgt := 88) C.1 C.2.1 dX11_isAround_71 (by decide) ?_
          exact tX11_isAround_b88 C hR hh hw (lv_sub hl [0] rfl)
        · replace hh := hh.2 c63
          refine lv_iconst (v := (1 : Int32)) C.1 C.2.1 dX11_isAround_66 (by decide) ?_
          refine lv_goto (tgt := 88) C.1 C.2.1 dX11_isAround_67 (by decide) ?_
          exact tX11_isAround_b88 C hR hh hw (lv_sub hl [0] rfl)
    · replace hh := hh.2 c22
      refine lv_iload_n C.1 C.2.1 dX11_isAround_25 rfl (lv_at hl 1 rfl) ?_
      refine lv_aload_n C.1 C.2.1 dX11_isAround_26 rfl (lv_at hl 0 rfl) ?_
      refine m_gi C hw (inC inW11) 38 (by decide) (wc w_1500) mg_38 (x := f 38) rfl dX11_isAround_27 ?_
      obtain ⟨hz30, hh⟩ := hh
      refine g_irem C dX11_isAround_30 hz30 ?_
      refine lv_aload_n C.1 C.2.1 dX11_isAround_31 rfl (lv_at hl 0 rfl) ?_
      refine m_gi C hw (inC inW11) 38 (by decide) (wc w_1500) mg_38 (x := f 38) rfl dX11_isAround_32 ?_
      refine lv_iconst (v := (1 : Int32)) C.1 C.2.1 dX11_isAround_35 (by decide) ?_
      refine lv_isub C.1 C.2.1 dX11_isAround_36 ?_
      refine lv_icmp_ne (tgt := 44) C.1 C.2.1 dX11_isAround_37 (by decide) (fun c37 => ?_) (fun c37 => ?_)
      · replace hh := hh.1 c37
        refine lv_iconst (v := (0 : Int32)) C.1 C.2.1 dX11_isAround_44 (by decide) ?_
        refine lv_goto (tgt := 88) C.1 C.2.1 dX11_isAround_45 (by decide) ?_
        exact tX11_isAround_b88 C hR hh hw (lv_sub hl [0] rfl)
      · replace hh := hh.2 c37
        refine lv_iconst (v := (1 : Int32)) C.1 C.2.1 dX11_isAround_40 (by decide) ?_
        refine lv_goto (tgt := 88) C.1 C.2.1 dX11_isAround_41 (by decide) ?_
        exact tX11_isAround_b88 C hR hh hw (lv_sub hl [0] rfl)
  · replace hh := hh.2 c1
    refine lv_iload_n C.1 C.2.1 dX11_isAround_4 rfl (lv_at hl 1 rfl) ?_
    refine lv_aload_n C.1 C.2.1 dX11_isAround_5 rfl (lv_at hl 0 rfl) ?_
    refine m_gi C hw (inC inW11) 38 (by decide) (wc w_1500) mg_38 (x := f 38) rfl dX11_isAround_6 ?_
    refine lv_icmp_ge (tgt := 16) C.1 C.2.1 dX11_isAround_9 (by decide) (fun c9 => ?_) (fun c9 => ?_)
    · replace hh := hh.1 c9
      refine lv_iconst (v := (0 : Int32)) C.1 C.2.1 dX11_isAround_16 (by decide) ?_
      refine lv_goto (tgt := 88) C.1 C.2.1 dX11_isAround_17 (by decide) ?_
      exact tX11_isAround_b88 C hR hh hw (lv_sub hl [0] rfl)
    · replace hh := hh.2 c9
      refine lv_iconst (v := (1 : Int32)) C.1 C.2.1 dX11_isAround_12 (by decide) ?_
      refine lv_goto (tgt := 88) C.1 C.2.1 dX11_isAround_13 (by decide) ?_
      exact tX11_isAround_b88 C hR hh hw (lv_sub hl [0] rfl)
def wpX11_isAround (f : Nat → Int32) (g : Nat → Nat → Int32) (x1 : Int32) (x2 : Int32) (K : Int32 → ((Nat → Int32) × (Nat → Nat → Int32)) → Prop) : Prop := wpX11_isAround_b0 f g x1 x2 K
theorem ctX11_isAround (l : Launch) (D : va_G) (o : Nat) (h : Nat → Nat) (cI cZ : ClassId) (f : Nat → Int32) (g : Nat → Nat → Int32) (x1 : Int32) (x2 : Int32) {K : Int32 → ((Nat → Int32) × (Nat → Nat → Int32)) → Prop} (hh : wpX11_isAround f g x1 x2 K) : Ci l yX11_isAround wsX11_isAround rmX11_isAround [.ref o, .int x1, .int x2] D (mT cI cZ) (mWu o h cI cZ) (f, g) K := by
  refine Ci_of (cc := cX11_isAround) (maxL := 3) (by decide) rfl (Nat.le_of_ble_eq_true rfl) ?_
  intro p e s m below meth c A Q C hw hR ls hl
  exact tX11_isAround_b0 C hR hh hw hl
theorem cdX11_isAround : yX11_isAround.cls = RX11 ∧ yX11_isAround.cls ≠ "java/lang/invoke/MethodHandle" ∧ yX11_isAround.cls ≠ "java/lang/invoke/VarHandle" ∧ (parseMethodDescriptor yX11_isAround.desc).map (fun d => d.parameters.length) = some 2 := by decide +kernel
abbrev rmX11_wall : Room := { frames := 2, cells := 0, slots := 0, locals := 47 }
def wpX11_wall_b41 (f : Nat → Int32) (g : Nat → Nat → Int32) (K : Int32 → ((Nat → Int32) × (Nat → Nat → Int32)) → Prop) : Prop :=
  K (0 : Int32) (f, g)
set_option maxHeartbeats 4000000 in
set_option maxRecDepth 100000 in
theorem tX11_wall_b41 {K : Int32 → ((Nat → Int32) × (Nat → Nat → Int32)) → Prop} (C : CallFix p m c cX11_wall 4 s args wsX11_wall RX11) (hR : Rti .boolean p l e rmX11_wall s m args below meth c cX11_wall D A (mT cI cZ) (mWu o h cI cZ) K Q) {f : Nat → Int32} {g : Nat → Nat → Int32} (hh : wpX11_wall_b41 f g K) {H : Heap} {locs : List Loc} {ls : Array Slot} (hw : Wd D A s (mT cI cZ) (mW o h cI cZ f g) H locs) (hl : lv_has ls 4 [(0, .ref o)]) : W p l e rmX11_wall s m args below meth c H locs 0 0 Q (F0 m 41 ls []) := by
  unfold wpX11_wall_b41 at hh
  refine lv_iconst (v := (0 : Int32)) C.1 C.2.1 dX11_wall_41 (by decide) ?_
  exact hR _ _ _ (f, g) _ _ dX11_wall_42 rfl hh hw
def wpX11_wall_b0 (f : Nat → Int32) (g : Nat → Nat → Int32) (x1 : Int32) (x2 : Int32) (x3 : Int32) (K : Int32 → ((Nat → Int32) × (Nat → Nat → Int32)) → Prop) : Prop :=
  wpX11_isSquare (upd f 2 (0 : Int32)) g x1 (fun r7 u7 =>
    ((r7 = 0) →
    wpX11_wall_b41 u7.1 u7.2 K) ∧
  (¬ (r7 = 0) →
    wpX11_isIn x2 (0 : Int32) (3 : Int32) (fun r16 u16 =>
      ((r16 = 0) →
      wpX11_wall_b41 u7.1 u7.2 K) ∧
    (¬ (r16 = 0) →
      wpX11_isAround u7.1 u7.2 x1 x2 (fun r25 u25 =>
        (¬ (r25 = 0) →
        wpX11_wall_b41 u25.1 u25.2 K) ∧
      ((r25 = 0) →
        wpX11_isWall u25.1 u25.2 x1 x2 (fun r34 u34 =>
          (¬ (r34 = x3) →
          wpX11_putWall u34.1 u34.2 x1 x2 x3 (fun u47 =>
            K (1 : Int32) (u47.1, u47.2))) ∧
        ((r34 = x3) →
          wpX11_wall_b41 u34.1 u34.2 K))))))))
set_option maxHeartbeats 4000000 in
set_option maxRecDepth 100000 in
theorem tX11_wall_b0 {K : Int32 → ((Nat → Int32) × (Nat → Nat → Int32)) → Prop} (C : CallFix p m c cX11_wall 4 s args wsX11_wall RX11) (hR : Rti .boolean p l e rmX11_wall s m args below meth c cX11_wall D A (mT cI cZ) (mWu o h cI cZ) K Q) {f : Nat → Int32} {g : Nat → Nat → Int32} {x1 : Int32} {x2 : Int32} {x3 : Int32} (hh : wpX11_wall_b0 f g x1 x2 x3 K) {H : Heap} {locs : List Loc} {ls : Array Slot} (hw : Wd D A s (mT cI cZ) (mW o h cI cZ f g) H locs) (hl : lv_has ls 4 [(0, .ref o), (1, .int x1), (2, .int x2), (3, .int x3)]) : W p l e rmX11_wall s m args below meth c H locs 0 0 Q (F0 m 0 ls []) := by
  unfold wpX11_wall_b0 at hh
  refine lv_aload_n C.1 C.2.1 dX11_wall_0 rfl (lv_at hl 0 rfl) ?_
  refine lv_iconst (v := (0 : Int32)) C.1 C.2.1 dX11_wall_1 (by decide) ?_
  refine m_pi C hw (inC inW11) 2 (by decide) (wc w_1464) rfl (ty := .int) (by decide +kernel) rfl rfl (Nat.le_of_ble_eq_true rfl) ms_2 dX11_wall_2 (fun H locs hw => ?_)
  refine lv_aload_n C.1 C.2.1 dX11_wall_5 rfl (lv_at hl 0 rfl) ?_
  refine lv_iload_n C.1 C.2.1 dX11_wall_6 rfl (lv_at hl 1 rfl) ?_
  refine m_Vi C hw (ctX11_isSquare l D o h cI cZ (upd f 2 (0 : Int32)) g x1 hh) (cwV 1 C.2.2.2.2 (gd_V w_1815 w_1817 w_79 w_125 w_1818) rfl rfl rfl cdX11_isSquare ⟨Nat.le_of_ble_eq_true rfl, Nat.le_of_ble_eq_true rfl⟩) rfl hl.1 (Nat.le_of_ble_eq_true rfl) dX11_wall_7 ⟨Nat.zero_le _, Nat.zero_le _⟩ (fun r7 u7 H locs hh hw => ?_) rfl
  refine lv_if_eq (tgt := 41) C.1 C.2.1 dX11_wall_10 (by decide) (fun c10 => ?_) (fun c10 => ?_)
  · replace hh := hh.1 c10
    exact tX11_wall_b41 C hR hh hw (lv_sub hl [0] rfl)
  · replace hh := hh.2 c10
    refine lv_iload_n C.1 C.2.1 dX11_wall_13 rfl (lv_at hl 2 rfl) ?_
    refine lv_iconst (v := (0 : Int32)) C.1 C.2.1 dX11_wall_14 (by decide) ?_
    refine lv_iconst (v := (3 : Int32)) C.1 C.2.1 dX11_wall_15 (by decide) ?_
    refine wd_Si C hw (ctX11_isIn l D x2 (0 : Int32) (3 : Int32) hh) (va_cwS 3 C.2.2.2.2 (gd_S w_1808 w_1809 (ini_cls rfl w_125) w_1810) rfl rfl rfl cdX11_isIn ⟨Nat.le_of_ble_eq_true rfl, Nat.le_of_ble_eq_true rfl⟩) rfl hl.1 (Nat.le_of_ble_eq_true rfl) dX11_wall_16 ⟨Nat.zero_le _, Nat.zero_le _⟩ (fun r16 H locs hh hw => ?_) rfl
    refine lv_if_eq (tgt := 41) C.1 C.2.1 dX11_wall_19 (by decide) (fun c19 => ?_) (fun c19 => ?_)
    · replace hh := hh.1 c19
      exact tX11_wall_b41 C hR hh hw (lv_sub hl [0] rfl)
    · replace hh := hh.2 c19
      refine lv_aload_n C.1 C.2.1 dX11_wall_22 rfl (lv_at hl 0 rfl) ?_
      refine lv_iload_n C.1 C.2.1 dX11_wall_23 rfl (lv_at hl 1 rfl) ?_
      refine lv_iload_n C.1 C.2.1 dX11_wall_24 rfl (lv_at hl 2 rfl) ?_
      refine m_Vi C hw (ctX11_isAround l D o h cI cZ u7.1 u7.2 x1 x2 hh) (cwV 2 C.2.2.2.2 (gd_V w_1819 w_1821 w_80 w_125 w_1822) rfl rfl rfl cdX11_isAround ⟨Nat.le_of_ble_eq_true rfl, Nat.le_of_ble_eq_true rfl⟩) rfl hl.1 (Nat.le_of_ble_eq_true rfl) dX11_wall_25 ⟨Nat.zero_le _, Nat.zero_le _⟩ (fun r25 u25 H locs hh hw => ?_) rfl
      refine lv_if_ne (tgt := 41) C.1 C.2.1 dX11_wall_28 (by decide) (fun c28 => ?_) (fun c28 => ?_)
      · replace hh := hh.1 c28
        exact tX11_wall_b41 C hR hh hw (lv_sub hl [0] rfl)
      · replace hh := hh.2 c28
        refine lv_aload_n C.1 C.2.1 dX11_wall_31 rfl (lv_at hl 0 rfl) ?_
        refine lv_iload_n C.1 C.2.1 dX11_wall_32 rfl (lv_at hl 1 rfl) ?_
        refine lv_iload_n C.1 C.2.1 dX11_wall_33 rfl (lv_at hl 2 rfl) ?_
        refine m_Vi C hw (ctX11_isWall l D o h cI cZ u25.1 u25.2 x1 x2 hh) (cwV 2 C.2.2.2.2 (gd_V w_1823 w_1825 w_81 w_125 w_1826) rfl rfl rfl cdX11_isWall ⟨Nat.le_of_ble_eq_true rfl, Nat.le_of_ble_eq_true rfl⟩) rfl hl.1 (Nat.le_of_ble_eq_true rfl) dX11_wall_34 ⟨Nat.zero_le _, Nat.zero_le _⟩ (fun r34 u34 H locs hh hw => ?_) rfl
        refine lv_iload_n C.1 C.2.1 dX11_wall_37 rfl (lv_at hl 3 rfl) ?_
        refine lv_icmp_ne (tgt := 43) C.1 C.2.1 dX11_wall_38 (by decide) (fun c38 => ?_) (fun c38 => ?_)
        · replace hh := hh.1 c38
          refine lv_aload_n C.1 C.2.1 dX11_wall_43 rfl (lv_at hl 0 rfl) ?_
          refine lv_iload_n C.1 C.2.1 dX11_wall_44 rfl (lv_at hl 1 rfl) ?_
          refine lv_iload_n C.1 C.2.1 dX11_wall_45 rfl (lv_at hl 2 rfl) ?_
          refine lv_iload_n C.1 C.2.1 dX11_wall_46 rfl (lv_at hl 3 rfl) ?_
          refine m_Vv C hw (ctX11_putWall l D o h cI cZ u34.1 u34.2 x1 x2 x3 hh) (cwV 3 C.2.2.2.2 (gd_V w_1830 w_1832 w_82 w_125 w_1833) rfl rfl rfl cdX11_putWall ⟨Nat.le_of_ble_eq_true rfl, Nat.le_of_ble_eq_true rfl⟩) rfl hl.1 (Nat.le_of_ble_eq_true rfl) dX11_wall_47 ⟨Nat.zero_le _, Nat.zero_le _⟩ (fun u47 H locs hh hw => ?_) rfl
          refine lv_iconst (v := (1 : Int32)) C.1 C.2.1 dX11_wall_50 (by decide) ?_
          exact hR _ _ _ (u47.1, u47.2) _ _ dX11_wall_51 rfl hh hw
        · replace hh := hh.2 c38
          exact tX11_wall_b41 C hR hh hw (lv_sub hl [0] rfl)
def wpX11_wall (f : Nat → Int32) (g : Nat → Nat → Int32) (x1 : Int32) (x2 : Int32) (x3 : Int32) (K : Int32 → ((Nat → Int32) × (Nat → Nat → Int32)) → Prop) : Prop := wpX11_wall_b0 f g x1 x2 x3 K
theorem ctX11_wall (l : Launch) (D : va_G) (o : Nat) (h : Nat → Nat) (cI cZ : ClassId) (f : Nat → Int32) (g : Nat → Nat → Int32) (x1 : Int32) (x2 : Int32) (x3 : Int32) {K : Int32 → ((Nat → Int32) × (Nat → Nat → Int32)) → Prop} (hh : wpX11_wall f g x1 x2 x3 K) : Ci l yX11_wall wsX11_wall rmX11_wall [.ref o, .int x1, .int x2, .int x3] D (mT cI cZ) (mWu o h cI cZ) (f, g) K := by
  refine Ci_of (cc := cX11_wall) (maxL := 4) (by decide) rfl (Nat.le_of_ble_eq_true rfl) ?_
  intro p e s m below meth c A Q C hw hR ls hl
  exact tX11_wall_b0 C hR hh hw hl
theorem cdX11_wall : yX11_wall.cls = RX11 ∧ yX11_wall.cls ≠ "java/lang/invoke/MethodHandle" ∧ yX11_wall.cls ≠ "java/lang/invoke/VarHandle" ∧ (parseMethodDescriptor yX11_wall.desc).map (fun d => d.parameters.length) = some 3 := by decide +kernel
abbrev rmX11_bell : Room := { frames := 2, cells := 0, slots := 0, locals := 41 }
def wpX11_bell_b0 (f : Nat → Int32) (g : Nat → Nat → Int32) (x1 : Int32) (K : Int32 → ((Nat → Int32) × (Nat → Nat → Int32)) → Prop) : Prop :=
  wpX11_isSquare (upd f 2 (0 : Int32)) g x1 (fun r7 u7 =>
    (¬ (r7 = 0) →
    K (1 : Int32) (upd u7.1 40 x1, u7.2)) ∧
  ((r7 = 0) →
    K (0 : Int32) (u7.1, u7.2)))
set_option maxHeartbeats 4000000 in
set_option maxRecDepth 100000 in
theorem tX11_bell_b0 {K : Int32 → ((Nat → Int32) × (Nat → Nat → Int32)) → Prop} (C : CallFix p m c cX11_bell 2 s args wsX11_bell RX11) (hR : Rti .boolean p l e rmX11_bell s m args below meth c cX11_bell D A (mT cI cZ) (mWu o h cI cZ) K Q) {f : Nat → Int32} {g : Nat → Nat → Int32} {x1 : Int32} (hh : wpX11_bell_b0 f g x1 K) {H : Heap} {locs : List Loc} {ls : Array Slot} (hw : Wd D A s (mT cI cZ) (mW o h cI cZ f g) H locs) (hl : lv_has ls 2 [(0, .ref o), (1, .int x1)]) : W p l e rmX11_bell s m args below meth c H locs 0 0 Q (F0 m 0 ls []) := by
  unfold wpX11_bell_b0 at hh
  refine lv_aload_n C.1 C.2.1 dX11_bell_0 rfl (lv_at hl 0 rfl) ?_
  refine lv_iconst (v := (0 : Int32)) C.1 C.2.1 dX11_bell_1 (by decide) ?_
  refine m_pi C hw (inC inW11) 2 (by decide) (wc w_1464) rfl (ty := .int) (by decide +kernel) rfl rfl (Nat.le_of_ble_eq_true rfl) ms_2 dX11_bell_2 (fun H locs hw => ?_)
  refine lv_aload_n C.1 C.2.1 dX11_bell_5 rfl (lv_at hl 0 rfl) ?_
  refine lv_iload_n C.1 C.2.1 dX11_bell_6 rfl (lv_at hl 1 rfl) ?_
  refine m_Vi C hw (ctX11_isSquare l D o h cI cZ (upd f 2 (0 : Int32)) g x1 hh) (cwV 1 C.2.2.2.2 (gd_V w_1815 w_1817 w_79 w_125 w_1818) rfl rfl rfl cdX11_isSquare ⟨Nat.le_of_ble_eq_true rfl, Nat.le_of_ble_eq_true rfl⟩) rfl hl.1 (Nat.le_of_ble_eq_true rfl) dX11_bell_7 ⟨Nat.zero_le _, Nat.zero_le _⟩ (fun r7 u7 H locs hh hw => ?_) rfl
  refine lv_if_ne (tgt := 15) C.1 C.2.1 dX11_bell_10 (by decide) (fun c10 => ?_) (fun c10 => ?_)
  · replace hh := hh.1 c10
    refine lv_aload_n C.1 C.2.1 dX11_bell_15 rfl (lv_at hl 0 rfl) ?_
    refine lv_iload_n C.1 C.2.1 dX11_bell_16 rfl (lv_at hl 1 rfl) ?_
    refine m_pi C hw (inC inW11) 40 (by decide) (wc w_1502) rfl (ty := .int) (by decide +kernel) rfl rfl (Nat.le_of_ble_eq_true rfl) ms_40 dX11_bell_17 (fun H locs hw => ?_)
    refine lv_iconst (v := (1 : Int32)) C.1 C.2.1 dX11_bell_20 (by decide) ?_
    exact hR _ _ _ (upd u7.1 40 x1, u7.2) _ _ dX11_bell_21 rfl hh hw
  · replace hh := hh.2 c10
    refine lv_iconst (v := (0 : Int32)) C.1 C.2.1 dX11_bell_13 (by decide) ?_
    exact hR _ _ _ (u7.1, u7.2) _ _ dX11_bell_14 rfl hh hw
def wpX11_bell (f : Nat → Int32) (g : Nat → Nat → Int32) (x1 : Int32) (K : Int32 → ((Nat → Int32) × (Nat → Nat → Int32)) → Prop) : Prop := wpX11_bell_b0 f g x1 K
theorem ctX11_bell (l : Launch) (D : va_G) (o : Nat) (h : Nat → Nat) (cI cZ : ClassId) (f : Nat → Int32) (g : Nat → Nat → Int32) (x1 : Int32) {K : Int32 → ((Nat → Int32) × (Nat → Nat → Int32)) → Prop} (hh : wpX11_bell f g x1 K) : Ci l yX11_bell wsX11_bell rmX11_bell [.ref o, .int x1] D (mT cI cZ) (mWu o h cI cZ) (f, g) K := by
  refine Ci_of (cc := cX11_bell) (maxL := 2) (by decide) rfl (Nat.le_of_ble_eq_true rfl) ?_
  intro p e s m below meth c A Q C hw hR ls hl
  exact tX11_bell_b0 C hR hh hw hl
theorem cdX11_bell : yX11_bell.cls = RX11 ∧ yX11_bell.cls ≠ "java/lang/invoke/MethodHandle" ∧ yX11_bell.cls ≠ "java/lang/invoke/VarHandle" ∧ (parseMethodDescriptor yX11_bell.desc).map (fun d => d.parameters.length) = some 1 := by decide +kernel
abbrev rmX11_lift : Room := { frames := 2, cells := 0, slots := 0, locals := 41 }
def wpX11_lift_b22 (f : Nat → Int32) (g : Nat → Nat → Int32) (K : Int32 → ((Nat → Int32) × (Nat → Nat → Int32)) → Prop) : Prop :=
  K (0 : Int32) (f, g)
set_option maxHeartbeats 4000000 in
set_option maxRecDepth 100000 in
theorem tX11_lift_b22 {K : Int32 → ((Nat → Int32) × (Nat → Nat → Int32)) → Prop} (C : CallFix p m c cX11_lift 3 s args wsX11_lift RX11) (hR : Rti .boolean p l e rmX11_lift s m args below meth c cX11_lift D A (mT cI cZ) (mWu o h cI cZ) K Q) {f : Nat → Int32} {g : Nat → Nat → Int32} (hh : wpX11_lift_b22 f g K) {H : Heap} {locs : List Loc} {ls : Array Slot} (hw : Wd D A s (mT cI cZ) (mW o h cI cZ f g) H locs) (hl : lv_has ls 3 [(0, .ref o)]) : W p l e rmX11_lift s m args below meth c H locs 0 0 Q (F0 m 22 ls []) := by
  unfold wpX11_lift_b22 at hh
  refine lv_iconst (v := (0 : Int32)) C.1 C.2.1 dX11_lift_22 (by decide) ?_
  exact hR _ _ _ (f, g) _ _ dX11_lift_23 rfl hh hw
def wpX11_lift_b0 (f : Nat → Int32) (g : Nat → Nat → Int32) (x1 : Int32) (x2 : Int32) (K : Int32 → ((Nat → Int32) × (Nat → Nat → Int32)) → Prop) : Prop :=
  wpX11_isSquare (upd f 2 (0 : Int32)) g x1 (fun r7 u7 =>
    ((r7 = 0) →
    wpX11_lift_b22 u7.1 u7.2 K) ∧
  (¬ (r7 = 0) →
    wpX11_isIn x2 (0 : Int32) (3 : Int32) (fun r16 u16 =>
      (¬ (r16 = 0) →
      K (1 : Int32) (upd (upd u7.1 41 x1) 42 x2, u7.2)) ∧
    ((r16 = 0) →
      wpX11_lift_b22 u7.1 u7.2 K))))
set_option maxHeartbeats 4000000 in
set_option maxRecDepth 100000 in
theorem tX11_lift_b0 {K : Int32 → ((Nat → Int32) × (Nat → Nat → Int32)) → Prop} (C : CallFix p m c cX11_lift 3 s args wsX11_lift RX11) (hR : Rti .boolean p l e rmX11_lift s m args below meth c cX11_lift D A (mT cI cZ) (mWu o h cI cZ) K Q) {f : Nat → Int32} {g : Nat → Nat → Int32} {x1 : Int32} {x2 : Int32} (hh : wpX11_lift_b0 f g x1 x2 K) {H : Heap} {locs : List Loc} {ls : Array Slot} (hw : Wd D A s (mT cI cZ) (mW o h cI cZ f g) H locs) (hl : lv_has ls 3 [(0, .ref o), (1, .int x1), (2, .int x2)]) : W p l e rmX11_lift s m args below meth c H locs 0 0 Q (F0 m 0 ls []) := by
  unfold wpX11_lift_b0 at hh
  refine lv_aload_n C.1 C.2.1 dX11_lift_0 rfl (lv_at hl 0 rfl) ?_
  refine lv_iconst (v := (0 : Int32)) C.1 C.2.1 dX11_lift_1 (by decide) ?_
  refine m_pi C hw (inC inW11) 2 (by decide) (wc w_1464) rfl (ty := .int) (by decide +kernel) rfl rfl (Nat.le_of_ble_eq_true rfl) ms_2 dX11_lift_2 (fun H locs hw => ?_)
  refine lv_aload_n C.1 C.2.1 dX11_lift_5 rfl (lv_at hl 0 rfl) ?_
  refine lv_iload_n C.1 C.2.1 dX11_lift_6 rfl (lv_at hl 1 rfl) ?_
  refine m_Vi C hw (ctX11_isSquare l D o h cI cZ (upd f 2 (0 : Int32)) g x1 hh) (cwV 1 C.2.2.2.2 (gd_V w_1815 w_1817 w_79 w_125 w_1818) rfl rfl rfl cdX11_isSquare ⟨Nat.le_of_ble_eq_true rfl, Nat.le_of_ble_eq_true rfl⟩) rfl hl.1 (Nat.le_of_ble_eq_true rfl) dX11_lift_7 ⟨Nat.zero_le _, Nat.zero_le _⟩ (fun r7 u7 H locs hh hw => ?_) rfl
  refine lv_if_eq (tgt := 22) C.1 C.2.1 dX11_lift_10 (by decide) (fun c10 => ?_) (fun c10 => ?_)
  · replace hh := hh.1 c10
    exact tX11_lift_b22 C hR hh hw (lv_sub hl [0] rfl)
  · replace hh := hh.2 c10
    refine lv_iload_n C.1 C.2.1 dX11_lift_13 rfl (lv_at hl 2 rfl) ?_
    refine lv_iconst (v := (0 : Int32)) C.1 C.2.1 dX11_lift_14 (by decide) ?_
    refine lv_iconst (v := (3 : Int32)) C.1 C.2.1 dX11_lift_15 (by decide) ?_
    refine wd_Si C hw (ctX11_isIn l D x2 (0 : Int32) (3 : Int32) hh) (va_cwS 3 C.2.2.2.2 (gd_S w_1808 w_1809 (ini_cls rfl w_125) w_1810) rfl rfl rfl cdX11_isIn ⟨Nat.le_of_ble_eq_true rfl, Nat.le_of_ble_eq_true rfl⟩) rfl hl.1 (Nat.le_of_ble_eq_true rfl) dX11_lift_16 ⟨Nat.zero_le _, Nat.zero_le _⟩ (fun r16 H locs hh hw => ?_) rfl
    refine lv_if_ne (tgt := 24) C.1 C.2.1 dX11_lift_19 (by decide) (fun c19 => ?_) (fun c19 => ?_)
    · replace hh := hh.1 c19
      refine lv_aload_n C.1 C.2.1 dX11_lift_24 rfl (lv_at hl 0 rfl) ?_
      refine lv_iload_n C.1 C.2.1 dX11_lift_25 rfl (lv_at hl 1 rfl) ?_
      refine m_pi C hw (inC inW11) 41 (by decide) (wc w_1503) rfl (ty := .int) (by decide +kernel) rfl rfl (Nat.le_of_ble_eq_true rfl) ms_41 dX11_lift_26 (fun H locs hw => ?_)
      refine lv_aload_n C.1 C.2.1 dX11_lift_29 rfl (lv_at hl 0 rfl) ?_
      refine lv_iload_n C.1 C.2.1 dX11_lift_30 rfl (lv_at hl 2 rfl) ?_
      refine m_pi C hw (inC inW11) 42 (by decide) (wc w_1504) rfl (ty := .int) (by decide +kernel) rfl rfl (Nat.le_of_ble_eq_true rfl) ms_42 dX11_lift_31 (fun H locs hw => ?_)
      refine lv_iconst (v := (1 : Int32)) C.1 C.2.1 dX11_lift_34 (by decide) ?_
      exact hR _ _ _ (upd (upd u7.1 41 x1) 42 x2, u7.2) _ _ dX11_lift_35 rfl hh hw
    · replace hh := hh.2 c19
      exact tX11_lift_b22 C hR hh hw (lv_sub hl [0] rfl)
def wpX11_lift (f : Nat → Int32) (g : Nat → Nat → Int32) (x1 : Int32) (x2 : Int32) (K : Int32 → ((Nat → Int32) × (Nat → Nat → Int32)) → Prop) : Prop := wpX11_lift_b0 f g x1 x2 K
theorem ctX11_lift (l : Launch) (D : va_G) (o : Nat) (h : Nat → Nat) (cI cZ : ClassId) (f : Nat → Int32) (g : Nat → Nat → Int32) (x1 : Int32) (x2 : Int32) {K : Int32 → ((Nat → Int32) × (Nat → Nat → Int32)) → Prop} (hh : wpX11_lift f g x1 x2 K) : Ci l yX11_lift wsX11_lift rmX11_lift [.ref o, .int x1, .int x2] D (mT cI cZ) (mWu o h cI cZ) (f, g) K := by
  refine Ci_of (cc := cX11_lift) (maxL := 3) (by decide) rfl (Nat.le_of_ble_eq_true rfl) ?_
  intro p e s m below meth c A Q C hw hR ls hl
  exact tX11_lift_b0 C hR hh hw hl
theorem cdX11_lift : yX11_lift.cls = RX11 ∧ yX11_lift.cls ≠ "java/lang/invoke/MethodHandle" ∧ yX11_lift.cls ≠ "java/lang/invoke/VarHandle" ∧ (parseMethodDescriptor yX11_lift.desc).map (fun d => d.parameters.length) = some 2 := by decide +kernel
abbrev rmX11_wipes : Room := { frames := 1, cells := 0, slots := 0, locals := 20 }
def wpX11_wipes_b2_body (B2 : (Nat → Int32) → (Nat → Nat → Int32) → Int32 → Prop) (f : Nat → Int32) (g : Nat → Nat → Int32) (x1 : Int32) (K : ((Nat → Int32) × (Nat → Nat → Int32)) → Prop) : Prop :=
  wpX11_squares f g  (fun r4 u4 =>
    ((r4 ≤ x1) →
    K (u4.1, u4.2)) ∧
  (¬ (r4 ≤ x1) →
    vp_in x1 36 ∧ vp_in x1 36 ∧ B2 u4.1 (pt (pt u4.2 47 (ix x1) (0 : Int32)) 48 (ix x1) (0 : Int32)) (x1 + (1 : Int32))))
set_option maxHeartbeats 4000000 in
set_option maxRecDepth 100000 in
theorem tX11_wipes_b2_body {B2 : (Nat → Int32) → (Nat → Nat → Int32) → Int32 → Prop} {K : ((Nat → Int32) × (Nat → Nat → Int32)) → Prop} (C : CallFix p m c cX11_wipes 2 s args wsX11_wipes RX11) (hR : Rtv p l e rmX11_wipes s m args below meth c cX11_wipes D A (mT cI cZ) (mWu o h cI cZ) K Q) (hB2 : ∀ (f : Nat → Int32) (g : Nat → Nat → Int32) (x1 : Int32) (H : Heap) (locs : List Loc) (ls : Array Slot), B2 f g x1 → Wd D A s (mT cI cZ) (mW o h cI cZ f g) H locs → lv_has ls 2 [(0, .ref o), (1, .int x1)] → W p l e rmX11_wipes s m args below meth c H locs 0 0 Q (F0 m 2 ls [])) {f : Nat → Int32} {g : Nat → Nat → Int32} {x1 : Int32} (hh : wpX11_wipes_b2_body B2 f g x1 K) {H : Heap} {locs : List Loc} {ls : Array Slot} (hw : Wd D A s (mT cI cZ) (mW o h cI cZ f g) H locs) (hl : lv_has ls 2 [(0, .ref o), (1, .int x1)]) : W p l e rmX11_wipes s m args below meth c H locs 0 0 Q (F0 m 2 ls []) := by
  unfold wpX11_wipes_b2_body at hh
  refine lv_iload_n C.1 C.2.1 dX11_wipes_2 rfl (lv_at hl 1 rfl) ?_
  refine lv_aload_n C.1 C.2.1 dX11_wipes_3 rfl (lv_at hl 0 rfl) ?_
  refine m_Vi C hw (ctX11_squares l D o h cI cZ f g  hh) (cwV 0 C.2.2.2.2 (gd_V w_1454 w_1456 w_54 w_125 w_1457) rfl rfl rfl cdX11_squares ⟨Nat.le_of_ble_eq_true rfl, Nat.le_of_ble_eq_true rfl⟩) rfl hl.1 (Nat.le_of_ble_eq_true rfl) dX11_wipes_4 ⟨Nat.zero_le _, Nat.zero_le _⟩ (fun r4 u4 H locs hh hw => ?_) rfl
  refine lv_icmp_ge (tgt := 30) C.1 C.2.1 dX11_wipes_7 (by decide) (fun c7 => ?_) (fun c7 => ?_)
  · replace hh := hh.1 c7
    exact hR _ _ (u4.1, u4.2) _ _ dX11_wipes_30 hh hw
  · replace hh := hh.2 c7
    refine lv_aload_n C.1 C.2.1 dX11_wipes_10 rfl (lv_at hl 0 rfl) ?_
    refine m_ga C hw (inC inW11) 47 (by decide) (wc w_1509) mg_47 dX11_wipes_11 ?_
    refine lv_iload_n C.1 C.2.1 dX11_wipes_14 rfl (lv_at hl 1 rfl) ?_
    refine lv_iconst (v := (0 : Int32)) C.1 C.2.1 dX11_wipes_15 (by decide) ?_
    obtain ⟨hi16, hh⟩ := hh
    refine m_ias C hw mp_47 mq_47 hi16 dX11_wipes_16 (fun H locs hw => ?_)
    refine lv_aload_n C.1 C.2.1 dX11_wipes_17 rfl (lv_at hl 0 rfl) ?_
    refine m_ga C hw (inC inW11) 48 (by decide) (wc w_1510) mg_48 dX11_wipes_18 ?_
    refine lv_iload_n C.1 C.2.1 dX11_wipes_21 rfl (lv_at hl 1 rfl) ?_
    refine lv_iconst (v := (0 : Int32)) C.1 C.2.1 dX11_wipes_22 (by decide) ?_
    obtain ⟨hi23, hh⟩ := hh
    refine m_ias C hw mp_48 mq_48 hi23 dX11_wipes_23 (fun H locs hw => ?_)
    refine lv_iinc (v := x1 + (1 : Int32)) (lv' := [(1, .int (x1 + (1 : Int32))), (0, .ref o)]) C.1 C.2.1 dX11_wipes_24 hl (k := 1) rfl rfl (by decide) rfl (fun ls hl => ?_)
    refine lv_goto (tgt := 2) C.1 C.2.1 dX11_wipes_27 (by decide) ?_
    exact hB2 _ _ _ _ _ _ hh hw (lv_sub hl [1, 0] rfl)
def wpX11_wipes_b2 (n_ : Nat) (f : Nat → Int32) (g : Nat → Nat → Int32) (x1 : Int32) (K : ((Nat → Int32) × (Nat → Nat → Int32)) → Prop) : Prop := match n_ with
  | 0 => False
  | n + 1 => wpX11_wipes_b2_body (fun f g x1 => wpX11_wipes_b2 n f g x1 K) f g x1 K
theorem tX11_wipes_b2 {K : ((Nat → Int32) × (Nat → Nat → Int32)) → Prop} (C : CallFix p m c cX11_wipes 2 s args wsX11_wipes RX11) (hR : Rtv p l e rmX11_wipes s m args below meth c cX11_wipes D A (mT cI cZ) (mWu o h cI cZ) K Q) (n : Nat) : ∀ (f : Nat → Int32) (g : Nat → Nat → Int32) (x1 : Int32) (H : Heap) (locs : List Loc) (ls : Array Slot), wpX11_wipes_b2 n f g x1 K → Wd D A s (mT cI cZ) (mW o h cI cZ f g) H locs → lv_has ls 2 [(0, .ref o), (1, .int x1)] → W p l e rmX11_wipes s m args below meth c H locs 0 0 Q (F0 m 2 ls []) := by
  induction n with
  | zero => intro f g x1 H locs ls hh; exact hh.elim
  | succ n ih => intro f g x1 H locs ls hh hw hl; exact tX11_wipes_b2_body C hR ih hh hw hl
def wpX11_wipes_b0 (f : Nat → Int32) (g : Nat → Nat → Int32) (K : ((Nat → Int32) × (Nat → Nat → Int32)) → Prop) : Prop :=
  ∃ n, wpX11_wipes_b2 n f g (0 : Int32) K
set_option maxHeartbeats 4000000 in
set_option maxRecDepth 100000 in
theorem tX11_wipes_b0 {K : ((Nat → Int32) × (Nat → Nat → Int32)) → Prop} (C : CallFix p m c cX11_wipes 2 s args wsX11_wipes RX11) (hR : Rtv p l e rmX11_wipes s m args below meth c cX11_wipes D A (mT cI cZ) (mWu o h cI cZ) K Q) {f : Nat → Int32} {g : Nat → Nat → Int32} (hh : wpX11_wipes_b0 f g K) {H : Heap} {locs : List Loc} {ls : Array Slot} (hw : Wd D A s (mT cI cZ) (mW o h cI cZ f g) H locs) (hl : lv_has ls 2 [(0, .ref o)]) : W p l e rmX11_wipes s m args below meth c H locs 0 0 Q (F0 m 0 ls []) := by
  unfold wpX11_wipes_b0 at hh
  refine lv_iconst (v := (0 : Int32)) C.1 C.2.1 dX11_wipes_0 (by decide) ?_
  refine lv_istore_n (lv' := [(1, .int (0 : Int32)), (0, .ref o)]) C.1 C.2.1 dX11_wipes_1 rfl hl (by decide) rfl (fun ls hl => ?_)
  obtain ⟨n, hh⟩ := hh
  exact tX11_wipes_b2 C hR n _ _ _ _ _ _ hh hw (lv_sub hl [1, 0] rfl)
def wpX11_wipes (f : Nat → Int32) (g : Nat → Nat → Int32) (K : ((Nat → Int32) × (Nat → Nat → Int32)) → Prop) : Prop := wpX11_wipes_b0 f g K
theorem ctX11_wipes (l : Launch) (D : va_G) (o : Nat) (h : Nat → Nat) (cI cZ : ClassId) (f : Nat → Int32) (g : Nat → Nat → Int32) {K : ((Nat → Int32) × (Nat → Nat → Int32)) → Prop} (hh : wpX11_wipes f g K) : Cv l yX11_wipes wsX11_wipes rmX11_wipes [.ref o] D (mT cI cZ) (mWu o h cI cZ) (f, g) K := by
  refine Cv_of (cc := cX11_wipes) (maxL := 2) (by decide) rfl (Nat.le_of_ble_eq_true rfl) ?_
  intro p e s m below meth c A Q C hw hR ls hl
  exact tX11_wipes_b0 C hR hh hw hl
theorem cdX11_wipes : yX11_wipes.cls = RX11 ∧ yX11_wipes.cls ≠ "java/lang/invoke/MethodHandle" ∧ yX11_wipes.cls ≠ "java/lang/invoke/VarHandle" ∧ (parseMethodDescriptor yX11_wipes.desc).map (fun d => d.parameters.length) = some 0 := by decide +kernel
abbrev rmX11_wipe : Room := { frames := 2, cells := 0, slots := 0, locals := 41 }
def wpX11_wipe_b41 (B9 : (Nat → Int32) → (Nat → Nat → Int32) → Int32 → Int32 → Prop) (f : Nat → Int32) (g : Nat → Nat → Int32) (k0 : Int32) (k1 : Int32) (x2 : Int32) (K : Int32 → ((Nat → Int32) × (Nat → Nat → Int32)) → Prop) : Prop :=
  B9 f g (k0 + k1) (x2 + (1 : Int32))
set_option maxHeartbeats 4000000 in
set_option maxRecDepth 100000 in
theorem tX11_wipe_b41 {B9 : (Nat → Int32) → (Nat → Nat → Int32) → Int32 → Int32 → Prop} {K : Int32 → ((Nat → Int32) × (Nat → Nat → Int32)) → Prop} (C : CallFix p m c cX11_wipe 3 s args wsX11_wipe RX11) (hR : Rti .int p l e rmX11_wipe s m args below meth c cX11_wipe D A (mT cI cZ) (mWu o h cI cZ) K Q) (hB9 : ∀ (f : Nat → Int32) (g : Nat → Nat → Int32) (x1 : Int32) (x2 : Int32) (H : Heap) (locs : List Loc) (ls : Array Slot), B9 f g x1 x2 → Wd D A s (mT cI cZ) (mW o h cI cZ f g) H locs → lv_has ls 3 [(0, .ref o), (1, .int x1), (2, .int x2)] → W p l e rmX11_wipe s m args below meth c H locs 0 0 Q (F0 m 9 ls [])) {f : Nat → Int32} {g : Nat → Nat → Int32} {k0 : Int32} {k1 : Int32} {x2 : Int32} (hh : wpX11_wipe_b41 B9 f g k0 k1 x2 K) {H : Heap} {locs : List Loc} {ls : Array Slot} (hw : Wd D A s (mT cI cZ) (mW o h cI cZ f g) H locs) (hl : lv_has ls 3 [(0, .ref o), (2, .int x2)]) : W p l e rmX11_wipe s m args below meth c H locs 0 0 Q (F0 m 41 ls [.int k1, .int k0]) := by
  unfold wpX11_wipe_b41 at hh
  refine lv_iadd C.1 C.2.1 dX11_wipe_41 ?_
  refine lv_istore_n (lv' := [(1, .int (k0 + k1)), (0, .ref o), (2, .int x2)]) C.1 C.2.1 dX11_wipe_42 rfl hl (by decide) rfl (fun ls hl => ?_)
  refine lv_iinc (v := x2 + (1 : Int32)) (lv' := [(2, .int (x2 + (1 : Int32))), (1, .int (k0 + k1)), (0, .ref o)]) C.1 C.2.1 dX11_wipe_43 hl (k := 2) rfl rfl (by decide) rfl (fun ls hl => ?_)
  refine lv_goto (tgt := 9) C.1 C.2.1 dX11_wipe_46 (by decide) ?_
  exact hB9 _ _ _ _ _ _ _ hh hw (lv_sub hl [2, 1, 0] rfl)
def wpX11_wipe_b36 (B9 : (Nat → Int32) → (Nat → Nat → Int32) → Int32 → Int32 → Prop) (f : Nat → Int32) (g : Nat → Nat → Int32) (k0 : Int32) (x2 : Int32) (K : Int32 → ((Nat → Int32) × (Nat → Nat → Int32)) → Prop) : Prop :=
  wpX11_wipe_b41 B9 f g k0 (1 : Int32) x2 K
set_option maxHeartbeats 4000000 in
set_option maxRecDepth 100000 in
theorem tX11_wipe_b36 {B9 : (Nat → Int32) → (Nat → Nat → Int32) → Int32 → Int32 → Prop} {K : Int32 → ((Nat → Int32) × (Nat → Nat → Int32)) → Prop} (C : CallFix p m c cX11_wipe 3 s args wsX11_wipe RX11) (hR : Rti .int p l e rmX11_wipe s m args below meth c cX11_wipe D A (mT cI cZ) (mWu o h cI cZ) K Q) (hB9 : ∀ (f : Nat → Int32) (g : Nat → Nat → Int32) (x1 : Int32) (x2 : Int32) (H : Heap) (locs : List Loc) (ls : Array Slot), B9 f g x1 x2 → Wd D A s (mT cI cZ) (mW o h cI cZ f g) H locs → lv_has ls 3 [(0, .ref o), (1, .int x1), (2, .int x2)] → W p l e rmX11_wipe s m args below meth c H locs 0 0 Q (F0 m 9 ls [])) {f : Nat → Int32} {g : Nat → Nat → Int32} {k0 : Int32} {x2 : Int32} (hh : wpX11_wipe_b36 B9 f g k0 x2 K) {H : Heap} {locs : List Loc} {ls : Array Slot} (hw : Wd D A s (mT cI cZ) (mW o h cI cZ f g) H locs) (hl : lv_has ls 3 [(0, .ref o), (2, .int x2)]) : W p l e rmX11_wipe s m args below meth c H locs 0 0 Q (F0 m 36 ls [.int k0]) := by
  unfold wpX11_wipe_b36 at hh
  refine lv_iconst (v := (1 : Int32)) C.1 C.2.1 dX11_wipe_36 (by decide) ?_
  refine lv_goto (tgt := 41) C.1 C.2.1 dX11_wipe_37 (by decide) ?_
  exact tX11_wipe_b41 C hR hB9 hh hw hl
def wpX11_wipe_b9_body (B9 : (Nat → Int32) → (Nat → Nat → Int32) → Int32 → Int32 → Prop) (f : Nat → Int32) (g : Nat → Nat → Int32) (x1 : Int32) (x2 : Int32) (K : Int32 → ((Nat → Int32) × (Nat → Nat → Int32)) → Prop) : Prop :=
  wpX11_squares f g  (fun r11 u11 =>
    ((r11 ≤ x2) →
    wpX11_wipes u11.1 u11.2  (fun u50 =>
      K x1 (upd (upd (upd u50.1 43 (0 : Int32)) 44 (0 : Int32)) 45 ((u50.1 49) &&& (u50.1 50)), u50.2))) ∧
  (¬ (r11 ≤ x2) →
    vp_in x2 36 ∧ (¬ ((u11.2 47 (ix x2)) = 0) →
      wpX11_wipe_b36 B9 u11.1 u11.2 x1 x2 K) ∧
    (((u11.2 47 (ix x2)) = 0) →
      vp_in x2 36 ∧ (((u11.2 48 (ix x2)) = 0) →
        wpX11_wipe_b41 B9 u11.1 u11.2 x1 (0 : Int32) x2 K) ∧
      (¬ ((u11.2 48 (ix x2)) = 0) →
        wpX11_wipe_b36 B9 u11.1 u11.2 x1 x2 K))))
set_option maxHeartbeats 4000000 in
set_option maxRecDepth 100000 in
theorem tX11_wipe_b9_body {B9 : (Nat → Int32) → (Nat → Nat → Int32) → Int32 → Int32 → Prop} {K : Int32 → ((Nat → Int32) × (Nat → Nat → Int32)) → Prop} (C : CallFix p m c cX11_wipe 3 s args wsX11_wipe RX11) (hR : Rti .int p l e rmX11_wipe s m args below meth c cX11_wipe D A (mT cI cZ) (mWu o h cI cZ) K Q) (hB9 : ∀ (f : Nat → Int32) (g : Nat → Nat → Int32) (x1 : Int32) (x2 : Int32) (H : Heap) (locs : List Loc) (ls : Array Slot), B9 f g x1 x2 → Wd D A s (mT cI cZ) (mW o h cI cZ f g) H locs → lv_has ls 3 [(0, .ref o), (1, .int x1), (2, .int x2)] → W p l e rmX11_wipe s m args below meth c H locs 0 0 Q (F0 m 9 ls [])) {f : Nat → Int32} {g : Nat → Nat → Int32} {x1 : Int32} {x2 : Int32} (hh : wpX11_wipe_b9_body B9 f g x1 x2 K) {H : Heap} {locs : List Loc} {ls : Array Slot} (hw : Wd D A s (mT cI cZ) (mW o h cI cZ f g) H locs) (hl : lv_has ls 3 [(0, .ref o), (1, .int x1), (2, .int x2)]) : W p l e rmX11_wipe s m args below meth c H locs 0 0 Q (F0 m 9 ls []) := by
  unfold wpX11_wipe_b9_body at hh
  refine lv_iload_n C.1 C.2.1 dX11_wipe_9 rfl (lv_at hl 2 rfl) ?_
  refine lv_aload_n C.1 C.2.1 dX11_wipe_10 rfl (lv_at hl 0 rfl) ?_
  refine m_Vi C hw (ctX11_squares l D o h cI cZ f g  hh) (cwV 0 C.2.2.2.2 (gd_V w_1454 w_1456 w_54 w_125 w_1457) rfl rfl rfl cdX11_squares ⟨Nat.le_of_ble_eq_true rfl, Nat.le_of_ble_eq_true rfl⟩) rfl hl.1 (Nat.le_of_ble_eq_true rfl) dX11_wipe_11 ⟨Nat.zero_le _, Nat.zero_le _⟩ (fun r11 u11 H locs hh hw => ?_) rfl
  refine lv_icmp_ge (tgt := 49) C.1 C.2.1 dX11_wipe_14 (by decide) (fun c14 => ?_) (fun c14 => ?_)
  · replace hh := hh.1 c14
    refine lv_aload_n C.1 C.2.1 dX11_wipe_49 rfl (lv_at hl 0 rfl) ?_
    refine m_Vv C hw (ctX11_wipes l D o h cI cZ u11.1 u11.2  hh) (cwV 0 C.2.2.2.2 (gd_V w_1850 w_1852 w_84 w_125 w_1853) rfl rfl rfl cdX11_wipes ⟨Nat.le_of_ble_eq_true rfl, Nat.le_of_ble_eq_true rfl⟩) rfl hl.1 (Nat.le_of_ble_eq_true rfl) dX11_wipe_50 ⟨Nat.zero_le _, Nat.zero_le _⟩ (fun u50 H locs hh hw => ?_) rfl
    refine lv_aload_n C.1 C.2.1 dX11_wipe_53 rfl (lv_at hl 0 rfl) ?_
    refine lv_iconst (v := (0 : Int32)) C.1 C.2.1 dX11_wipe_54 (by decide) ?_
    refine m_pi C hw (inC inW11) 43 (by decide) (wc w_1505) rfl (ty := .int) (by decide +kernel) rfl rfl (Nat.le_of_ble_eq_true rfl) ms_43 dX11_wipe_55 (fun H locs hw => ?_)
    refine lv_aload_n C.1 C.2.1 dX11_wipe_58 rfl (lv_at hl 0 rfl) ?_
    refine lv_iconst (v := (0 : Int32)) C.1 C.2.1 dX11_wipe_59 (by decide) ?_
    refine m_pi C hw (inC inW11) 44 (by decide) (wc w_1506) rfl (ty := .int) (by decide +kernel) rfl rfl (Nat.le_of_ble_eq_true rfl) ms_44 dX11_wipe_60 (fun H locs hw => ?_)
    refine lv_aload_n C.1 C.2.1 dX11_wipe_63 rfl (lv_at hl 0 rfl) ?_
    refine lv_aload_n C.1 C.2.1 dX11_wipe_64 rfl (lv_at hl 0 rfl) ?_
    refine m_gi C hw (inC inW11) 49 (by decide) (wc w_1511) mg_49 (x := u50.1 49) rfl dX11_wipe_65 ?_
    refine lv_aload_n C.1 C.2.1 dX11_wipe_68 rfl (lv_at hl 0 rfl) ?_
    refine m_gi C hw (inC inW11) 50 (by decide) (wc w_1512) mg_50 (x := u50.1 50) rfl dX11_wipe_69 ?_
    refine lv_iand C.1 C.2.1 dX11_wipe_72 ?_
    refine m_pi C hw (inC inW11) 45 (by decide) (wc w_1507) rfl (ty := .int) (by decide +kernel) rfl rfl (Nat.le_of_ble_eq_true rfl) ms_45 dX11_wipe_73 (fun H locs hw => ?_)
    refine lv_iload_n C.1 C.2.1 dX11_wipe_76 rfl (lv_at hl 1 rfl) ?_
    exact hR _ _ _ (upd (upd (upd u50.1 43 (0 : Int32)) 44 (0 : Int32)) 45 ((u50.1 49) &&& (u50.1 50)), u50.2) _ _ dX11_wipe_77 rfl hh hw
  · replace hh := hh.2 c14
    refine lv_iload_n C.1 C.2.1 dX11_wipe_17 rfl (lv_at hl 1 rfl) ?_
    refine lv_aload_n C.1 C.2.1 dX11_wipe_18 rfl (lv_at hl 0 rfl) ?_
    refine m_ga C hw (inC inW11) 47 (by decide) (wc w_1509) mg_47 dX11_wipe_19 ?_
    refine lv_iload_n C.1 C.2.1 dX11_wipe_22 rfl (lv_at hl 2 rfl) ?_
    obtain ⟨hi23, hh⟩ := hh
    refine m_ial C hw mp_47 (x := u11.2 47 (ix x2)) hi23 rfl dX11_wipe_23 ?_
    refine lv_if_ne (tgt := 36) C.1 C.2.1 dX11_wipe_24 (by decide) (fun c24 => ?_) (fun c24 => ?_)
    · replace hh := hh.1 c24
      exact tX11_wipe_b36 C hR hB9 hh hw (lv_sub hl [0, 2] rfl)
    · replace hh := hh.2 c24
      refine lv_aload_n C.1 C.2.1 dX11_wipe_27 rfl (lv_at hl 0 rfl) ?_
      refine m_ga C hw (inC inW11) 48 (by decide) (wc w_1510) mg_48 dX11_wipe_28 ?_
      refine lv_iload_n C.1 C.2.1 dX11_wipe_31 rfl (lv_at hl 2 rfl) ?_
      obtain ⟨hi32, hh⟩ := hh
      refine m_ial C hw mp_48 (x := u11.2 48 (ix x2)) hi32 rfl dX11_wipe_32 ?_
      refine lv_if_eq (tgt := 40) C.1 C.2.1 dX11_wipe_33 (by decide) (fun c33 => ?_) (fun c33 => ?_)
      · replace hh := hh.1 c33
        refine lv_iconst (v := (0 : Int32)) C.1 C.2.1 dX11_wipe_40 (by decide) ?_
        exact tX11_wipe_b41 C hR hB9 hh hw (lv_sub hl [0, 2] rfl)
      · replace hh := hh.2 c33
        exact tX11_wipe_b36 C hR hB9 hh hw (lv_sub hl [0, 2] rfl)
def wpX11_wipe_b9 (n_ : Nat) (f : Nat → Int32) (g : Nat → Nat → Int32) (x1 : Int32) (x2 : Int32) (K : Int32 → ((Nat → Int32) × (Nat → Nat → Int32)) → Prop) : Prop := match n_ with
  | 0 => False
  | n + 1 => wpX11_wipe_b9_body (fun f g x1 x2 => wpX11_wipe_b9 n f g x1 x2 K) f g x1 x2 K
theorem tX11_wipe_b9 {K : Int32 → ((Nat → Int32) × (Nat → Nat → Int32)) → Prop} (C : CallFix p m c cX11_wipe 3 s args wsX11_wipe RX11) (hR : Rti .int p l e rmX11_wipe s m args below meth c cX11_wipe D A (mT cI cZ) (mWu o h cI cZ) K Q) (n : Nat) : ∀ (f : Nat → Int32) (g : Nat → Nat → Int32) (x1 : Int32) (x2 : Int32) (H : Heap) (locs : List Loc) (ls : Array Slot), wpX11_wipe_b9 n f g x1 x2 K → Wd D A s (mT cI cZ) (mW o h cI cZ f g) H locs → lv_has ls 3 [(0, .ref o), (1, .int x1), (2, .int x2)] → W p l e rmX11_wipe s m args below meth c H locs 0 0 Q (F0 m 9 ls []) := by
  induction n with
  | zero => intro f g x1 x2 H locs ls hh; exact hh.elim
  | succ n ih => intro f g x1 x2 H locs ls hh hw hl; exact tX11_wipe_b9_body C hR ih hh hw hl
def wpX11_wipe_b0 (f : Nat → Int32) (g : Nat → Nat → Int32) (K : Int32 → ((Nat → Int32) × (Nat → Nat → Int32)) → Prop) : Prop :=
  ∃ n, wpX11_wipe_b9 n (upd f 2 (0 : Int32)) g (0 : Int32) (0 : Int32) K
set_option maxHeartbeats 4000000 in
set_option maxRecDepth 100000 in
theorem tX11_wipe_b0 {K : Int32 → ((Nat → Int32) × (Nat → Nat → Int32)) → Prop} (C : CallFix p m c cX11_wipe 3 s args wsX11_wipe RX11) (hR : Rti .int p l e rmX11_wipe s m args below meth c cX11_wipe D A (mT cI cZ) (mWu o h cI cZ) K Q) {f : Nat → Int32} {g : Nat → Nat → Int32} (hh : wpX11_wipe_b0 f g K) {H : Heap} {locs : List Loc} {ls : Array Slot} (hw : Wd D A s (mT cI cZ) (mW o h cI cZ f g) H locs) (hl : lv_has ls 3 [(0, .ref o)]) : W p l e rmX11_wipe s m args below meth c H locs 0 0 Q (F0 m 0 ls []) := by
  unfold wpX11_wipe_b0 at hh
  refine lv_aload_n C.1 C.2.1 dX11_wipe_0 rfl (lv_at hl 0 rfl) ?_
  refine lv_iconst (v := (0 : Int32)) C.1 C.2.1 dX11_wipe_1 (by decide) ?_
  refine m_pi C hw (inC inW11) 2 (by decide) (wc w_1464) rfl (ty := .int) (by decide +kernel) rfl rfl (Nat.le_of_ble_eq_true rfl) ms_2 dX11_wipe_2 (fun H locs hw => ?_)
  refine lv_iconst (v := (0 : Int32)) C.1 C.2.1 dX11_wipe_5 (by decide) ?_
  refine lv_istore_n (lv' := [(1, .int (0 : Int32)), (0, .ref o)]) C.1 C.2.1 dX11_wipe_6 rfl hl (by decide) rfl (fun ls hl => ?_)
  refine lv_iconst (v := (0 : Int32)) C.1 C.2.1 dX11_wipe_7 (by decide) ?_
  refine lv_istore_n (lv' := [(2, .int (0 : Int32)), (1, .int (0 : Int32)), (0, .ref o)]) C.1 C.2.1 dX11_wipe_8 rfl hl (by decide) rfl (fun ls hl => ?_)
  obtain ⟨n, hh⟩ := hh
  exact tX11_wipe_b9 C hR n _ _ _ _ _ _ _ hh hw (lv_sub hl [2, 1, 0] rfl)
def wpX11_wipe (f : Nat → Int32) (g : Nat → Nat → Int32) (K : Int32 → ((Nat → Int32) × (Nat → Nat → Int32)) → Prop) : Prop := wpX11_wipe_b0 f g K
theorem ctX11_wipe (l : Launch) (D : va_G) (o : Nat) (h : Nat → Nat) (cI cZ : ClassId) (f : Nat → Int32) (g : Nat → Nat → Int32) {K : Int32 → ((Nat → Int32) × (Nat → Nat → Int32)) → Prop} (hh : wpX11_wipe f g K) : Ci l yX11_wipe wsX11_wipe rmX11_wipe [.ref o] D (mT cI cZ) (mWu o h cI cZ) (f, g) K := by
  refine Ci_of (cc := cX11_wipe) (maxL := 3) (by decide) rfl (Nat.le_of_ble_eq_true rfl) ?_
  intro p e s m below meth c A Q C hw hR ls hl
  exact tX11_wipe_b0 C hR hh hw hl
theorem cdX11_wipe : yX11_wipe.cls = RX11 ∧ yX11_wipe.cls ≠ "java/lang/invoke/MethodHandle" ∧ yX11_wipe.cls ≠ "java/lang/invoke/VarHandle" ∧ (parseMethodDescriptor yX11_wipe.desc).map (fun d => d.parameters.length) = some 0 := by decide +kernel
abbrev rmX11_ticks : Room := { frames := 0, cells := 0, slots := 0, locals := 0 }
def wpX11_ticks_b60_body (B60 : (Nat → Int32) → (Nat → Nat → Int32) → Int32 → Int32 → Prop) (f : Nat → Int32) (g : Nat → Nat → Int32) (x1 : Int32) (x3 : Int32) (K : Int32 → ((Nat → Int32) × (Nat → Nat → Int32)) → Prop) : Prop :=
  vp_in x1 60 ∧ (((((12 : Int32) * x1) + (g 14 (ix x1))) ≤ x3) →
    K x1 (f, g)) ∧
  (¬ ((((12 : Int32) * x1) + (g 14 (ix x1))) ≤ x3) →
    False)
set_option maxHeartbeats 4000000 in
set_option maxRecDepth 100000 in
theorem tX11_ticks_b60_body {B60 : (Nat → Int32) → (Nat → Nat → Int32) → Int32 → Int32 → Prop} {K : Int32 → ((Nat → Int32) × (Nat → Nat → Int32)) → Prop} (C : CallFix p m c cX11_ticks 4 s args wsX11_ticks RX11) (hR : Rti .int p l e rmX11_ticks s m args below meth c cX11_ticks D A (mT cI cZ) (mWu o h cI cZ) K Q) (hB60 : ∀ (f : Nat → Int32) (g : Nat → Nat → Int32) (x1 : Int32) (x3 : Int32) (H : Heap) (locs : List Loc) (ls : Array Slot), B60 f g x1 x3 → Wd D A s (mT cI cZ) (mW o h cI cZ f g) H locs → lv_has ls 4 [(0, .ref o), (1, .int x1), (3, .int x3)] → W p l e rmX11_ticks s m args below meth c H locs 0 0 Q (F0 m 60 ls [])) {f : Nat → Int32} {g : Nat → Nat → Int32} {x1 : Int32} {x3 : Int32} (hh : wpX11_ticks_b60_body B60 f g x1 x3 K) {H : Heap} {locs : List Loc} {ls : Array Slot} (hw : Wd D A s (mT cI cZ) (mW o h cI cZ f g) H locs) (hl : lv_has ls 4 [(0, .ref o), (1, .int x1), (3, .int x3)]) : W p l e rmX11_ticks s m args below meth c H locs 0 0 Q (F0 m 60 ls []) := by
  unfold wpX11_ticks_b60_body at hh
  refine lv_iload_n C.1 C.2.1 dX11_ticks_60 rfl (lv_at hl 2 rfl) ?_
  refine lv_bipush (v := (12 : Int32)) C.1 C.2.1 dX11_ticks_61 (by decide) ?_
  refine lv_iload_n C.1 C.2.1 dX11_ticks_63 rfl (lv_at hl 1 rfl) ?_
  refine lv_imul C.1 C.2.1 dX11_ticks_64 ?_
  refine lv_aload_n C.1 C.2.1 dX11_ticks_65 rfl (lv_at hl 0 rfl) ?_
  refine m_ga C hw (inC inW11) 14 (by decide) (wc w_1476) mg_14 dX11_ticks_66 ?_
  refine lv_iload_n C.1 C.2.1 dX11_ticks_69 rfl (lv_at hl 1 rfl) ?_
  obtain ⟨hi70, hh⟩ := hh
  refine m_ial C hw mp_14 (x := g 14 (ix x1)) hi70 rfl dX11_ticks_70 ?_
  refine lv_iadd C.1 C.2.1 dX11_ticks_71 ?_
  refine lv_icmp_ge (tgt := 86) C.1 C.2.1 dX11_ticks_72 (by decide) (fun c72 => ?_) (fun c72 => ?_)
  · replace hh := hh.1 c72
    refine lv_iload_n C.1 C.2.1 dX11_ticks_86 rfl (lv_at hl 1 rfl) ?_
    exact hR _ _ _ (f, g) _ _ dX11_ticks_87 rfl hh hw
  · replace hh := hh.2 c72
    refine lv_aload_n C.1 C.2.1 dX11_ticks_75 rfl (lv_at hl 0 rfl) ?_
    refine lv_iload_n C.1 C.2.1 dX11_ticks_76 rfl (lv_at hl 2 rfl) ?_
    exact hh.elim
def wpX11_ticks_b60 (n_ : Nat) (f : Nat → Int32) (g : Nat → Nat → Int32) (x1 : Int32) (x3 : Int32) (K : Int32 → ((Nat → Int32) × (Nat → Nat → Int32)) → Prop) : Prop := match n_ with
  | 0 => False
  | n + 1 => wpX11_ticks_b60_body (fun f g x1 x3 => wpX11_ticks_b60 n f g x1 x3 K) f g x1 x3 K
theorem tX11_ticks_b60 {K : Int32 → ((Nat → Int32) × (Nat → Nat → Int32)) → Prop} (C : CallFix p m c cX11_ticks 4 s args wsX11_ticks RX11) (hR : Rti .int p l e rmX11_ticks s m args below meth c cX11_ticks D A (mT cI cZ) (mWu o h cI cZ) K Q) (n : Nat) : ∀ (f : Nat → Int32) (g : Nat → Nat → Int32) (x1 : Int32) (x3 : Int32) (H : Heap) (locs : List Loc) (ls : Array Slot), wpX11_ticks_b60 n f g x1 x3 K → Wd D A s (mT cI cZ) (mW o h cI cZ f g) H locs → lv_has ls 4 [(0, .ref o), (1, .int x1), (3, .int x3)] → W p l e rmX11_ticks s m args below meth c H locs 0 0 Q (F0 m 60 ls []) := by
  induction n with
  | zero => intro f g x1 x3 H locs ls hh; exact hh.elim
  | succ n ih => intro f g x1 x3 H locs ls hh hw hl; exact tX11_ticks_b60_body C hR ih hh hw hl
def wpX11_ticks_b48 (B2 : (Nat → Int32) → (Nat → Nat → Int32) → Int32 → Prop) (f : Nat → Int32) (g : Nat → Nat → Int32) (x1 : Int32) (x2 : Int32) (K : Int32 → ((Nat → Int32) × (Nat → Nat → Int32)) → Prop) : Prop :=
  (¬ (x2 = 0) →
    ∃ n, wpX11_ticks_b60 n f g x1 ((12 : Int32) * x1) K) ∧
  ((x2 = 0) →
    B2 f g (x1 + (1 : Int32)))
set_option maxHeartbeats 4000000 in
set_option maxRecDepth 100000 in
theorem tX11_ticks_b48 {B2 : (Nat → Int32) → (Nat → Nat → Int32) → Int32 → Prop} {K : Int32 → ((Nat → Int32) × (Nat → Nat → Int32)) → Prop} (C : CallFix p m c cX11_ticks 4 s args wsX11_ticks RX11) (hR : Rti .int p l e rmX11_ticks s m args below meth c cX11_ticks D A (mT cI cZ) (mWu o h cI cZ) K Q) (hB2 : ∀ (f : Nat → Int32) (g : Nat → Nat → Int32) (x1 : Int32) (H : Heap) (locs : List Loc) (ls : Array Slot), B2 f g x1 → Wd D A s (mT cI cZ) (mW o h cI cZ f g) H locs → lv_has ls 4 [(0, .ref o), (1, .int x1)] → W p l e rmX11_ticks s m args below meth c H locs 0 0 Q (F0 m 2 ls [])) {f : Nat → Int32} {g : Nat → Nat → Int32} {x1 : Int32} {x2 : Int32} (hh : wpX11_ticks_b48 B2 f g x1 x2 K) {H : Heap} {locs : List Loc} {ls : Array Slot} (hw : Wd D A s (mT cI cZ) (mW o h cI cZ f g) H locs) (hl : lv_has ls 4 [(0, .ref o), (1, .int x1), (2, .int x2)]) : W p l e rmX11_ticks s m args below meth c H locs 0 0 Q (F0 m 48 ls []) := by
  unfold wpX11_ticks_b48 at hh
  refine lv_iload_n C.1 C.2.1 dX11_ticks_48 rfl (lv_at hl 2 rfl) ?_
  refine lv_if_ne (tgt := 55) C.1 C.2.1 dX11_ticks_49 (by decide) (fun c49 => ?_) (fun c49 => ?_)
  · replace hh := hh.1 c49
    refine lv_bipush (v := (12 : Int32)) C.1 C.2.1 dX11_ticks_55 (by decide) ?_
    refine lv_iload_n C.1 C.2.1 dX11_ticks_57 rfl (lv_at hl 1 rfl) ?_
    refine lv_imul C.1 C.2.1 dX11_ticks_58 ?_
    refine lv_istore_n (lv' := [(3, .int ((12 : Int32) * x1)), (0, .ref o), (1, .int x1), (2, .int x2)]) C.1 C.2.1 dX11_ticks_59 rfl hl (by decide) rfl (fun ls hl => ?_)
    obtain ⟨n, hh⟩ := hh
    exact tX11_ticks_b60 C hR n _ _ _ _ _ _ _ hh hw (lv_sub hl [1, 2, 0] rfl)
  · replace hh := hh.2 c49
    refine lv_goto (tgt := 88) C.1 C.2.1 dX11_ticks_52 (by decide) ?_
    refine lv_iinc (v := x1 + (1 : Int32)) (lv' := [(1, .int (x1 + (1 : Int32))), (0, .ref o), (2, .int x2)]) C.1 C.2.1 dX11_ticks_88 hl (k := 1) rfl rfl (by decide) rfl (fun ls hl => ?_)
    refine lv_goto (tgt := 2) C.1 C.2.1 dX11_ticks_91 (by decide) ?_
    exact hB2 _ _ _ _ _ _ hh hw (lv_sub hl [1, 0] rfl)
def wpX11_ticks_b17_body (B2 : (Nat → Int32) → (Nat → Nat → Int32) → Int32 → Prop) (B17 : (Nat → Int32) → (Nat → Nat → Int32) → Int32 → Int32 → Int32 → Prop) (f : Nat → Int32) (g : Nat → Nat → Int32) (x1 : Int32) (x2 : Int32) (x3 : Int32) (K : Int32 → ((Nat → Int32) × (Nat → Nat → Int32)) → Prop) : Prop :=
  vp_in x1 60 ∧ (((((12 : Int32) * x1) + (g 13 (ix x1))) ≤ x3) →
    wpX11_ticks_b48 B2 f g x1 x2 K) ∧
  (¬ ((((12 : Int32) * x1) + (g 13 (ix x1))) ≤ x3) →
    ((x2 = 0) →
      wpX11_ticks_b48 B2 f g x1 x2 K) ∧
    (¬ (x2 = 0) →
      False))
set_option maxHeartbeats 4000000 in
set_option maxRecDepth 100000 in
theorem tX11_ticks_b17_body {B2 : (Nat → Int32) → (Nat → Nat → Int32) → Int32 → Prop} {B17 : (Nat → Int32) → (Nat → Nat → Int32) → Int32 → Int32 → Int32 → Prop} {K : Int32 → ((Nat → Int32) × (Nat → Nat → Int32)) → Prop} (C : CallFix p m c cX11_ticks 4 s args wsX11_ticks RX11) (hR : Rti .int p l e rmX11_ticks s m args below meth c cX11_ticks D A (mT cI cZ) (mWu o h cI cZ) K Q) (hB2 : ∀ (f : Nat → Int32) (g : Nat → Nat → Int32) (x1 : Int32) (H : Heap) (locs : List Loc) (ls : Array Slot), B2 f g x1 → Wd D A s (mT cI cZ) (mW o h cI cZ f g) H locs → lv_has ls 4 [(0, .ref o), (1, .int x1)] → W p l e rmX11_ticks s m args below meth c H locs 0 0 Q (F0 m 2 ls [])) (hB17 : ∀ (f : Nat → Int32) (g : Nat → Nat → Int32) (x1 : Int32) (x2 : Int32) (x3 : Int32) (H : Heap) (locs : List Loc) (ls : Array Slot), B17 f g x1 x2 x3 → Wd D A s (mT cI cZ) (mW o h cI cZ f g) H locs → lv_has ls 4 [(0, .ref o), (1, .int x1), (2, .int x2), (3, .int x3)] → W p l e rmX11_ticks s m args below meth c H locs 0 0 Q (F0 m 17 ls [])) {f : Nat → Int32} {g : Nat → Nat → Int32} {x1 : Int32} {x2 : Int32} {x3 : Int32} (hh : wpX11_ticks_b17_body B2 B17 f g x1 x2 x3 K) {H : Heap} {locs : List Loc} {ls : Array Slot} (hw : Wd D A s (mT cI cZ) (mW o h cI cZ f g) H locs) (hl : lv_has ls 4 [(0, .ref o), (1, .int x1), (2, .int x2), (3, .int x3)]) : W p l e rmX11_ticks s m args below meth c H locs 0 0 Q (F0 m 17 ls []) := by
  unfold wpX11_ticks_b17_body at hh
  refine lv_iload_n C.1 C.2.1 dX11_ticks_17 rfl (lv_at hl 3 rfl) ?_
  refine lv_bipush (v := (12 : Int32)) C.1 C.2.1 dX11_ticks_18 (by decide) ?_
  refine lv_iload_n C.1 C.2.1 dX11_ticks_20 rfl (lv_at hl 1 rfl) ?_
  refine lv_imul C.1 C.2.1 dX11_ticks_21 ?_
  refine lv_aload_n C.1 C.2.1 dX11_ticks_22 rfl (lv_at hl 0 rfl) ?_
  refine m_ga C hw (inC inW11) 13 (by decide) (wc w_1475) mg_13 dX11_ticks_23 ?_
  refine lv_iload_n C.1 C.2.1 dX11_ticks_26 rfl (lv_at hl 1 rfl) ?_
  obtain ⟨hi27, hh⟩ := hh
  refine m_ial C hw mp_13 (x := g 13 (ix x1)) hi27 rfl dX11_ticks_27 ?_
  refine lv_iadd C.1 C.2.1 dX11_ticks_28 ?_
  refine lv_icmp_ge (tgt := 48) C.1 C.2.1 dX11_ticks_29 (by decide) (fun c29 => ?_) (fun c29 => ?_)
  · replace hh := hh.1 c29
    exact tX11_ticks_b48 C hR hB2 hh hw (lv_sub hl [0, 1, 2] rfl)
  · replace hh := hh.2 c29
    refine lv_iload_n C.1 C.2.1 dX11_ticks_32 rfl (lv_at hl 2 rfl) ?_
    refine lv_if_eq (tgt := 48) C.1 C.2.1 dX11_ticks_33 (by decide) (fun c33 => ?_) (fun c33 => ?_)
    · replace hh := hh.1 c33
      exact tX11_ticks_b48 C hR hB2 hh hw (lv_sub hl [0, 1, 2] rfl)
    · replace hh := hh.2 c33
      refine lv_aload_n C.1 C.2.1 dX11_ticks_36 rfl (lv_at hl 0 rfl) ?_
      refine lv_iload_n C.1 C.2.1 dX11_ticks_37 rfl (lv_at hl 3 rfl) ?_
      exact hh.elim
def wpX11_ticks_b17 (B2 : (Nat → Int32) → (Nat → Nat → Int32) → Int32 → Prop) (n_ : Nat) (f : Nat → Int32) (g : Nat → Nat → Int32) (x1 : Int32) (x2 : Int32) (x3 : Int32) (K : Int32 → ((Nat → Int32) × (Nat → Nat → Int32)) → Prop) : Prop := match n_ with
  | 0 => False
  | n + 1 => wpX11_ticks_b17_body B2 (fun f g x1 x2 x3 => wpX11_ticks_b17 B2 n f g x1 x2 x3 K) f g x1 x2 x3 K
theorem tX11_ticks_b17 {B2 : (Nat → Int32) → (Nat → Nat → Int32) → Int32 → Prop} {K : Int32 → ((Nat → Int32) × (Nat → Nat → Int32)) → Prop} (C : CallFix p m c cX11_ticks 4 s args wsX11_ticks RX11) (hR : Rti .int p l e rmX11_ticks s m args below meth c cX11_ticks D A (mT cI cZ) (mWu o h cI cZ) K Q) (hB2 : ∀ (f : Nat → Int32) (g : Nat → Nat → Int32) (x1 : Int32) (H : Heap) (locs : List Loc) (ls : Array Slot), B2 f g x1 → Wd D A s (mT cI cZ) (mW o h cI cZ f g) H locs → lv_has ls 4 [(0, .ref o), (1, .int x1)] → W p l e rmX11_ticks s m args below meth c H locs 0 0 Q (F0 m 2 ls [])) (n : Nat) : ∀ (f : Nat → Int32) (g : Nat → Nat → Int32) (x1 : Int32) (x2 : Int32) (x3 : Int32) (H : Heap) (locs : List Loc) (ls : Array Slot), wpX11_ticks_b17 B2 n f g x1 x2 x3 K → Wd D A s (mT cI cZ) (mW o h cI cZ f g) H locs → lv_has ls 4 [(0, .ref o), (1, .int x1), (2, .int x2), (3, .int x3)] → W p l e rmX11_ticks s m args below meth c H locs 0 0 Q (F0 m 17 ls []) := by
  induction n with
  | zero => intro f g x1 x2 x3 H locs ls hh; exact hh.elim
  | succ n ih => intro f g x1 x2 x3 H locs ls hh hw hl; exact tX11_ticks_b17_body C hR hB2 ih hh hw hl
def wpX11_ticks_b2_body (B2 : (Nat → Int32) → (Nat → Nat → Int32) → Int32 → Prop) (f : Nat → Int32) (g : Nat → Nat → Int32) (x1 : Int32) (K : Int32 → ((Nat → Int32) × (Nat → Nat → Int32)) → Prop) : Prop :=
  (((f 12) ≤ x1) →
    K (-1 : Int32) (f, g)) ∧
  (¬ ((f 12) ≤ x1) →
    ∃ n, wpX11_ticks_b17 B2 n f g x1 (1 : Int32) ((12 : Int32) * x1) K)
set_option maxHeartbeats 4000000 in
set_option maxRecDepth 100000 in
theorem tX11_ticks_b2_body {B2 : (Nat → Int32) → (Nat → Nat → Int32) → Int32 → Prop} {K : Int32 → ((Nat → Int32) × (Nat → Nat → Int32)) → Prop} (C : CallFix p m c cX11_ticks 4 s args wsX11_ticks RX11) (hR : Rti .int p l e rmX11_ticks s m args below meth c cX11_ticks D A (mT cI cZ) (mWu o h cI cZ) K Q) (hB2 : ∀ (f : Nat → Int32) (g : Nat → Nat → Int32) (x1 : Int32) (H : Heap) (locs : List Loc) (ls : Array Slot), B2 f g x1 → Wd D A s (mT cI cZ) (mW o h cI cZ f g) H locs → lv_has ls 4 [(0, .ref o), (1, .int x1)] → W p l e rmX11_ticks s m args below meth c H locs 0 0 Q (F0 m 2 ls [])) {f : Nat → Int32} {g : Nat → Nat → Int32} {x1 : Int32} (hh : wpX11_ticks_b2_body B2 f g x1 K) {H : Heap} {locs : List Loc} {ls : Array Slot} (hw : Wd D A s (mT cI cZ) (mW o h cI cZ f g) H locs) (hl : lv_has ls 4 [(0, .ref o), (1, .int x1)]) : W p l e rmX11_ticks s m args below meth c H locs 0 0 Q (F0 m 2 ls []) := by
  unfold wpX11_ticks_b2_body at hh
  refine lv_iload_n C.1 C.2.1 dX11_ticks_2 rfl (lv_at hl 1 rfl) ?_
  refine lv_aload_n C.1 C.2.1 dX11_ticks_3 rfl (lv_at hl 0 rfl) ?_
  refine m_gi C hw (inC inW11) 12 (by decide) (wc w_1474) mg_12 (x := f 12) rfl dX11_ticks_4 ?_
  refine lv_icmp_ge (tgt := 94) C.1 C.2.1 dX11_ticks_7 (by decide) (fun c7 => ?_) (fun c7 => ?_)
  · replace hh := hh.1 c7
    refine lv_iconst (v := (-1 : Int32)) C.1 C.2.1 dX11_ticks_94 (by decide) ?_
    exact hR _ _ _ (f, g) _ _ dX11_ticks_95 rfl hh hw
  · replace hh := hh.2 c7
    refine lv_iconst (v := (1 : Int32)) C.1 C.2.1 dX11_ticks_10 (by decide) ?_
    refine lv_istore_n (lv' := [(2, .int (1 : Int32)), (0, .ref o), (1, .int x1)]) C.1 C.2.1 dX11_ticks_11 rfl hl (by decide) rfl (fun ls hl => ?_)
    refine lv_bipush (v := (12 : Int32)) C.1 C.2.1 dX11_ticks_12 (by decide) ?_
    refine lv_iload_n C.1 C.2.1 dX11_ticks_14 rfl (lv_at hl 2 rfl) ?_
    refine lv_imul C.1 C.2.1 dX11_ticks_15 ?_
    refine lv_istore_n (lv' := [(3, .int ((12 : Int32) * x1)), (2, .int (1 : Int32)), (0, .ref o), (1, .int x1)]) C.1 C.2.1 dX11_ticks_16 rfl hl (by decide) rfl (fun ls hl => ?_)
    obtain ⟨n, hh⟩ := hh
    exact tX11_ticks_b17 C hR hB2 n _ _ _ _ _ _ _ _ hh hw (lv_sub hl [2, 3, 1, 0] rfl)
def wpX11_ticks_b2 (n_ : Nat) (f : Nat → Int32) (g : Nat → Nat → Int32) (x1 : Int32) (K : Int32 → ((Nat → Int32) × (Nat → Nat → Int32)) → Prop) : Prop := match n_ with
  | 0 => False
  | n + 1 => wpX11_ticks_b2_body (fun f g x1 => wpX11_ticks_b2 n f g x1 K) f g x1 K
theorem tX11_ticks_b2 {K : Int32 → ((Nat → Int32) × (Nat → Nat → Int32)) → Prop} (C : CallFix p m c cX11_ticks 4 s args wsX11_ticks RX11) (hR : Rti .int p l e rmX11_ticks s m args below meth c cX11_ticks D A (mT cI cZ) (mWu o h cI cZ) K Q) (n : Nat) : ∀ (f : Nat → Int32) (g : Nat → Nat → Int32) (x1 : Int32) (H : Heap) (locs : List Loc) (ls : Array Slot), wpX11_ticks_b2 n f g x1 K → Wd D A s (mT cI cZ) (mW o h cI cZ f g) H locs → lv_has ls 4 [(0, .ref o), (1, .int x1)] → W p l e rmX11_ticks s m args below meth c H locs 0 0 Q (F0 m 2 ls []) := by
  induction n with
  | zero => intro f g x1 H locs ls hh; exact hh.elim
  | succ n ih => intro f g x1 H locs ls hh hw hl; exact tX11_ticks_b2_body C hR ih hh hw hl
def wpX11_ticks_b0 (f : Nat → Int32) (g : Nat → Nat → Int32) (K : Int32 → ((Nat → Int32) × (Nat → Nat → Int32)) → Prop) : Prop :=
  ∃ n, wpX11_ticks_b2 n f g (0 : Int32) K
set_option maxHeartbeats 4000000 in
set_option maxRecDepth 100000 in
theorem tX11_ticks_b0 {K : Int32 → ((Nat → Int32) × (Nat → Nat → Int32)) → Prop} (C : CallFix p m c cX11_ticks 4 s args wsX11_ticks RX11) (hR : Rti .int p l e rmX11_ticks s m args below meth c cX11_ticks D A (mT cI cZ) (mWu o h cI cZ) K Q) {f : Nat → Int32} {g : Nat → Nat → Int32} (hh : wpX11_ticks_b0 f g K) {H : Heap} {locs : List Loc} {ls : Array Slot} (hw : Wd D A s (mT cI cZ) (mW o h cI cZ f g) H locs) (hl : lv_has ls 4 [(0, .ref o)]) : W p l e rmX11_ticks s m args below meth c H locs 0 0 Q (F0 m 0 ls []) := by
  unfold wpX11_ticks_b0 at hh
  refine lv_iconst (v := (0 : Int32)) C.1 C.2.1 dX11_ticks_0 (by decide) ?_
  refine lv_istore_n (lv' := [(1, .int (0 : Int32)), (0, .ref o)]) C.1 C.2.1 dX11_ticks_1 rfl hl (by decide) rfl (fun ls hl => ?_)
  obtain ⟨n, hh⟩ := hh
  exact tX11_ticks_b2 C hR n _ _ _ _ _ _ hh hw (lv_sub hl [1, 0] rfl)
def wpX11_ticks (f : Nat → Int32) (g : Nat → Nat → Int32) (K : Int32 → ((Nat → Int32) × (Nat → Nat → Int32)) → Prop) : Prop := wpX11_ticks_b0 f g K
theorem ctX11_ticks (l : Launch) (D : va_G) (o : Nat) (h : Nat → Nat) (cI cZ : ClassId) (f : Nat → Int32) (g : Nat → Nat → Int32) {K : Int32 → ((Nat → Int32) × (Nat → Nat → Int32)) → Prop} (hh : wpX11_ticks f g K) : Ci l yX11_ticks wsX11_ticks rmX11_ticks [.ref o] D (mT cI cZ) (mWu o h cI cZ) (f, g) K := by
  refine Ci_of (cc := cX11_ticks) (maxL := 4) (by decide) rfl (Nat.le_of_ble_eq_true rfl) ?_
  intro p e s m below meth c A Q C hw hR ls hl
  exact tX11_ticks_b0 C hR hh hw hl
theorem cdX11_ticks : yX11_ticks.cls = RX11 ∧ yX11_ticks.cls ≠ "java/lang/invoke/MethodHandle" ∧ yX11_ticks.cls ≠ "java/lang/invoke/VarHandle" ∧ (parseMethodDescriptor yX11_ticks.desc).map (fun d => d.parameters.length) = some 0 := by decide +kernel
abbrev rmX11_tick : Room := { frames := 1, cells := 0, slots := 0, locals := 23 }
def wpX11_tick_b48 (B22 : (Nat → Int32) → (Nat → Nat → Int32) → Int32 → Int32 → Int32 → Prop) (f : Nat → Int32) (g : Nat → Nat → Int32) (k0 : Int32) (k1 : Int32) (x1 : Int32) (x3 : Int32) (K : Int32 → ((Nat → Int32) × (Nat → Nat → Int32)) → Prop) : Prop :=
  B22 f g x1 (k0 + k1) (x3 + (1 : Int32))
set_option maxHeartbeats 4000000 in
set_option maxRecDepth 100000 in
theorem tX11_tick_b48 {B22 : (Nat → Int32) → (Nat → Nat → Int32) → Int32 → Int32 → Int32 → Prop} {K : Int32 → ((Nat → Int32) × (Nat → Nat → Int32)) → Prop} (C : CallFix p m c cX11_tick 4 s args wsX11_tick RX11) (hR : Rti .int p l e rmX11_tick s m args below meth c cX11_tick D A (mT cI cZ) (mWu o h cI cZ) K Q) (hB22 : ∀ (f : Nat → Int32) (g : Nat → Nat → Int32) (x1 : Int32) (x2 : Int32) (x3 : Int32) (H : Heap) (locs : List Loc) (ls : Array Slot), B22 f g x1 x2 x3 → Wd D A s (mT cI cZ) (mW o h cI cZ f g) H locs → lv_has ls 4 [(0, .ref o), (1, .int x1), (2, .int x2), (3, .int x3)] → W p l e rmX11_tick s m args below meth c H locs 0 0 Q (F0 m 22 ls [])) {f : Nat → Int32} {g : Nat → Nat → Int32} {k0 : Int32} {k1 : Int32} {x1 : Int32} {x3 : Int32} (hh : wpX11_tick_b48 B22 f g k0 k1 x1 x3 K) {H : Heap} {locs : List Loc} {ls : Array Slot} (hw : Wd D A s (mT cI cZ) (mW o h cI cZ f g) H locs) (hl : lv_has ls 4 [(0, .ref o), (1, .int x1), (3, .int x3)]) : W p l e rmX11_tick s m args below meth c H locs 0 0 Q (F0 m 48 ls [.int k1, .int k0]) := by
  unfold wpX11_tick_b48 at hh
  refine lv_iadd C.1 C.2.1 dX11_tick_48 ?_
  refine lv_istore_n (lv' := [(2, .int (k0 + k1)), (0, .ref o), (1, .int x1), (3, .int x3)]) C.1 C.2.1 dX11_tick_49 rfl hl (by decide) rfl (fun ls hl => ?_)
  refine lv_iinc (v := x3 + (1 : Int32)) (lv' := [(3, .int (x3 + (1 : Int32))), (2, .int (k0 + k1)), (0, .ref o), (1, .int x1)]) C.1 C.2.1 dX11_tick_50 hl (k := 3) rfl rfl (by decide) rfl (fun ls hl => ?_)
  refine lv_goto (tgt := 22) C.1 C.2.1 dX11_tick_53 (by decide) ?_
  exact hB22 _ _ _ _ _ _ _ _ hh hw (lv_sub hl [2, 3, 1, 0] rfl)
def wpX11_tick_b22_body (B22 : (Nat → Int32) → (Nat → Nat → Int32) → Int32 → Int32 → Int32 → Prop) (f : Nat → Int32) (g : Nat → Nat → Int32) (x1 : Int32) (x2 : Int32) (x3 : Int32) (K : Int32 → ((Nat → Int32) × (Nat → Nat → Int32)) → Prop) : Prop :=
  ((x1 ≤ x3) →
    K x2 (f, g)) ∧
  (¬ (x1 ≤ x3) →
    wpX11_ticks f g  (fun r29 u29 =>
      ((r29 < 0) →
      wpX11_tick_b48 B22 (upd u29.1 51 r29) u29.2 x2 (0 : Int32) x1 x3 K) ∧
    (¬ (r29 < 0) →
      wpX11_tick_b48 B22 (upd u29.1 51 r29) u29.2 x2 (1 : Int32) x1 x3 K)))
set_option maxHeartbeats 4000000 in
set_option maxRecDepth 100000 in
theorem tX11_tick_b22_body {B22 : (Nat → Int32) → (Nat → Nat → Int32) → Int32 → Int32 → Int32 → Prop} {K : Int32 → ((Nat → Int32) × (Nat → Nat → Int32)) → Prop} (C : CallFix p m c cX11_tick 4 s args wsX11_tick RX11) (hR : Rti .int p l e rmX11_tick s m args below meth c cX11_tick D A (mT cI cZ) (mWu o h cI cZ) K Q) (hB22 : ∀ (f : Nat → Int32) (g : Nat → Nat → Int32) (x1 : Int32) (x2 : Int32) (x3 : Int32) (H : Heap) (locs : List Loc) (ls : Array Slot), B22 f g x1 x2 x3 → Wd D A s (mT cI cZ) (mW o h cI cZ f g) H locs → lv_has ls 4 [(0, .ref o), (1, .int x1), (2, .int x2), (3, .int x3)] → W p l e rmX11_tick s m args below meth c H locs 0 0 Q (F0 m 22 ls [])) {f : Nat → Int32} {g : Nat → Nat → Int32} {x1 : Int32} {x2 : Int32} {x3 : Int32} (hh : wpX11_tick_b22_body B22 f g x1 x2 x3 K) {H : Heap} {locs : List Loc} {ls : Array Slot} (hw : Wd D A s (mT cI cZ) (mW o h cI cZ f g) H locs) (hl : lv_has ls 4 [(0, .ref o), (1, .int x1), (2, .int x2), (3, .int x3)]) : W p l e rmX11_tick s m args below meth c H locs 0 0 Q (F0 m 22 ls []) := by
  unfold wpX11_tick_b22_body at hh
  refine lv_iload_n C.1 C.2.1 dX11_tick_22 rfl (lv_at hl 3 rfl) ?_
  refine lv_iload_n C.1 C.2.1 dX11_tick_23 rfl (lv_at hl 1 rfl) ?_
  refine lv_icmp_ge (tgt := 56) C.1 C.2.1 dX11_tick_24 (by decide) (fun c24 => ?_) (fun c24 => ?_)
  · replace hh := hh.1 c24
    refine lv_iload_n C.1 C.2.1 dX11_tick_56 rfl (lv_at hl 2 rfl) ?_
    exact hR _ _ _ (f, g) _ _ dX11_tick_57 rfl hh hw
  · replace hh := hh.2 c24
    refine lv_aload_n C.1 C.2.1 dX11_tick_27 rfl (lv_at hl 0 rfl) ?_
    refine lv_aload_n C.1 C.2.1 dX11_tick_28 rfl (lv_at hl 0 rfl) ?_
    refine m_Vi C hw (ctX11_ticks l D o h cI cZ f g  hh) (cwV 0 C.2.2.2.2 (gd_V w_1858 w_1860 w_85 w_125 w_1861) rfl rfl rfl cdX11_ticks ⟨Nat.le_of_ble_eq_true rfl, Nat.le_of_ble_eq_true rfl⟩) rfl hl.1 (Nat.le_of_ble_eq_true rfl) dX11_tick_29 ⟨Nat.zero_le _, Nat.zero_le _⟩ (fun r29 u29 H locs hh hw => ?_) rfl
    refine m_pi C hw (inC inW11) 51 (by decide) (wc w_1513) rfl (ty := .int) (by decide +kernel) rfl rfl (Nat.le_of_ble_eq_true rfl) ms_51 dX11_tick_32 (fun H locs hw => ?_)
    refine lv_iload_n C.1 C.2.1 dX11_tick_35 rfl (lv_at hl 2 rfl) ?_
    refine lv_aload_n C.1 C.2.1 dX11_tick_36 rfl (lv_at hl 0 rfl) ?_
    refine m_gi C hw (inC inW11) 51 (by decide) (wc w_1513) mg_51 (x := r29) rfl dX11_tick_37 ?_
    refine lv_if_lt (tgt := 47) C.1 C.2.1 dX11_tick_40 (by decide) (fun c40 => ?_) (fun c40 => ?_)
    · replace hh := hh.1 c40
      refine lv_iconst (v := (0 : Int32)) C.1 C.2.1 dX11_tick_47 (by decide) ?_
      exact tX11_tick_b48 C hR hB22 hh hw (lv_sub hl [0, 1, 3] rfl)
    · replace hh := hh.2 c40
      refine lv_iconst (v := (1 : Int32)) C.1 C.2.1 dX11_tick_43 (by decide) ?_
      refine lv_goto (tgt := 48) C.1 C.2.1 dX11_tick_44 (by decide) ?_
      exact tX11_tick_b48 C hR hB22 hh hw (lv_sub hl [0, 1, 3] rfl)
def wpX11_tick_b22 (n_ : Nat) (f : Nat → Int32) (g : Nat → Nat → Int32) (x1 : Int32) (x2 : Int32) (x3 : Int32) (K : Int32 → ((Nat → Int32) × (Nat → Nat → Int32)) → Prop) : Prop := match n_ with
  | 0 => False
  | n + 1 => wpX11_tick_b22_body (fun f g x1 x2 x3 => wpX11_tick_b22 n f g x1 x2 x3 K) f g x1 x2 x3 K
theorem tX11_tick_b22 {K : Int32 → ((Nat → Int32) × (Nat → Nat → Int32)) → Prop} (C : CallFix p m c cX11_tick 4 s args wsX11_tick RX11) (hR : Rti .int p l e rmX11_tick s m args below meth c cX11_tick D A (mT cI cZ) (mWu o h cI cZ) K Q) (n : Nat) : ∀ (f : Nat → Int32) (g : Nat → Nat → Int32) (x1 : Int32) (x2 : Int32) (x3 : Int32) (H : Heap) (locs : List Loc) (ls : Array Slot), wpX11_tick_b22 n f g x1 x2 x3 K → Wd D A s (mT cI cZ) (mW o h cI cZ f g) H locs → lv_has ls 4 [(0, .ref o), (1, .int x1), (2, .int x2), (3, .int x3)] → W p l e rmX11_tick s m args below meth c H locs 0 0 Q (F0 m 22 ls []) := by
  induction n with
  | zero => intro f g x1 x2 x3 H locs ls hh; exact hh.elim
  | succ n ih => intro f g x1 x2 x3 H locs ls hh hw hl; exact tX11_tick_b22_body C hR ih hh hw hl
def wpX11_tick_b0 (f : Nat → Int32) (g : Nat → Nat → Int32) (x1 : Int32) (K : Int32 → ((Nat → Int32) × (Nat → Nat → Int32)) → Prop) : Prop :=
  wpX11_isIn x1 (0 : Int32) (5000 : Int32) (fun r10 u10 =>
    (¬ (r10 = 0) →
    ∃ n, wpX11_tick_b22 n (upd f 2 (0 : Int32)) g x1 (0 : Int32) (0 : Int32) K) ∧
  ((r10 = 0) →
    K (-1 : Int32) (upd f 2 (0 : Int32), g)))
set_option maxHeartbeats 4000000 in
set_option maxRecDepth 100000 in
theorem tX11_tick_b0 {K : Int32 → ((Nat → Int32) × (Nat → Nat → Int32)) → Prop} (C : CallFix p m c cX11_tick 4 s args wsX11_tick RX11) (hR : Rti .int p l e rmX11_tick s m args below meth c cX11_tick D A (mT cI cZ) (mWu o h cI cZ) K Q) {f : Nat → Int32} {g : Nat → Nat → Int32} {x1 : Int32} (hh : wpX11_tick_b0 f g x1 K) {H : Heap} {locs : List Loc} {ls : Array Slot} (hw : Wd D A s (mT cI cZ) (mW o h cI cZ f g) H locs) (hl : lv_has ls 4 [(0, .ref o), (1, .int x1)]) : W p l e rmX11_tick s m args below meth c H locs 0 0 Q (F0 m 0 ls []) := by
  unfold wpX11_tick_b0 at hh
  refine lv_aload_n C.1 C.2.1 dX11_tick_0 rfl (lv_at hl 0 rfl) ?_
  refine lv_iconst (v := (0 : Int32)) C.1 C.2.1 dX11_tick_1 (by decide) ?_
  refine m_pi C hw (inC inW11) 2 (by decide) (wc w_1464) rfl (ty := .int) (by decide +kernel) rfl rfl (Nat.le_of_ble_eq_true rfl) ms_2 dX11_tick_2 (fun H locs hw => ?_)
  refine lv_iload_n C.1 C.2.1 dX11_tick_5 rfl (lv_at hl 1 rfl) ?_
  refine lv_iconst (v := (0 : Int32)) C.1 C.2.1 dX11_tick_6 (by decide) ?_
  refine lv_sipush (v := (5000 : Int32)) C.1 C.2.1 dX11_tick_7 (by decide) ?_
  refine wd_Si C hw (ctX11_isIn l D x1 (0 : Int32) (5000 : Int32) hh) (va_cwS 3 C.2.2.2.2 (gd_S w_1808 w_1809 (ini_cls rfl w_125) w_1810) rfl rfl rfl cdX11_isIn ⟨Nat.le_of_ble_eq_true rfl, Nat.le_of_ble_eq_true rfl⟩) rfl hl.1 (Nat.le_of_ble_eq_true rfl) dX11_tick_10 ⟨Nat.zero_le _, Nat.zero_le _⟩ (fun r10 H locs hh hw => ?_) rfl
  refine lv_if_ne (tgt := 18) C.1 C.2.1 dX11_tick_13 (by decide) (fun c13 => ?_) (fun c13 => ?_)
  · replace hh := hh.1 c13
    refine lv_iconst (v := (0 : Int32)) C.1 C.2.1 dX11_tick_18 (by decide) ?_
    refine lv_istore_n (lv' := [(2, .int (0 : Int32)), (0, .ref o), (1, .int x1)]) C.1 C.2.1 dX11_tick_19 rfl hl (by decide) rfl (fun ls hl => ?_)
    refine lv_iconst (v := (0 : Int32)) C.1 C.2.1 dX11_tick_20 (by decide) ?_
    refine lv_istore_n (lv' := [(3, .int (0 : Int32)), (2, .int (0 : Int32)), (0, .ref o), (1, .int x1)]) C.1 C.2.1 dX11_tick_21 rfl hl (by decide) rfl (fun ls hl => ?_)
    obtain ⟨n, hh⟩ := hh
    exact tX11_tick_b22 C hR n _ _ _ _ _ _ _ _ hh hw (lv_sub hl [2, 3, 1, 0] rfl)
  · replace hh := hh.2 c13
    refine lv_iconst (v := (-1 : Int32)) C.1 C.2.1 dX11_tick_16 (by decide) ?_
    exact hR _ _ _ (upd f 2 (0 : Int32), g) _ _ dX11_tick_17 rfl hh hw
def wpX11_tick (f : Nat → Int32) (g : Nat → Nat → Int32) (x1 : Int32) (K : Int32 → ((Nat → Int32) × (Nat → Nat → Int32)) → Prop) : Prop := wpX11_tick_b0 f g x1 K
theorem ctX11_tick (l : Launch) (D : va_G) (o : Nat) (h : Nat → Nat) (cI cZ : ClassId) (f : Nat → Int32) (g : Nat → Nat → Int32) (x1 : Int32) {K : Int32 → ((Nat → Int32) × (Nat → Nat → Int32)) → Prop} (hh : wpX11_tick f g x1 K) : Ci l yX11_tick wsX11_tick rmX11_tick [.ref o, .int x1] D (mT cI cZ) (mWu o h cI cZ) (f, g) K := by
  refine Ci_of (cc := cX11_tick) (maxL := 4) (by decide) rfl (Nat.le_of_ble_eq_true rfl) ?_
  intro p e s m below meth c A Q C hw hR ls hl
  exact tX11_tick_b0 C hR hh hw hl
theorem cdX11_tick : yX11_tick.cls = RX11 ∧ yX11_tick.cls ≠ "java/lang/invoke/MethodHandle" ∧ yX11_tick.cls ≠ "java/lang/invoke/VarHandle" ∧ (parseMethodDescriptor yX11_tick.desc).map (fun d => d.parameters.length) = some 1 := by decide +kernel
abbrev rmX11_run : Room := { frames := 1, cells := 0, slots := 0, locals := 23 }
def wpX11_run_b20_body (B20 : (Nat → Int32) → (Nat → Nat → Int32) → Int32 → Int32 → Prop) (f : Nat → Int32) (g : Nat → Nat → Int32) (x1 : Int32) (x2 : Int32) (K : Int32 → ((Nat → Int32) × (Nat → Nat → Int32)) → Prop) : Prop :=
  (((f 41) = (f 40)) →
    K x2 (f, g)) ∧
  (¬ ((f 41) = (f 40)) →
    (¬ (x2 = x1) →
      wpX11_ticks f g  (fun r41 u41 =>
        B20 (upd u41.1 51 r41) u41.2 x1 (x2 + (1 : Int32)))) ∧
    ((x2 = x1) →
      K (-2 : Int32) (f, g)))
set_option maxHeartbeats 4000000 in
set_option maxRecDepth 100000 in
theorem tX11_run_b20_body {B20 : (Nat → Int32) → (Nat → Nat → Int32) → Int32 → Int32 → Prop} {K : Int32 → ((Nat → Int32) × (Nat → Nat → Int32)) → Prop} (C : CallFix p m c cX11_run 3 s args wsX11_run RX11) (hR : Rti .int p l e rmX11_run s m args below meth c cX11_run D A (mT cI cZ) (mWu o h cI cZ) K Q) (hB20 : ∀ (f : Nat → Int32) (g : Nat → Nat → Int32) (x1 : Int32) (x2 : Int32) (H : Heap) (locs : List Loc) (ls : Array Slot), B20 f g x1 x2 → Wd D A s (mT cI cZ) (mW o h cI cZ f g) H locs → lv_has ls 3 [(0, .ref o), (1, .int x1), (2, .int x2)] → W p l e rmX11_run s m args below meth c H locs 0 0 Q (F0 m 20 ls [])) {f : Nat → Int32} {g : Nat → Nat → Int32} {x1 : Int32} {x2 : Int32} (hh : wpX11_run_b20_body B20 f g x1 x2 K) {H : Heap} {locs : List Loc} {ls : Array Slot} (hw : Wd D A s (mT cI cZ) (mW o h cI cZ f g) H locs) (hl : lv_has ls 3 [(0, .ref o), (1, .int x1), (2, .int x2)]) : W p l e rmX11_run s m args below meth c H locs 0 0 Q (F0 m 20 ls []) := by
  unfold wpX11_run_b20_body at hh
  refine lv_aload_n C.1 C.2.1 dX11_run_20 rfl (lv_at hl 0 rfl) ?_
  refine m_gi C hw (inC inW11) 41 (by decide) (wc w_1503) mg_41 (x := f 41) rfl dX11_run_21 ?_
  refine lv_aload_n C.1 C.2.1 dX11_run_24 rfl (lv_at hl 0 rfl) ?_
  refine m_gi C hw (inC inW11) 40 (by decide) (wc w_1502) mg_40 (x := f 40) rfl dX11_run_25 ?_
  refine lv_icmp_eq (tgt := 53) C.1 C.2.1 dX11_run_28 (by decide) (fun c28 => ?_) (fun c28 => ?_)
  · replace hh := hh.1 c28
    refine lv_iload_n C.1 C.2.1 dX11_run_53 rfl (lv_at hl 2 rfl) ?_
    exact hR _ _ _ (f, g) _ _ dX11_run_54 rfl hh hw
  · replace hh := hh.2 c28
    refine lv_iload_n C.1 C.2.1 dX11_run_31 rfl (lv_at hl 2 rfl) ?_
    refine lv_iload_n C.1 C.2.1 dX11_run_32 rfl (lv_at hl 1 rfl) ?_
    refine lv_icmp_ne (tgt := 39) C.1 C.2.1 dX11_run_33 (by decide) (fun c33 => ?_) (fun c33 => ?_)
    · replace hh := hh.1 c33
      refine lv_aload_n C.1 C.2.1 dX11_run_39 rfl (lv_at hl 0 rfl) ?_
      refine lv_aload_n C.1 C.2.1 dX11_run_40 rfl (lv_at hl 0 rfl) ?_
      refine m_Vi C hw (ctX11_ticks l D o h cI cZ f g  hh) (cwV 0 C.2.2.2.2 (gd_V w_1858 w_1860 w_85 w_125 w_1861) rfl rfl rfl cdX11_ticks ⟨Nat.le_of_ble_eq_true rfl, Nat.le_of_ble_eq_true rfl⟩) rfl hl.1 (Nat.le_of_ble_eq_true rfl) dX11_run_41 ⟨Nat.zero_le _, Nat.zero_le _⟩ (fun r41 u41 H locs hh hw => ?_) rfl
      refine m_pi C hw (inC inW11) 51 (by decide) (wc w_1513) rfl (ty := .int) (by decide +kernel) rfl rfl (Nat.le_of_ble_eq_true rfl) ms_51 dX11_run_44 (fun H locs hw => ?_)
      refine lv_iinc (v := x2 + (1 : Int32)) (lv' := [(2, .int (x2 + (1 : Int32))), (0, .ref o), (1, .int x1)]) C.1 C.2.1 dX11_run_47 hl (k := 2) rfl rfl (by decide) rfl (fun ls hl => ?_)
      refine lv_goto (tgt := 20) C.1 C.2.1 dX11_run_50 (by decide) ?_
      exact hB20 _ _ _ _ _ _ _ hh hw (lv_sub hl [1, 2, 0] rfl)
    · replace hh := hh.2 c33
      refine lv_bipush (v := (-2 : Int32)) C.1 C.2.1 dX11_run_36 (by decide) ?_
      exact hR _ _ _ (f, g) _ _ dX11_run_38 rfl hh hw
def wpX11_run_b20 (n_ : Nat) (f : Nat → Int32) (g : Nat → Nat → Int32) (x1 : Int32) (x2 : Int32) (K : Int32 → ((Nat → Int32) × (Nat → Nat → Int32)) → Prop) : Prop := match n_ with
  | 0 => False
  | n + 1 => wpX11_run_b20_body (fun f g x1 x2 => wpX11_run_b20 n f g x1 x2 K) f g x1 x2 K
theorem tX11_run_b20 {K : Int32 → ((Nat → Int32) × (Nat → Nat → Int32)) → Prop} (C : CallFix p m c cX11_run 3 s args wsX11_run RX11) (hR : Rti .int p l e rmX11_run s m args below meth c cX11_run D A (mT cI cZ) (mWu o h cI cZ) K Q) (n : Nat) : ∀ (f : Nat → Int32) (g : Nat → Nat → Int32) (x1 : Int32) (x2 : Int32) (H : Heap) (locs : List Loc) (ls : Array Slot), wpX11_run_b20 n f g x1 x2 K → Wd D A s (mT cI cZ) (mW o h cI cZ f g) H locs → lv_has ls 3 [(0, .ref o), (1, .int x1), (2, .int x2)] → W p l e rmX11_run s m args below meth c H locs 0 0 Q (F0 m 20 ls []) := by
  induction n with
  | zero => intro f g x1 x2 H locs ls hh; exact hh.elim
  | succ n ih => intro f g x1 x2 H locs ls hh hw hl; exact tX11_run_b20_body C hR ih hh hw hl
def wpX11_run_b0 (f : Nat → Int32) (g : Nat → Nat → Int32) (x1 : Int32) (K : Int32 → ((Nat → Int32) × (Nat → Nat → Int32)) → Prop) : Prop :=
  wpX11_isIn x1 (0 : Int32) (5000 : Int32) (fun r10 u10 =>
    (¬ (r10 = 0) →
    ∃ n, wpX11_run_b20 n (upd f 2 (0 : Int32)) g x1 (0 : Int32) K) ∧
  ((r10 = 0) →
    K (-1 : Int32) (upd f 2 (0 : Int32), g)))
set_option maxHeartbeats 4000000 in
set_option maxRecDepth 100000 in
theorem tX11_run_b0 {K : Int32 → ((Nat → Int32) × (Nat → Nat → Int32)) → Prop} (C : CallFix p m c cX11_run 3 s args wsX11_run RX11) (hR : Rti .int p l e rmX11_run s m args below meth c cX11_run D A (mT cI cZ) (mWu o h cI cZ) K Q) {f : Nat → Int32} {g : Nat → Nat → Int32} {x1 : Int32} (hh : wpX11_run_b0 f g x1 K) {H : Heap} {locs : List Loc} {ls : Array Slot} (hw : Wd D A s (mT cI cZ) (mW o h cI cZ f g) H locs) (hl : lv_has ls 3 [(0, .ref o), (1, .int x1)]) : W p l e rmX11_run s m args below meth c H locs 0 0 Q (F0 m 0 ls []) := by
  unfold wpX11_run_b0 at hh
  refine lv_aload_n C.1 C.2.1 dX11_run_0 rfl (lv_at hl 0 rfl) ?_
  refine lv_iconst (v := (0 : Int32)) C.1 C.2.1 dX11_run_1 (by decide) ?_
  refine m_pi C hw (inC inW11) 2 (by decide) (wc w_1464) rfl (ty := .int) (by decide +kernel) rfl rfl (Nat.le_of_ble_eq_true rfl) ms_2 dX11_run_2 (fun H locs hw => ?_)
  refine lv_iload_n C.1 C.2.1 dX11_run_5 rfl (lv_at hl 1 rfl) ?_
  refine lv_iconst (v := (0 : Int32)) C.1 C.2.1 dX11_run_6 (by decide) ?_
  refine lv_sipush (v := (5000 : Int32)) C.1 C.2.1 dX11_run_7 (by decide) ?_
  refine wd_Si C hw (ctX11_isIn l D x1 (0 : Int32) (5000 : Int32) hh) (va_cwS 3 C.2.2.2.2 (gd_S w_1808 w_1809 (ini_cls rfl w_125) w_1810) rfl rfl rfl cdX11_isIn ⟨Nat.le_of_ble_eq_true rfl, Nat.le_of_ble_eq_true rfl⟩) rfl hl.1 (Nat.le_of_ble_eq_true rfl) dX11_run_10 ⟨Nat.zero_le _, Nat.zero_le _⟩ (fun r10 H locs hh hw => ?_) rfl
  refine lv_if_ne (tgt := 18) C.1 C.2.1 dX11_run_13 (by decide) (fun c13 => ?_) (fun c13 => ?_)
  · replace hh := hh.1 c13
    refine lv_iconst (v := (0 : Int32)) C.1 C.2.1 dX11_run_18 (by decide) ?_
    refine lv_istore_n (lv' := [(2, .int (0 : Int32)), (0, .ref o), (1, .int x1)]) C.1 C.2.1 dX11_run_19 rfl hl (by decide) rfl (fun ls hl => ?_)
    obtain ⟨n, hh⟩ := hh
    exact tX11_run_b20 C hR n _ _ _ _ _ _ _ hh hw (lv_sub hl [1, 2, 0] rfl)
  · replace hh := hh.2 c13
    refine lv_iconst (v := (-1 : Int32)) C.1 C.2.1 dX11_run_16 (by decide) ?_
    exact hR _ _ _ (upd f 2 (0 : Int32), g) _ _ dX11_run_17 rfl hh hw
def wpX11_run (f : Nat → Int32) (g : Nat → Nat → Int32) (x1 : Int32) (K : Int32 → ((Nat → Int32) × (Nat → Nat → Int32)) → Prop) : Prop := wpX11_run_b0 f g x1 K
theorem ctX11_run (l : Launch) (D : va_G) (o : Nat) (h : Nat → Nat) (cI cZ : ClassId) (f : Nat → Int32) (g : Nat → Nat → Int32) (x1 : Int32) {K : Int32 → ((Nat → Int32) × (Nat → Nat → Int32)) → Prop} (hh : wpX11_run f g x1 K) : Ci l yX11_run wsX11_run rmX11_run [.ref o, .int x1] D (mT cI cZ) (mWu o h cI cZ) (f, g) K := by
  refine Ci_of (cc := cX11_run) (maxL := 3) (by decide) rfl (Nat.le_of_ble_eq_true rfl) ?_
  intro p e s m below meth c A Q C hw hR ls hl
  exact tX11_run_b0 C hR hh hw hl
theorem cdX11_run : yX11_run.cls = RX11 ∧ yX11_run.cls ≠ "java/lang/invoke/MethodHandle" ∧ yX11_run.cls ≠ "java/lang/invoke/VarHandle" ∧ (parseMethodDescriptor yX11_run.desc).map (fun d => d.parameters.length) = some 1 := by decide +kernel
abbrev rmX11_comesIn : Room := { frames := 1, cells := 0, slots := 0, locals := 23 }
def wpX11_comesIn_b2_body (B2 : (Nat → Int32) → (Nat → Nat → Int32) → Int32 → Int32 → Prop) (f : Nat → Int32) (g : Nat → Nat → Int32) (x1 : Int32) (x2 : Int32) (K : Int32 → ((Nat → Int32) × (Nat → Nat → Int32)) → Prop) : Prop :=
  (((f 41) = (f 40)) →
    K x2 (f, g)) ∧
  (¬ ((f 41) = (f 40)) →
    (¬ (x2 = x1) →
      wpX11_ticks f g  (fun r22 u22 =>
        B2 u22.1 u22.2 x1 (x2 + (1 : Int32)))) ∧
    ((x2 = x1) →
      K (-2 : Int32) (f, g)))
set_option maxHeartbeats 4000000 in
set_option maxRecDepth 100000 in
theorem tX11_comesIn_b2_body {B2 : (Nat → Int32) → (Nat → Nat → Int32) → Int32 → Int32 → Prop} {K : Int32 → ((Nat → Int32) × (Nat → Nat → Int32)) → Prop} (C : CallFix p m c cX11_comesIn 4 s args wsX11_comesIn RX11) (hR : Rti .int p l e rmX11_comesIn s m args below meth c cX11_comesIn D A (mT cI cZ) (mWu o h cI cZ) K Q) (hB2 : ∀ (f : Nat → Int32) (g : Nat → Nat → Int32) (x1 : Int32) (x2 : Int32) (H : Heap) (locs : List Loc) (ls : Array Slot), B2 f g x1 x2 → Wd D A s (mT cI cZ) (mW o h cI cZ f g) H locs → lv_has ls 4 [(0, .ref o), (1, .int x1), (2, .int x2)] → W p l e rmX11_comesIn s m args below meth c H locs 0 0 Q (F0 m 2 ls [])) {f : Nat → Int32} {g : Nat → Nat → Int32} {x1 : Int32} {x2 : Int32} (hh : wpX11_comesIn_b2_body B2 f g x1 x2 K) {H : Heap} {locs : List Loc} {ls : Array Slot} (hw : Wd D A s (mT cI cZ) (mW o h cI cZ f g) H locs) (hl : lv_has ls 4 [(0, .ref o), (1, .int x1), (2, .int x2)]) : W p l e rmX11_comesIn s m args below meth c H locs 0 0 Q (F0 m 2 ls []) := by
  unfold wpX11_comesIn_b2_body at hh
  refine lv_aload_n C.1 C.2.1 dX11_comesIn_2 rfl (lv_at hl 0 rfl) ?_
  refine m_gi C hw (inC inW11) 41 (by decide) (wc w_1503) mg_41 (x := f 41) rfl dX11_comesIn_3 ?_
  refine lv_aload_n C.1 C.2.1 dX11_comesIn_6 rfl (lv_at hl 0 rfl) ?_
  refine m_gi C hw (inC inW11) 40 (by decide) (wc w_1502) mg_40 (x := f 40) rfl dX11_comesIn_7 ?_
  refine lv_icmp_eq (tgt := 32) C.1 C.2.1 dX11_comesIn_10 (by decide) (fun c10 => ?_) (fun c10 => ?_)
  · replace hh := hh.1 c10
    refine lv_iload_n C.1 C.2.1 dX11_comesIn_32 rfl (lv_at hl 2 rfl) ?_
    exact hR _ _ _ (f, g) _ _ dX11_comesIn_33 rfl hh hw
  · replace hh := hh.2 c10
    refine lv_iload_n C.1 C.2.1 dX11_comesIn_13 rfl (lv_at hl 2 rfl) ?_
    refine lv_iload_n C.1 C.2.1 dX11_comesIn_14 rfl (lv_at hl 1 rfl) ?_
    refine lv_icmp_ne (tgt := 21) C.1 C.2.1 dX11_comesIn_15 (by decide) (fun c15 => ?_) (fun c15 => ?_)
    · replace hh := hh.1 c15
      refine lv_aload_n C.1 C.2.1 dX11_comesIn_21 rfl (lv_at hl 0 rfl) ?_
      refine m_Vi C hw (ctX11_ticks l D o h cI cZ f g  hh) (cwV 0 C.2.2.2.2 (gd_V w_1858 w_1860 w_85 w_125 w_1861) rfl rfl rfl cdX11_ticks ⟨Nat.le_of_ble_eq_true rfl, Nat.le_of_ble_eq_true rfl⟩) rfl hl.1 (Nat.le_of_ble_eq_true rfl) dX11_comesIn_22 ⟨Nat.zero_le _, Nat.zero_le _⟩ (fun r22 u22 H locs hh hw => ?_) rfl
      refine lv_istore_n (lv' := [(3, .int r22), (0, .ref o), (1, .int x1), (2, .int x2)]) C.1 C.2.1 dX11_comesIn_25 rfl hl (by decide) rfl (fun ls hl => ?_)
      refine lv_iinc (v := x2 + (1 : Int32)) (lv' := [(2, .int (x2 + (1 : Int32))), (3, .int r22), (0, .ref o), (1, .int x1)]) C.1 C.2.1 dX11_comesIn_26 hl (k := 3) rfl rfl (by decide) rfl (fun ls hl => ?_)
      refine lv_goto (tgt := 2) C.1 C.2.1 dX11_comesIn_29 (by decide) ?_
      exact hB2 _ _ _ _ _ _ _ hh hw (lv_sub hl [2, 3, 0] rfl)
    · replace hh := hh.2 c15
      refine lv_bipush (v := (-2 : Int32)) C.1 C.2.1 dX11_comesIn_18 (by decide) ?_
      exact hR _ _ _ (f, g) _ _ dX11_comesIn_20 rfl hh hw
def wpX11_comesIn_b2 (n_ : Nat) (f : Nat → Int32) (g : Nat → Nat → Int32) (x1 : Int32) (x2 : Int32) (K : Int32 → ((Nat → Int32) × (Nat → Nat → Int32)) → Prop) : Prop := match n_ with
  | 0 => False
  | n + 1 => wpX11_comesIn_b2_body (fun f g x1 x2 => wpX11_comesIn_b2 n f g x1 x2 K) f g x1 x2 K
theorem tX11_comesIn_b2 {K : Int32 → ((Nat → Int32) × (Nat → Nat → Int32)) → Prop} (C : CallFix p m c cX11_comesIn 4 s args wsX11_comesIn RX11) (hR : Rti .int p l e rmX11_comesIn s m args below meth c cX11_comesIn D A (mT cI cZ) (mWu o h cI cZ) K Q) (n : Nat) : ∀ (f : Nat → Int32) (g : Nat → Nat → Int32) (x1 : Int32) (x2 : Int32) (H : Heap) (locs : List Loc) (ls : Array Slot), wpX11_comesIn_b2 n f g x1 x2 K → Wd D A s (mT cI cZ) (mW o h cI cZ f g) H locs → lv_has ls 4 [(0, .ref o), (1, .int x1), (2, .int x2)] → W p l e rmX11_comesIn s m args below meth c H locs 0 0 Q (F0 m 2 ls []) := by
  induction n with
  | zero => intro f g x1 x2 H locs ls hh; exact hh.elim
  | succ n ih => intro f g x1 x2 H locs ls hh hw hl; exact tX11_comesIn_b2_body C hR ih hh hw hl
def wpX11_comesIn_b0 (f : Nat → Int32) (g : Nat → Nat → Int32) (x1 : Int32) (K : Int32 → ((Nat → Int32) × (Nat → Nat → Int32)) → Prop) : Prop :=
  ∃ n, wpX11_comesIn_b2 n f g x1 (0 : Int32) K
set_option maxHeartbeats 4000000 in
set_option maxRecDepth 100000 in
theorem tX11_comesIn_b0 {K : Int32 → ((Nat → Int32) × (Nat → Nat → Int32)) → Prop} (C : CallFix p m c cX11_comesIn 4 s args wsX11_comesIn RX11) (hR : Rti .int p l e rmX11_comesIn s m args below meth c cX11_comesIn D A (mT cI cZ) (mWu o h cI cZ) K Q) {f : Nat → Int32} {g : Nat → Nat → Int32} {x1 : Int32} (hh : wpX11_comesIn_b0 f g x1 K) {H : Heap} {locs : List Loc} {ls : Array Slot} (hw : Wd D A s (mT cI cZ) (mW o h cI cZ f g) H locs) (hl : lv_has ls 4 [(0, .ref o), (1, .int x1)]) : W p l e rmX11_comesIn s m args below meth c H locs 0 0 Q (F0 m 0 ls []) := by
  unfold wpX11_comesIn_b0 at hh
  refine lv_iconst (v := (0 : Int32)) C.1 C.2.1 dX11_comesIn_0 (by decide) ?_
  refine lv_istore_n (lv' := [(2, .int (0 : Int32)), (0, .ref o), (1, .int x1)]) C.1 C.2.1 dX11_comesIn_1 rfl hl (by decide) rfl (fun ls hl => ?_)
  obtain ⟨n, hh⟩ := hh
  exact tX11_comesIn_b2 C hR n _ _ _ _ _ _ _ hh hw (lv_sub hl [1, 2, 0] rfl)
def wpX11_comesIn (f : Nat → Int32) (g : Nat → Nat → Int32) (x1 : Int32) (K : Int32 → ((Nat → Int32) × (Nat → Nat → Int32)) → Prop) : Prop := wpX11_comesIn_b0 f g x1 K
theorem ctX11_comesIn (l : Launch) (D : va_G) (o : Nat) (h : Nat → Nat) (cI cZ : ClassId) (f : Nat → Int32) (g : Nat → Nat → Int32) (x1 : Int32) {K : Int32 → ((Nat → Int32) × (Nat → Nat → Int32)) → Prop} (hh : wpX11_comesIn f g x1 K) : Ci l yX11_comesIn wsX11_comesIn rmX11_comesIn [.ref o, .int x1] D (mT cI cZ) (mWu o h cI cZ) (f, g) K := by
  refine Ci_of (cc := cX11_comesIn) (maxL := 4) (by decide) rfl (Nat.le_of_ble_eq_true rfl) ?_
  intro p e s m below meth c A Q C hw hR ls hl
  exact tX11_comesIn_b0 C hR hh hw hl
theorem cdX11_comesIn : yX11_comesIn.cls = RX11 ∧ yX11_comesIn.cls ≠ "java/lang/invoke/MethodHandle" ∧ yX11_comesIn.cls ≠ "java/lang/invoke/VarHandle" ∧ (parseMethodDescriptor yX11_comesIn.desc).map (fun d => d.parameters.length) = some 1 := by decide +kernel
abbrev rmX11_mouse : Room := { frames := 0, cells := 0, slots := 0, locals := 0 }
def wpX11_mouse_b0 (f : Nat → Int32) (g : Nat → Nat → Int32) (x1 : Int32) (K : Int32 → ((Nat → Int32) × (Nat → Nat → Int32)) → Prop) : Prop :=
  (x1 = (0 : Int32) →
    K (f 41) (upd f 2 (0 : Int32), g)) ∧
  (x1 = (1 : Int32) →
    K (f 42) (upd f 2 (0 : Int32), g)) ∧
  (x1 = (2 : Int32) →
    K (f 43) (upd f 2 (0 : Int32), g)) ∧
  (x1 = (3 : Int32) →
    K (f 44) (upd f 2 (0 : Int32), g)) ∧
  (x1 = (4 : Int32) →
    K (f 51) (upd f 2 (0 : Int32), g)) ∧
  ((x1).toInt < 0 ∨ 4 < (x1).toInt →
    K (-1 : Int32) (upd f 2 (0 : Int32), g))
set_option maxHeartbeats 4000000 in
set_option maxRecDepth 100000 in
theorem tX11_mouse_b0 {K : Int32 → ((Nat → Int32) × (Nat → Nat → Int32)) → Prop} (C : CallFix p m c cX11_mouse 2 s args wsX11_mouse RX11) (hR : Rti .int p l e rmX11_mouse s m args below meth c cX11_mouse D A (mT cI cZ) (mWu o h cI cZ) K Q) {f : Nat → Int32} {g : Nat → Nat → Int32} {x1 : Int32} (hh : wpX11_mouse_b0 f g x1 K) {H : Heap} {locs : List Loc} {ls : Array Slot} (hw : Wd D A s (mT cI cZ) (mW o h cI cZ f g) H locs) (hl : lv_has ls 2 [(0, .ref o), (1, .int x1)]) : W p l e rmX11_mouse s m args below meth c H locs 0 0 Q (F0 m 0 ls []) := by
  unfold wpX11_mouse_b0 at hh
  refine lv_aload_n C.1 C.2.1 dX11_mouse_0 rfl (lv_at hl 0 rfl) ?_
  refine lv_iconst (v := (0 : Int32)) C.1 C.2.1 dX11_mouse_1 (by decide) ?_
  refine m_pi C hw (inC inW11) 2 (by decide) (wc w_1464) rfl (ty := .int) (by decide +kernel) rfl rfl (Nat.le_of_ble_eq_true rfl) ms_2 dX11_mouse_2 (fun H locs hw => ?_)
  refine lv_iload_n C.1 C.2.1 dX11_mouse_5 rfl (lv_at hl 1 rfl) ?_
  refine sw_in (x := x1) (lo := 0) (hi := 4) (fun hlo hhi => ?_) (fun ho => ?_)
  · have hv : (x1).toInt = 0 ∨ (x1).toInt = 1 ∨ (x1).toInt = 2 ∨ (x1).toInt = 3 ∨ (x1).toInt = 4 := by omega
    rcases hv with hv | hv | hv | hv | hv
    · replace hh := hh.1 (sw_eq hv (by decide))
      refine lv_tableIn (off := 34) (tgt := 40) C.1 C.2.1 dX11_mouse_6 hlo hhi (by rw [hv]; rfl) (by decide) ?_
      refine lv_aload_n C.1 C.2.1 dX11_mouse_40 rfl (lv_at hl 0 rfl) ?_
      refine m_gi C hw (inC inW11) 41 (by decide) (wc w_1503) mg_41 (x := f 41) rfl dX11_mouse_41 ?_
      exact hR _ _ _ (upd f 2 (0 : Int32), g) _ _ dX11_mouse_44 rfl hh hw
    · replace hh := hh.2.1 (sw_eq hv (by decide))
      refine lv_tableIn (off := 39) (tgt := 45) C.1 C.2.1 dX11_mouse_6 hlo hhi (by rw [hv]; rfl) (by decide) ?_
      refine lv_aload_n C.1 C.2.1 dX11_mouse_45 rfl (lv_at hl 0 rfl) ?_
      refine m_gi C hw (inC inW11) 42 (by decide) (wc w_1504) mg_42 (x := f 42) rfl dX11_mouse_46 ?_
      exact hR _ _ _ (upd f 2 (0 : Int32), g) _ _ dX11_mouse_49 rfl hh hw
    · replace hh := hh.2.2.1 (sw_eq hv (by decide))
      refine lv_tableIn (off := 44) (tgt := 50) C.1 C.2.1 dX11_mouse_6 hlo hhi (by rw [hv]; rfl) (by decide) ?_
      refine lv_aload_n C.1 C.2.1 dX11_mouse_50 rfl (lv_at hl 0 rfl) ?_
      refine m_gi C hw (inC inW11) 43 (by decide) (wc w_1505) mg_43 (x := f 43) rfl dX11_mouse_51 ?_
      exact hR _ _ _ (upd f 2 (0 : Int32), g) _ _ dX11_mouse_54 rfl hh hw
    · replace hh := hh.2.2.2.1 (sw_eq hv (by decide))
      refine lv_tableIn (off := 49) (tgt := 55) C.1 C.2.1 dX11_mouse_6 hlo hhi (by rw [hv]; rfl) (by decide) ?_
      refine lv_aload_n C.1 C.2.1 dX11_mouse_55 rfl (lv_at hl 0 rfl) ?_
      refine m_gi C hw (inC inW11) 44 (by decide) (wc w_1506) mg_44 (x := f 44) rfl dX11_mouse_56 ?_
      exact hR _ _ _ (upd f 2 (0 : Int32), g) _ _ dX11_mouse_59 rfl hh hw
    · replace hh := hh.2.2.2.2.1 (sw_eq hv (by decide))
      refine lv_tableIn (off := 54) (tgt := 60) C.1 C.2.1 dX11_mouse_6 hlo hhi (by rw [hv]; rfl) (by decide) ?_
      refine lv_aload_n C.1 C.2.1 dX11_mouse_60 rfl (lv_at hl 0 rfl) ?_
      refine m_gi C hw (inC inW11) 51 (by decide) (wc w_1513) mg_51 (x := f 51) rfl dX11_mouse_61 ?_
      exact hR _ _ _ (upd f 2 (0 : Int32), g) _ _ dX11_mouse_64 rfl hh hw
  · replace hh := hh.2.2.2.2.2 ho
    refine lv_tableOut (tgt := 65) C.1 C.2.1 dX11_mouse_6 ho (by decide) ?_
    refine lv_iconst (v := (-1 : Int32)) C.1 C.2.1 dX11_mouse_65 (by decide) ?_
    exact hR _ _ _ (upd f 2 (0 : Int32), g) _ _ dX11_mouse_66 rfl hh hw
def wpX11_mouse (f : Nat → Int32) (g : Nat → Nat → Int32) (x1 : Int32) (K : Int32 → ((Nat → Int32) × (Nat → Nat → Int32)) → Prop) : Prop := wpX11_mouse_b0 f g x1 K
theorem ctX11_mouse (l : Launch) (D : va_G) (o : Nat) (h : Nat → Nat) (cI cZ : ClassId) (f : Nat → Int32) (g : Nat → Nat → Int32) (x1 : Int32) {K : Int32 → ((Nat → Int32) × (Nat → Nat → Int32)) → Prop} (hh : wpX11_mouse f g x1 K) : Ci l yX11_mouse wsX11_mouse rmX11_mouse [.ref o, .int x1] D (mT cI cZ) (mWu o h cI cZ) (f, g) K := by
  refine Ci_of (cc := cX11_mouse) (maxL := 2) (by decide) rfl (Nat.le_of_ble_eq_true rfl) ?_
  intro p e s m below meth c A Q C hw hR ls hl
  exact tX11_mouse_b0 C hR hh hw hl
theorem cdX11_mouse : yX11_mouse.cls = RX11 ∧ yX11_mouse.cls ≠ "java/lang/invoke/MethodHandle" ∧ yX11_mouse.cls ≠ "java/lang/invoke/VarHandle" ∧ (parseMethodDescriptor yX11_mouse.desc).map (fun d => d.parameters.length) = some 1 := by decide +kernel
abbrev rmX11_fails : Room := { frames := 0, cells := 0, slots := 0, locals := 0 }
def wpX11_fails_b0 (f : Nat → Int32) (g : Nat → Nat → Int32) (x1 : Int32) (K : Int32 → ((Nat → Int32) × (Nat → Nat → Int32)) → Prop) : Prop :=
  K (0 : Int32) (upd f 2 x1, g)
set_option maxHeartbeats 4000000 in
set_option maxRecDepth 100000 in
theorem tX11_fails_b0 {K : Int32 → ((Nat → Int32) × (Nat → Nat → Int32)) → Prop} (C : CallFix p m c cX11_fails 2 s args wsX11_fails RX11) (hR : Rti .int p l e rmX11_fails s m args below meth c cX11_fails D A (mT cI cZ) (mWu o h cI cZ) K Q) {f : Nat → Int32} {g : Nat → Nat → Int32} {x1 : Int32} (hh : wpX11_fails_b0 f g x1 K) {H : Heap} {locs : List Loc} {ls : Array Slot} (hw : Wd D A s (mT cI cZ) (mW o h cI cZ f g) H locs) (hl : lv_has ls 2 [(0, .ref o), (1, .int x1)]) : W p l e rmX11_fails s m args below meth c H locs 0 0 Q (F0 m 0 ls []) := by
  unfold wpX11_fails_b0 at hh
  refine lv_aload_n C.1 C.2.1 dX11_fails_0 rfl (lv_at hl 0 rfl) ?_
  refine lv_iload_n C.1 C.2.1 dX11_fails_1 rfl (lv_at hl 1 rfl) ?_
  refine m_pi C hw (inC inW11) 2 (by decide) (wc w_1464) rfl (ty := .int) (by decide +kernel) rfl rfl (Nat.le_of_ble_eq_true rfl) ms_2 dX11_fails_2 (fun H locs hw => ?_)
  refine lv_iconst (v := (0 : Int32)) C.1 C.2.1 dX11_fails_5 (by decide) ?_
  exact hR _ _ _ (upd f 2 x1, g) _ _ dX11_fails_6 rfl hh hw
def wpX11_fails (f : Nat → Int32) (g : Nat → Nat → Int32) (x1 : Int32) (K : Int32 → ((Nat → Int32) × (Nat → Nat → Int32)) → Prop) : Prop := wpX11_fails_b0 f g x1 K
theorem ctX11_fails (l : Launch) (D : va_G) (o : Nat) (h : Nat → Nat) (cI cZ : ClassId) (f : Nat → Int32) (g : Nat → Nat → Int32) (x1 : Int32) {K : Int32 → ((Nat → Int32) × (Nat → Nat → Int32)) → Prop} (hh : wpX11_fails f g x1 K) : Ci l yX11_fails wsX11_fails rmX11_fails [.ref o, .int x1] D (mT cI cZ) (mWu o h cI cZ) (f, g) K := by
  refine Ci_of (cc := cX11_fails) (maxL := 2) (by decide) rfl (Nat.le_of_ble_eq_true rfl) ?_
  intro p e s m below meth c A Q C hw hR ls hl
  exact tX11_fails_b0 C hR hh hw hl
theorem cdX11_fails : yX11_fails.cls = RX11 ∧ yX11_fails.cls ≠ "java/lang/invoke/MethodHandle" ∧ yX11_fails.cls ≠ "java/lang/invoke/VarHandle" ∧ (parseMethodDescriptor yX11_fails.desc).map (fun d => d.parameters.length) = some 1 := by decide +kernel
abbrev rmX11_layFar : Room := { frames := 2, cells := 0, slots := 0, locals := 43 }
def wpX11_layFar_b132 (B45 : (Nat → Int32) → (Nat → Nat → Int32) → Int32 → Int32 → Prop) (B52 : (Nat → Int32) → (Nat → Nat → Int32) → Int32 → Int32 → Int32 → Prop) (f : Nat → Int32) (g : Nat → Nat → Int32) (x1 : Int32) (x2 : Int32) (x3 : Int32) (K : ((Nat → Int32) × (Nat → Nat → Int32)) → Prop) : Prop :=
  B52 f g x1 x2 (x3 + (1 : Int32))
set_option maxHeartbeats 4000000 in
set_option maxRecDepth 100000 in
theorem tX11_layFar_b132 {B45 : (Nat → Int32) → (Nat → Nat → Int32) → Int32 → Int32 → Prop} {B52 : (Nat → Int32) → (Nat → Nat → Int32) → Int32 → Int32 → Int32 → Prop} {K : ((Nat → Int32) × (Nat → Nat → Int32)) → Prop} (C : CallFix p m c cX11_layFar 5 s args wsX11_layFar RX11) (hR : Rtv p l e rmX11_layFar s m args below meth c cX11_layFar D A (mT cI cZ) (mWu o h cI cZ) K Q) (hB45 : ∀ (f : Nat → Int32) (g : Nat → Nat → Int32) (x1 : Int32) (x2 : Int32) (H : Heap) (locs : List Loc) (ls : Array Slot), B45 f g x1 x2 → Wd D A s (mT cI cZ) (mW o h cI cZ f g) H locs → lv_has ls 5 [(0, .ref o), (1, .int x1), (2, .int x2)] → W p l e rmX11_layFar s m args below meth c H locs 0 0 Q (F0 m 45 ls [])) (hB52 : ∀ (f : Nat → Int32) (g : Nat → Nat → Int32) (x1 : Int32) (x2 : Int32) (x3 : Int32) (H : Heap) (locs : List Loc) (ls : Array Slot), B52 f g x1 x2 x3 → Wd D A s (mT cI cZ) (mW o h cI cZ f g) H locs → lv_has ls 5 [(0, .ref o), (1, .int x1), (2, .int x2), (3, .int x3)] → W p l e rmX11_layFar s m args below meth c H locs 0 0 Q (F0 m 52 ls [])) {f : Nat → Int32} {g : Nat → Nat → Int32} {x1 : Int32} {x2 : Int32} {x3 : Int32} (hh : wpX11_layFar_b132 B45 B52 f g x1 x2 x3 K) {H : Heap} {locs : List Loc} {ls : Array Slot} (hw : Wd D A s (mT cI cZ) (mW o h cI cZ f g) H locs) (hl : lv_has ls 5 [(0, .ref o), (1, .int x1), (2, .int x2), (3, .int x3)]) : W p l e rmX11_layFar s m args below meth c H locs 0 0 Q (F0 m 132 ls []) := by
  unfold wpX11_layFar_b132 at hh
  refine lv_iinc (v := x3 + (1 : Int32)) (lv' := [(3, .int (x3 + (1 : Int32))), (0, .ref o), (1, .int x1), (2, .int x2)]) C.1 C.2.1 dX11_layFar_132 hl (k := 3) rfl rfl (by decide) rfl (fun ls hl => ?_)
  refine lv_goto (tgt := 52) C.1 C.2.1 dX11_layFar_135 (by decide) ?_
  exact hB52 _ _ _ _ _ _ _ _ hh hw (lv_sub hl [1, 2, 3, 0] rfl)
def wpX11_layFar_b52_body (B45 : (Nat → Int32) → (Nat → Nat → Int32) → Int32 → Int32 → Prop) (B52 : (Nat → Int32) → (Nat → Nat → Int32) → Int32 → Int32 → Int32 → Prop) (f : Nat → Int32) (g : Nat → Nat → Int32) (x1 : Int32) (x2 : Int32) (x3 : Int32) (K : ((Nat → Int32) × (Nat → Nat → Int32)) → Prop) : Prop :=
  (((4 : Int32) ≤ x3) →
    B45 f g x1 (x2 + (1 : Int32))) ∧
  (¬ ((4 : Int32) ≤ x3) →
    vp_in x2 36 ∧ wpX11_isWall f g (g 55 (ix x2)) x3 (fun r65 u65 =>
      ((r65 = 0) →
      vp_in x2 36 ∧ wpX11_ahead u65.1 u65.2 (u65.2 55 (ix x2)) x3 (fun r82 u82 =>
        vp_in r82 36 ∧ (((u82.2 54 (ix r82)) = (-1 : Int32)) →
        vp_in x2 36 ∧ vp_in (u82.2 55 (ix x2)) 36 ∧ vp_in r82 36 ∧ vp_in x1 36 ∧ wpX11_layFar_b132 B45 B52 u82.1 (pt (pt u82.2 54 (ix r82) ((u82.2 54 (ix (u82.2 55 (ix x2)))) + (1 : Int32))) 55 (ix x1) r82) (x1 + (1 : Int32)) x2 x3 K) ∧
      (¬ ((u82.2 54 (ix r82)) = (-1 : Int32)) →
        wpX11_layFar_b132 B45 B52 u82.1 u82.2 x1 x2 x3 K))) ∧
    (¬ (r65 = 0) →
      wpX11_layFar_b132 B45 B52 u65.1 u65.2 x1 x2 x3 K)))
set_option maxHeartbeats 4000000 in
set_option maxRecDepth 100000 in
theorem tX11_layFar_b52_body {B45 : (Nat → Int32) → (Nat → Nat → Int32) → Int32 → Int32 → Prop} {B52 : (Nat → Int32) → (Nat → Nat → Int32) → Int32 → Int32 → Int32 → Prop} {K : ((Nat → Int32) × (Nat → Nat → Int32)) → Prop} (C : CallFix p m c cX11_layFar 5 s args wsX11_layFar RX11) (hR : Rtv p l e rmX11_layFar s m args below meth c cX11_layFar D A (mT cI cZ) (mWu o h cI cZ) K Q) (hB45 : ∀ (f : Nat → Int32) (g : Nat → Nat → Int32) (x1 : Int32) (x2 : Int32) (H : Heap) (locs : List Loc) (ls : Array Slot), B45 f g x1 x2 → Wd D A s (mT cI cZ) (mW o h cI cZ f g) H locs → lv_has ls 5 [(0, .ref o), (1, .int x1), (2, .int x2)] → W p l e rmX11_layFar s m args below meth c H locs 0 0 Q (F0 m 45 ls [])) (hB52 : ∀ (f : Nat → Int32) (g : Nat → Nat → Int32) (x1 : Int32) (x2 : Int32) (x3 : Int32) (H : Heap) (locs : List Loc) (ls : Array Slot), B52 f g x1 x2 x3 → Wd D A s (mT cI cZ) (mW o h cI cZ f g) H locs → lv_has ls 5 [(0, .ref o), (1, .int x1), (2, .int x2), (3, .int x3)] → W p l e rmX11_layFar s m args below meth c H locs 0 0 Q (F0 m 52 ls [])) {f : Nat → Int32} {g : Nat → Nat → Int32} {x1 : Int32} {x2 : Int32} {x3 : Int32} (hh : wpX11_layFar_b52_body B45 B52 f g x1 x2 x3 K) {H : Heap} {locs : List Loc} {ls : Array Slot} (hw : Wd D A s (mT cI cZ) (mW o h cI cZ f g) H locs) (hl : lv_has ls 5 [(0, .ref o), (1, .int x1), (2, .int x2), (3, .int x3)]) : W p l e rmX11_layFar s m args below meth c H locs 0 0 Q (F0 m 52 ls []) := by
  unfold wpX11_layFar_b52_body at hh
  refine lv_iload_n C.1 C.2.1 dX11_layFar_52 rfl (lv_at hl 3 rfl) ?_
  refine lv_iconst (v := (4 : Int32)) C.1 C.2.1 dX11_layFar_53 (by decide) ?_
  refine lv_icmp_ge (tgt := 138) C.1 C.2.1 dX11_layFar_54 (by decide) (fun c54 => ?_) (fun c54 => ?_)
  · replace hh := hh.1 c54
    refine lv_iinc (v := x2 + (1 : Int32)) (lv' := [(2, .int (x2 + (1 : Int32))), (0, .ref o), (1, .int x1), (3, .int x3)]) C.1 C.2.1 dX11_layFar_138 hl (k := 2) rfl rfl (by decide) rfl (fun ls hl => ?_)
    refine lv_goto (tgt := 45) C.1 C.2.1 dX11_layFar_141 (by decide) ?_
    exact hB45 _ _ _ _ _ _ _ hh hw (lv_sub hl [1, 2, 0] rfl)
  · replace hh := hh.2 c54
    refine lv_aload_n C.1 C.2.1 dX11_layFar_57 rfl (lv_at hl 0 rfl) ?_
    refine lv_aload_n C.1 C.2.1 dX11_layFar_58 rfl (lv_at hl 0 rfl) ?_
    refine m_ga C hw (inC inW11) 55 (by decide) (wc w_1517) mg_55 dX11_layFar_59 ?_
    refine lv_iload_n C.1 C.2.1 dX11_layFar_62 rfl (lv_at hl 2 rfl) ?_
    obtain ⟨hi63, hh⟩ := hh
    refine m_ial C hw mp_55 (x := g 55 (ix x2)) hi63 rfl dX11_layFar_63 ?_
    refine lv_iload_n C.1 C.2.1 dX11_layFar_64 rfl (lv_at hl 3 rfl) ?_
    refine m_Vi C hw (ctX11_isWall l D o h cI cZ f g (g 55 (ix x2)) x3 hh) (cwV 2 C.2.2.2.2 (gd_V w_1823 w_1825 w_81 w_125 w_1826) rfl rfl rfl cdX11_isWall ⟨Nat.le_of_ble_eq_true rfl, Nat.le_of_ble_eq_true rfl⟩) rfl hl.1 (Nat.le_of_ble_eq_true rfl) dX11_layFar_65 ⟨Nat.zero_le _, Nat.zero_le _⟩ (fun r65 u65 H locs hh hw => ?_) rfl
    refine lv_if_eq (tgt := 74) C.1 C.2.1 dX11_layFar_68 (by decide) (fun c68 => ?_) (fun c68 => ?_)
    · replace hh := hh.1 c68
      refine lv_aload_n C.1 C.2.1 dX11_layFar_74 rfl (lv_at hl 0 rfl) ?_
      refine lv_aload_n C.1 C.2.1 dX11_layFar_75 rfl (lv_at hl 0 rfl) ?_
      refine m_ga C hw (inC inW11) 55 (by decide) (wc w_1517) mg_55 dX11_layFar_76 ?_
      refine lv_iload_n C.1 C.2.1 dX11_layFar_79 rfl (lv_at hl 2 rfl) ?_
      obtain ⟨hi80, hh⟩ := hh
      refine m_ial C hw mp_55 (x := u65.2 55 (ix x2)) hi80 rfl dX11_layFar_80 ?_
      refine lv_iload_n C.1 C.2.1 dX11_layFar_81 rfl (lv_at hl 3 rfl) ?_
      refine m_Vi C hw (ctX11_ahead l D o h cI cZ u65.1 u65.2 (u65.2 55 (ix x2)) x3 hh) (cwV 2 C.2.2.2.2 (gd_V w_1834 w_1836 w_83 w_125 w_1837) rfl rfl rfl cdX11_ahead ⟨Nat.le_of_ble_eq_true rfl, Nat.le_of_ble_eq_true rfl⟩) rfl hl.1 (Nat.le_of_ble_eq_true rfl) dX11_layFar_82 ⟨Nat.zero_le _, Nat.zero_le _⟩ (fun r82 u82 H locs hh hw => ?_) rfl
      refine lv_istore (lv' := [(4, .int r82), (0, .ref o), (1, .int x1), (2, .int x2), (3, .int x3)]) C.1 C.2.1 dX11_layFar_85 hl (by decide) rfl (fun ls hl => ?_)
      refine lv_aload_n C.1 C.2.1 dX11_layFar_87 rfl (lv_at hl 1 rfl) ?_
      refine m_ga C hw (inC inW11) 54 (by decide) (wc w_1516) mg_54 dX11_layFar_88 ?_
      refine lv_iload C.1 C.2.1 dX11_layFar_91 (lv_at hl 0 rfl) ?_
      obtain ⟨hi93, hh⟩ := hh
      refine m_ial C hw mp_54 (x := u82.2 54 (ix r82)) hi93 rfl dX11_layFar_93 ?_
      refine lv_iconst (v := (-1 : Int32)) C.1 C.2.1 dX11_layFar_94 (by decide) ?_
      refine lv_icmp_eq (tgt := 101) C.1 C.2.1 dX11_layFar_95 (by decide) (fun c95 => ?_) (fun c95 => ?_)
      · replace hh := hh.1 c95
        refine lv_aload_n C.1 C.2.1 dX11_layFar_101 rfl (lv_at hl 1 rfl) ?_
        refine m_ga C hw (inC inW11) 54 (by decide) (wc w_1516) mg_54 dX11_layFar_102 ?_
        refine lv_iload C.1 C.2.1 dX11_layFar_105 (lv_at hl 0 rfl) ?_
        refine lv_aload_n C.1 C.2.1 dX11_layFar_107 rfl (lv_at hl 1 rfl) ?_
        refine m_ga C hw (inC inW11) 54 (by decide) (wc w_1516) mg_54 dX11_layFar_108 ?_
        refine lv_aload_n C.1 C.2.1 dX11_layFar_111 rfl (lv_at hl 1 rfl) ?_
        refine m_ga C hw (inC inW11) 55 (by decide) (wc w_1517) mg_55 dX11_layFar_112 ?_
        refine lv_iload_n C.1 C.2.1 dX11_layFar_115 rfl (lv_at hl 3 rfl) ?_
        obtain ⟨hi116, hh⟩ := hh
        refine m_ial C hw mp_55 (x := u82.2 55 (ix x2)) hi116 rfl dX11_layFar_116 ?_
        obtain ⟨hi117, hh⟩ := hh
        refine m_ial C hw mp_54 (x := u82.2 54 (ix (u82.2 55 (ix x2)))) hi117 rfl dX11_layFar_117 ?_
        refine lv_iconst (v := (1 : Int32)) C.1 C.2.1 dX11_layFar_118 (by decide) ?_
        refine lv_iadd C.1 C.2.1 dX11_layFar_119 ?_
        obtain ⟨hi120, hh⟩ := hh
        refine m_ias C hw mp_54 mq_54 hi120 dX11_layFar_120 (fun H locs hw => ?_)
        refine lv_aload_n C.1 C.2.1 dX11_layFar_121 rfl (lv_at hl 1 rfl) ?_
        refine m_ga C hw (inC inW11) 55 (by decide) (wc w_1517) mg_55 dX11_layFar_122 ?_
        refine lv_iload_n C.1 C.2.1 dX11_layFar_125 rfl (lv_at hl 2 rfl) ?_
        refine lv_iload C.1 C.2.1 dX11_layFar_126 (lv_at hl 0 rfl) ?_
        obtain ⟨hi128, hh⟩ := hh
        refine m_ias C hw mp_55 mq_55 hi128 dX11_layFar_128 (fun H locs hw => ?_)
        refine lv_iinc (v := x1 + (1 : Int32)) (lv' := [(1, .int (x1 + (1 : Int32))), (4, .int r82), (0, .ref o), (2, .int x2), (3, .int x3)]) C.1 C.2.1 dX11_layFar_129 hl (k := 2) rfl rfl (by decide) rfl (fun ls hl => ?_)
        exact tX11_layFar_b132 C hR hB45 hB52 hh hw (lv_sub hl [2, 0, 3, 4] rfl)
      · replace hh := hh.2 c95
        refine lv_goto (tgt := 132) C.1 C.2.1 dX11_layFar_98 (by decide) ?_
        exact tX11_layFar_b132 C hR hB45 hB52 hh hw (lv_sub hl [1, 2, 3, 4] rfl)
    · replace hh := hh.2 c68
      refine lv_goto (tgt := 132) C.1 C.2.1 dX11_layFar_71 (by decide) ?_
      exact tX11_layFar_b132 C hR hB45 hB52 hh hw hl
def wpX11_layFar_b52 (B45 : (Nat → Int32) → (Nat → Nat → Int32) → Int32 → Int32 → Prop) (n_ : Nat) (f : Nat → Int32) (g : Nat → Nat → Int32) (x1 : Int32) (x2 : Int32) (x3 : Int32) (K : ((Nat → Int32) × (Nat → Nat → Int32)) → Prop) : Prop := match n_ with
  | 0 => False
  | n + 1 => wpX11_layFar_b52_body B45 (fun f g x1 x2 x3 => wpX11_layFar_b52 B45 n f g x1 x2 x3 K) f g x1 x2 x3 K
theorem tX11_layFar_b52 {B45 : (Nat → Int32) → (Nat → Nat → Int32) → Int32 → Int32 → Prop} {K : ((Nat → Int32) × (Nat → Nat → Int32)) → Prop} (C : CallFix p m c cX11_layFar 5 s args wsX11_layFar RX11) (hR : Rtv p l e rmX11_layFar s m args below meth c cX11_layFar D A (mT cI cZ) (mWu o h cI cZ) K Q) (hB45 : ∀ (f : Nat → Int32) (g : Nat → Nat → Int32) (x1 : Int32) (x2 : Int32) (H : Heap) (locs : List Loc) (ls : Array Slot), B45 f g x1 x2 → Wd D A s (mT cI cZ) (mW o h cI cZ f g) H locs → lv_has ls 5 [(0, .ref o), (1, .int x1), (2, .int x2)] → W p l e rmX11_layFar s m args below meth c H locs 0 0 Q (F0 m 45 ls [])) (n : Nat) : ∀ (f : Nat → Int32) (g : Nat → Nat → Int32) (x1 : Int32) (x2 : Int32) (x3 : Int32) (H : Heap) (locs : List Loc) (ls : Array Slot), wpX11_layFar_b52 B45 n f g x1 x2 x3 K → Wd D A s (mT cI cZ) (mW o h cI cZ f g) H locs → lv_has ls 5 [(0, .ref o), (1, .int x1), (2, .int x2), (3, .int x3)] → W p l e rmX11_layFar s m args below meth c H locs 0 0 Q (F0 m 52 ls []) := by
  induction n with
  | zero => intro f g x1 x2 x3 H locs ls hh; exact hh.elim
  | succ n ih => intro f g x1 x2 x3 H locs ls hh hw hl; exact tX11_layFar_b52_body C hR hB45 ih hh hw hl
def wpX11_layFar_b45_body (B45 : (Nat → Int32) → (Nat → Nat → Int32) → Int32 → Int32 → Prop) (f : Nat → Int32) (g : Nat → Nat → Int32) (x1 : Int32) (x2 : Int32) (K : ((Nat → Int32) × (Nat → Nat → Int32)) → Prop) : Prop :=
  ((x1 ≤ x2) →
    K (f, g)) ∧
  (¬ (x1 ≤ x2) →
    ∃ n, wpX11_layFar_b52 B45 n f g x1 x2 (0 : Int32) K)
set_option maxHeartbeats 4000000 in
set_option maxRecDepth 100000 in
theorem tX11_layFar_b45_body {B45 : (Nat → Int32) → (Nat → Nat → Int32) → Int32 → Int32 → Prop} {K : ((Nat → Int32) × (Nat → Nat → Int32)) → Prop} (C : CallFix p m c cX11_layFar 5 s args wsX11_layFar RX11) (hR : Rtv p l e rmX11_layFar s m args below meth c cX11_layFar D A (mT cI cZ) (mWu o h cI cZ) K Q) (hB45 : ∀ (f : Nat → Int32) (g : Nat → Nat → Int32) (x1 : Int32) (x2 : Int32) (H : Heap) (locs : List Loc) (ls : Array Slot), B45 f g x1 x2 → Wd D A s (mT cI cZ) (mW o h cI cZ f g) H locs → lv_has ls 5 [(0, .ref o), (1, .int x1), (2, .int x2)] → W p l e rmX11_layFar s m args below meth c H locs 0 0 Q (F0 m 45 ls [])) {f : Nat → Int32} {g : Nat → Nat → Int32} {x1 : Int32} {x2 : Int32} (hh : wpX11_layFar_b45_body B45 f g x1 x2 K) {H : Heap} {locs : List Loc} {ls : Array Slot} (hw : Wd D A s (mT cI cZ) (mW o h cI cZ f g) H locs) (hl : lv_has ls 5 [(0, .ref o), (1, .int x1), (2, .int x2)]) : W p l e rmX11_layFar s m args below meth c H locs 0 0 Q (F0 m 45 ls []) := by
  unfold wpX11_layFar_b45_body at hh
  refine lv_iload_n C.1 C.2.1 dX11_layFar_45 rfl (lv_at hl 2 rfl) ?_
  refine lv_iload_n C.1 C.2.1 dX11_layFar_46 rfl (lv_at hl 1 rfl) ?_
  refine lv_icmp_ge (tgt := 144) C.1 C.2.1 dX11_layFar_47 (by decide) (fun c47 => ?_) (fun c47 => ?_)
  · replace hh := hh.1 c47
    exact hR _ _ (f, g) _ _ dX11_layFar_144 hh hw
  · replace hh := hh.2 c47
    refine lv_iconst (v := (0 : Int32)) C.1 C.2.1 dX11_layFar_50 (by decide) ?_
    refine lv_istore_n (lv' := [(3, .int (0 : Int32)), (0, .ref o), (1, .int x1), (2, .int x2)]) C.1 C.2.1 dX11_layFar_51 rfl hl (by decide) rfl (fun ls hl => ?_)
    obtain ⟨n, hh⟩ := hh
    exact tX11_layFar_b52 C hR hB45 n _ _ _ _ _ _ _ _ hh hw (lv_sub hl [1, 2, 3, 0] rfl)
def wpX11_layFar_b45 (n_ : Nat) (f : Nat → Int32) (g : Nat → Nat → Int32) (x1 : Int32) (x2 : Int32) (K : ((Nat → Int32) × (Nat → Nat → Int32)) → Prop) : Prop := match n_ with
  | 0 => False
  | n + 1 => wpX11_layFar_b45_body (fun f g x1 x2 => wpX11_layFar_b45 n f g x1 x2 K) f g x1 x2 K
theorem tX11_layFar_b45 {K : ((Nat → Int32) × (Nat → Nat → Int32)) → Prop} (C : CallFix p m c cX11_layFar 5 s args wsX11_layFar RX11) (hR : Rtv p l e rmX11_layFar s m args below meth c cX11_layFar D A (mT cI cZ) (mWu o h cI cZ) K Q) (n : Nat) : ∀ (f : Nat → Int32) (g : Nat → Nat → Int32) (x1 : Int32) (x2 : Int32) (H : Heap) (locs : List Loc) (ls : Array Slot), wpX11_layFar_b45 n f g x1 x2 K → Wd D A s (mT cI cZ) (mW o h cI cZ f g) H locs → lv_has ls 5 [(0, .ref o), (1, .int x1), (2, .int x2)] → W p l e rmX11_layFar s m args below meth c H locs 0 0 Q (F0 m 45 ls []) := by
  induction n with
  | zero => intro f g x1 x2 H locs ls hh; exact hh.elim
  | succ n ih => intro f g x1 x2 H locs ls hh hw hl; exact tX11_layFar_b45_body C hR ih hh hw hl
def wpX11_layFar_b2_body (B2 : (Nat → Int32) → (Nat → Nat → Int32) → Int32 → Prop) (f : Nat → Int32) (g : Nat → Nat → Int32) (x1 : Int32) (K : ((Nat → Int32) × (Nat → Nat → Int32)) → Prop) : Prop :=
  (((36 : Int32) ≤ x1) →
    vp_in (f 40) 36 ∧ vp_in (0 : Int32) 36 ∧ ∃ n, wpX11_layFar_b45 n f (pt (pt g 54 (ix (f 40)) (0 : Int32)) 55 (ix (0 : Int32)) (f 40)) (1 : Int32) (0 : Int32) K) ∧
  (¬ ((36 : Int32) ≤ x1) →
    vp_in x1 36 ∧ B2 f (pt g 54 (ix x1) (-1 : Int32)) (x1 + (1 : Int32)))
set_option maxHeartbeats 4000000 in
set_option maxRecDepth 100000 in
theorem tX11_layFar_b2_body {B2 : (Nat → Int32) → (Nat → Nat → Int32) → Int32 → Prop} {K : ((Nat → Int32) × (Nat → Nat → Int32)) → Prop} (C : CallFix p m c cX11_layFar 5 s args wsX11_layFar RX11) (hR : Rtv p l e rmX11_layFar s m args below meth c cX11_layFar D A (mT cI cZ) (mWu o h cI cZ) K Q) (hB2 : ∀ (f : Nat → Int32) (g : Nat → Nat → Int32) (x1 : Int32) (H : Heap) (locs : List Loc) (ls : Array Slot), B2 f g x1 → Wd D A s (mT cI cZ) (mW o h cI cZ f g) H locs → lv_has ls 5 [(0, .ref o), (1, .int x1)] → W p l e rmX11_layFar s m args below meth c H locs 0 0 Q (F0 m 2 ls [])) {f : Nat → Int32} {g : Nat → Nat → Int32} {x1 : Int32} (hh : wpX11_layFar_b2_body B2 f g x1 K) {H : Heap} {locs : List Loc} {ls : Array Slot} (hw : Wd D A s (mT cI cZ) (mW o h cI cZ f g) H locs) (hl : lv_has ls 5 [(0, .ref o), (1, .int x1)]) : W p l e rmX11_layFar s m args below meth c H locs 0 0 Q (F0 m 2 ls []) := by
  unfold wpX11_layFar_b2_body at hh
  refine lv_iload_n C.1 C.2.1 dX11_layFar_2 rfl (lv_at hl 1 rfl) ?_
  refine lv_bipush (v := (36 : Int32)) C.1 C.2.1 dX11_layFar_3 (by decide) ?_
  refine lv_icmp_ge (tgt := 21) C.1 C.2.1 dX11_layFar_5 (by decide) (fun c5 => ?_) (fun c5 => ?_)
  · replace hh := hh.1 c5
    refine lv_aload_n C.1 C.2.1 dX11_layFar_21 rfl (lv_at hl 0 rfl) ?_
    refine m_ga C hw (inC inW11) 54 (by decide) (wc w_1516) mg_54 dX11_layFar_22 ?_
    refine lv_aload_n C.1 C.2.1 dX11_layFar_25 rfl (lv_at hl 0 rfl) ?_
    refine m_gi C hw (inC inW11) 40 (by decide) (wc w_1502) mg_40 (x := f 40) rfl dX11_layFar_26 ?_
    refine lv_iconst (v := (0 : Int32)) C.1 C.2.1 dX11_layFar_29 (by decide) ?_
    obtain ⟨hi30, hh⟩ := hh
    refine m_ias C hw mp_54 mq_54 hi30 dX11_layFar_30 (fun H locs hw => ?_)
    refine lv_aload_n C.1 C.2.1 dX11_layFar_31 rfl (lv_at hl 0 rfl) ?_
    refine m_ga C hw (inC inW11) 55 (by decide) (wc w_1517) mg_55 dX11_layFar_32 ?_
    refine lv_iconst (v := (0 : Int32)) C.1 C.2.1 dX11_layFar_35 (by decide) ?_
    refine lv_aload_n C.1 C.2.1 dX11_layFar_36 rfl (lv_at hl 0 rfl) ?_
    refine m_gi C hw (inC inW11) 40 (by decide) (wc w_1502) mg_40 (x := f 40) rfl dX11_layFar_37 ?_
    obtain ⟨hi40, hh⟩ := hh
    refine m_ias C hw mp_55 mq_55 hi40 dX11_layFar_40 (fun H locs hw => ?_)
    refine lv_iconst (v := (1 : Int32)) C.1 C.2.1 dX11_layFar_41 (by decide) ?_
    refine lv_istore_n (lv' := [(1, .int (1 : Int32)), (0, .ref o)]) C.1 C.2.1 dX11_layFar_42 rfl hl (by decide) rfl (fun ls hl => ?_)
    refine lv_iconst (v := (0 : Int32)) C.1 C.2.1 dX11_layFar_43 (by decide) ?_
    refine lv_istore_n (lv' := [(2, .int (0 : Int32)), (1, .int (1 : Int32)), (0, .ref o)]) C.1 C.2.1 dX11_layFar_44 rfl hl (by decide) rfl (fun ls hl => ?_)
    obtain ⟨n, hh⟩ := hh
    exact tX11_layFar_b45 C hR n _ _ _ _ _ _ _ hh hw (lv_sub hl [2, 1, 0] rfl)
  · replace hh := hh.2 c5
    refine lv_aload_n C.1 C.2.1 dX11_layFar_8 rfl (lv_at hl 0 rfl) ?_
    refine m_ga C hw (inC inW11) 54 (by decide) (wc w_1516) mg_54 dX11_layFar_9 ?_
    refine lv_iload_n C.1 C.2.1 dX11_layFar_12 rfl (lv_at hl 1 rfl) ?_
    refine lv_iconst (v := (-1 : Int32)) C.1 C.2.1 dX11_layFar_13 (by decide) ?_
    obtain ⟨hi14, hh⟩ := hh
    refine m_ias C hw mp_54 mq_54 hi14 dX11_layFar_14 (fun H locs hw => ?_)
    refine lv_iinc (v := x1 + (1 : Int32)) (lv' := [(1, .int (x1 + (1 : Int32))), (0, .ref o)]) C.1 C.2.1 dX11_layFar_15 hl (k := 1) rfl rfl (by decide) rfl (fun ls hl => ?_)
    refine lv_goto (tgt := 2) C.1 C.2.1 dX11_layFar_18 (by decide) ?_
    exact hB2 _ _ _ _ _ _ hh hw (lv_sub hl [1, 0] rfl)
def wpX11_layFar_b2 (n_ : Nat) (f : Nat → Int32) (g : Nat → Nat → Int32) (x1 : Int32) (K : ((Nat → Int32) × (Nat → Nat → Int32)) → Prop) : Prop := match n_ with
  | 0 => False
  | n + 1 => wpX11_layFar_b2_body (fun f g x1 => wpX11_layFar_b2 n f g x1 K) f g x1 K
theorem tX11_layFar_b2 {K : ((Nat → Int32) × (Nat → Nat → Int32)) → Prop} (C : CallFix p m c cX11_layFar 5 s args wsX11_layFar RX11) (hR : Rtv p l e rmX11_layFar s m args below meth c cX11_layFar D A (mT cI cZ) (mWu o h cI cZ) K Q) (n : Nat) : ∀ (f : Nat → Int32) (g : Nat → Nat → Int32) (x1 : Int32) (H : Heap) (locs : List Loc) (ls : Array Slot), wpX11_layFar_b2 n f g x1 K → Wd D A s (mT cI cZ) (mW o h cI cZ f g) H locs → lv_has ls 5 [(0, .ref o), (1, .int x1)] → W p l e rmX11_layFar s m args below meth c H locs 0 0 Q (F0 m 2 ls []) := by
  induction n with
  | zero => intro f g x1 H locs ls hh; exact hh.elim
  | succ n ih => intro f g x1 H locs ls hh hw hl; exact tX11_layFar_b2_body C hR ih hh hw hl
def wpX11_layFar_b0 (f : Nat → Int32) (g : Nat → Nat → Int32) (K : ((Nat → Int32) × (Nat → Nat → Int32)) → Prop) : Prop :=
  ∃ n, wpX11_layFar_b2 n f g (0 : Int32) K
set_option maxHeartbeats 4000000 in
set_option maxRecDepth 100000 in
theorem tX11_layFar_b0 {K : ((Nat → Int32) × (Nat → Nat → Int32)) → Prop} (C : CallFix p m c cX11_layFar 5 s args wsX11_layFar RX11) (hR : Rtv p l e rmX11_layFar s m args below meth c cX11_layFar D A (mT cI cZ) (mWu o h cI cZ) K Q) {f : Nat → Int32} {g : Nat → Nat → Int32} (hh : wpX11_layFar_b0 f g K) {H : Heap} {locs : List Loc} {ls : Array Slot} (hw : Wd D A s (mT cI cZ) (mW o h cI cZ f g) H locs) (hl : lv_has ls 5 [(0, .ref o)]) : W p l e rmX11_layFar s m args below meth c H locs 0 0 Q (F0 m 0 ls []) := by
  unfold wpX11_layFar_b0 at hh
  refine lv_iconst (v := (0 : Int32)) C.1 C.2.1 dX11_layFar_0 (by decide) ?_
  refine lv_istore_n (lv' := [(1, .int (0 : Int32)), (0, .ref o)]) C.1 C.2.1 dX11_layFar_1 rfl hl (by decide) rfl (fun ls hl => ?_)
  obtain ⟨n, hh⟩ := hh
  exact tX11_layFar_b2 C hR n _ _ _ _ _ _ hh hw (lv_sub hl [1, 0] rfl)
def wpX11_layFar (f : Nat → Int32) (g : Nat → Nat → Int32) (K : ((Nat → Int32) × (Nat → Nat → Int32)) → Prop) : Prop := wpX11_layFar_b0 f g K
theorem ctX11_layFar (l : Launch) (D : va_G) (o : Nat) (h : Nat → Nat) (cI cZ : ClassId) (f : Nat → Int32) (g : Nat → Nat → Int32) {K : ((Nat → Int32) × (Nat → Nat → Int32)) → Prop} (hh : wpX11_layFar f g K) : Cv l yX11_layFar wsX11_layFar rmX11_layFar [.ref o] D (mT cI cZ) (mWu o h cI cZ) (f, g) K := by
  refine Cv_of (cc := cX11_layFar) (maxL := 5) (by decide) rfl (Nat.le_of_ble_eq_true rfl) ?_
  intro p e s m below meth c A Q C hw hR ls hl
  exact tX11_layFar_b0 C hR hh hw hl
theorem cdX11_layFar : yX11_layFar.cls = RX11 ∧ yX11_layFar.cls ≠ "java/lang/invoke/MethodHandle" ∧ yX11_layFar.cls ≠ "java/lang/invoke/VarHandle" ∧ (parseMethodDescriptor yX11_layFar.desc).map (fun d => d.parameters.length) = some 0 := by decide +kernel
abbrev rmX11_look : Room := { frames := 3, cells := 0, slots := 0, locals := 67 }
def wpX11_look_b0 (f : Nat → Int32) (g : Nat → Nat → Int32) (x1 : Int32) (x2 : Int32) (K : Int32 → ((Nat → Int32) × (Nat → Nat → Int32)) → Prop) : Prop :=
  wpX11_isSquare (upd f 2 (0 : Int32)) g x1 (fun r7 u7 =>
    (¬ (r7 = 0) →
    (x2 = (0 : Int32) →
      vp_in x1 36 ∧ K (u7.2 47 (ix x1)) (u7.1, u7.2)) ∧
    (x2 = (1 : Int32) →
      vp_in x1 36 ∧ K (u7.2 48 (ix x1)) (u7.1, u7.2)) ∧
    (x2 = (2 : Int32) →
      vp_in x1 36 ∧ K (u7.2 46 (ix x1)) (u7.1, u7.2)) ∧
    (x2 = (3 : Int32) →
      wpX11_layFar u7.1 u7.2  (fun u74 =>
          vp_in x1 36 ∧ K (u74.2 54 (ix x1)) (u74.1, u74.2))) ∧
    ((x2).toInt < 0 ∨ 3 < (x2).toInt →
      wpX11_fails u7.1 u7.2 (2 : Int32) (fun r86 u86 =>
        K r86 (u86.1, u86.2)))) ∧
  ((r7 = 0) →
    wpX11_fails u7.1 u7.2 (1 : Int32) (fun r15 u15 =>
      K r15 (u15.1, u15.2))))
set_option maxHeartbeats 4000000 in
set_option maxRecDepth 100000 in
theorem tX11_look_b0 {K : Int32 → ((Nat → Int32) × (Nat → Nat → Int32)) → Prop} (C : CallFix p m c cX11_look 3 s args wsX11_look RX11) (hR : Rti .int p l e rmX11_look s m args below meth c cX11_look D A (mT cI cZ) (mWu o h cI cZ) K Q) {f : Nat → Int32} {g : Nat → Nat → Int32} {x1 : Int32} {x2 : Int32} (hh : wpX11_look_b0 f g x1 x2 K) {H : Heap} {locs : List Loc} {ls : Array Slot} (hw : Wd D A s (mT cI cZ) (mW o h cI cZ f g) H locs) (hl : lv_has ls 3 [(0, .ref o), (1, .int x1), (2, .int x2)]) : W p l e rmX11_look s m args below meth c H locs 0 0 Q (F0 m 0 ls []) := by
  unfold wpX11_look_b0 at hh
  refine lv_aload_n C.1 C.2.1 dX11_look_0 rfl (lv_at hl 0 rfl) ?_
  refine lv_iconst (v := (0 : Int32)) C.1 C.2.1 dX11_look_1 (by decide) ?_
  refine m_pi C hw (inC inW11) 2 (by decide) (wc w_1464) rfl (ty := .int) (by decide +kernel) rfl rfl (Nat.le_of_ble_eq_true rfl) ms_2 dX11_look_2 (fun H locs hw => ?_)
  refine lv_aload_n C.1 C.2.1 dX11_look_5 rfl (lv_at hl 0 rfl) ?_
  refine lv_iload_n C.1 C.2.1 dX11_look_6 rfl (lv_at hl 1 rfl) ?_
  refine m_Vi C hw (ctX11_isSquare l D o h cI cZ (upd f 2 (0 : Int32)) g x1 hh) (cwV 1 C.2.2.2.2 (gd_V w_1815 w_1817 w_79 w_125 w_1818) rfl rfl rfl cdX11_isSquare ⟨Nat.le_of_ble_eq_true rfl, Nat.le_of_ble_eq_true rfl⟩) rfl hl.1 (Nat.le_of_ble_eq_true rfl) dX11_look_7 ⟨Nat.zero_le _, Nat.zero_le _⟩ (fun r7 u7 H locs hh hw => ?_) rfl
  refine lv_if_ne (tgt := 19) C.1 C.2.1 dX11_look_10 (by decide) (fun c10 => ?_) (fun c10 => ?_)
  · replace hh := hh.1 c10
    refine lv_iload_n C.1 C.2.1 dX11_look_19 rfl (lv_at hl 2 rfl) ?_
    refine sw_in (x := x2) (lo := 0) (hi := 3) (fun hlo hhi => ?_) (fun ho => ?_)
    · have hv : (x2).toInt = 0 ∨ (x2).toInt = 1 ∨ (x2).toInt = 2 ∨ (x2).toInt = 3 := by omega
      rcases hv with hv | hv | hv | hv
      · replace hh := hh.1 (sw_eq hv (by decide))
        refine lv_tableIn (off := 32) (tgt := 52) C.1 C.2.1 dX11_look_20 hlo hhi (by rw [hv]; rfl) (by decide) ?_
        refine lv_aload_n C.1 C.2.1 dX11_look_52 rfl (lv_at hl 0 rfl) ?_
        refine m_ga C hw (inC inW11) 47 (by decide) (wc w_1509) mg_47 dX11_look_53 ?_
        refine lv_iload_n C.1 C.2.1 dX11_look_56 rfl (lv_at hl 1 rfl) ?_
        obtain ⟨hi57, hh⟩ := hh
        refine m_ial C hw mp_47 (x := u7.2 47 (ix x1)) hi57 rfl dX11_look_57 ?_
        exact hR _ _ _ (u7.1, u7.2) _ _ dX11_look_58 rfl hh hw
      · replace hh := hh.2.1 (sw_eq hv (by decide))
        refine lv_tableIn (off := 39) (tgt := 59) C.1 C.2.1 dX11_look_20 hlo hhi (by rw [hv]; rfl) (by decide) ?_
        refine lv_aload_n C.1 C.2.1 dX11_look_59 rfl (lv_at hl 0 rfl) ?_
        refine m_ga C hw (inC inW11) 48 (by decide) (wc w_1510) mg_48 dX11_look_60 ?_
        refine lv_iload_n C.1 C.2.1 dX11_look_63 rfl (lv_at hl 1 rfl) ?_
        obtain ⟨hi64, hh⟩ := hh
        refine m_ial C hw mp_48 (x := u7.2 48 (ix x1)) hi64 rfl dX11_look_64 ?_
        exact hR _ _ _ (u7.1, u7.2) _ _ dX11_look_65 rfl hh hw
      · replace hh := hh.2.2.1 (sw_eq hv (by decide))
        refine lv_tableIn (off := 46) (tgt := 66) C.1 C.2.1 dX11_look_20 hlo hhi (by rw [hv]; rfl) (by decide) ?_
        refine lv_aload_n C.1 C.2.1 dX11_look_66 rfl (lv_at hl 0 rfl) ?_
        refine m_ga C hw (inC inW11) 46 (by decide) (wc w_1508) mg_46 dX11_look_67 ?_
        refine lv_iload_n C.1 C.2.1 dX11_look_70 rfl (lv_at hl 1 rfl) ?_
        obtain ⟨hi71, hh⟩ := hh
        refine m_ial C hw mp_46 (x := u7.2 46 (ix x1)) hi71 rfl dX11_look_71 ?_
        exact hR _ _ _ (u7.1, u7.2) _ _ dX11_look_72 rfl hh hw
      · replace hh := hh.2.2.2.1 (sw_eq hv (by decide))
        refine lv_tableIn (off := 53) (tgt := 73) C.1 C.2.1 dX11_look_20 hlo hhi (by rw [hv]; rfl) (by decide) ?_
        refine lv_aload_n C.1 C.2.1 dX11_look_73 rfl (lv_at hl 0 rfl) ?_
        refine m_Vv C hw (ctX11_layFar l D o h cI cZ u7.1 u7.2  hh) (cwV 0 C.2.2.2.2 (gd_V w_1890 w_1892 w_90 w_125 w_1893) rfl rfl rfl cdX11_layFar ⟨Nat.le_of_ble_eq_true rfl, Nat.le_of_ble_eq_true rfl⟩) rfl hl.1 (Nat.le_of_ble_eq_true rfl) dX11_look_74 ⟨Nat.zero_le _, Nat.zero_le _⟩ (fun u74 H locs hh hw => ?_) rfl
        refine lv_aload_n C.1 C.2.1 dX11_look_77 rfl (lv_at hl 0 rfl) ?_
        refine m_ga C hw (inC inW11) 54 (by decide) (wc w_1516) mg_54 dX11_look_78 ?_
        refine lv_iload_n C.1 C.2.1 dX11_look_81 rfl (lv_at hl 1 rfl) ?_
        obtain ⟨hi82, hh⟩ := hh
        refine m_ial C hw mp_54 (x := u74.2 54 (ix x1)) hi82 rfl dX11_look_82 ?_
        exact hR _ _ _ (u74.1, u74.2) _ _ dX11_look_83 rfl hh hw
    · replace hh := hh.2.2.2.2 ho
      refine lv_tableOut (tgt := 84) C.1 C.2.1 dX11_look_20 ho (by decide) ?_
      refine lv_aload_n C.1 C.2.1 dX11_look_84 rfl (lv_at hl 0 rfl) ?_
      refine lv_iconst (v := (2 : Int32)) C.1 C.2.1 dX11_look_85 (by decide) ?_
      refine m_Vi C hw (ctX11_fails l D o h cI cZ u7.1 u7.2 (2 : Int32) hh) (cwV 1 C.2.2.2.2 (gd_V w_1886 w_1888 w_89 w_125 w_1889) rfl rfl rfl cdX11_fails ⟨Nat.le_of_ble_eq_true rfl, Nat.le_of_ble_eq_true rfl⟩) rfl hl.1 (Nat.le_of_ble_eq_true rfl) dX11_look_86 ⟨Nat.zero_le _, Nat.zero_le _⟩ (fun r86 u86 H locs hh hw => ?_) rfl
      exact hR _ _ _ (u86.1, u86.2) _ _ dX11_look_89 rfl hh hw
  · replace hh := hh.2 c10
    refine lv_aload_n C.1 C.2.1 dX11_look_13 rfl (lv_at hl 0 rfl) ?_
    refine lv_iconst (v := (1 : Int32)) C.1 C.2.1 dX11_look_14 (by decide) ?_
    refine m_Vi C hw (ctX11_fails l D o h cI cZ u7.1 u7.2 (1 : Int32) hh) (cwV 1 C.2.2.2.2 (gd_V w_1886 w_1888 w_89 w_125 w_1889) rfl rfl rfl cdX11_fails ⟨Nat.le_of_ble_eq_true rfl, Nat.le_of_ble_eq_true rfl⟩) rfl hl.1 (Nat.le_of_ble_eq_true rfl) dX11_look_15 ⟨Nat.zero_le _, Nat.zero_le _⟩ (fun r15 u15 H locs hh hw => ?_) rfl
    exact hR _ _ _ (u15.1, u15.2) _ _ dX11_look_18 rfl hh hw
def wpX11_look (f : Nat → Int32) (g : Nat → Nat → Int32) (x1 : Int32) (x2 : Int32) (K : Int32 → ((Nat → Int32) × (Nat → Nat → Int32)) → Prop) : Prop := wpX11_look_b0 f g x1 x2 K
theorem ctX11_look (l : Launch) (D : va_G) (o : Nat) (h : Nat → Nat) (cI cZ : ClassId) (f : Nat → Int32) (g : Nat → Nat → Int32) (x1 : Int32) (x2 : Int32) {K : Int32 → ((Nat → Int32) × (Nat → Nat → Int32)) → Prop} (hh : wpX11_look f g x1 x2 K) : Ci l yX11_look wsX11_look rmX11_look [.ref o, .int x1, .int x2] D (mT cI cZ) (mWu o h cI cZ) (f, g) K := by
  refine Ci_of (cc := cX11_look) (maxL := 3) (by decide) rfl (Nat.le_of_ble_eq_true rfl) ?_
  intro p e s m below meth c A Q C hw hR ls hl
  exact tX11_look_b0 C hR hh hw hl
theorem cdX11_look : yX11_look.cls = RX11 ∧ yX11_look.cls ≠ "java/lang/invoke/MethodHandle" ∧ yX11_look.cls ≠ "java/lang/invoke/VarHandle" ∧ (parseMethodDescriptor yX11_look.desc).map (fun d => d.parameters.length) = some 2 := by decide +kernel
abbrev rmX11_puts : Room := { frames := 0, cells := 0, slots := 0, locals := 0 }
def wpX11_puts_b103_body (B103 : (Nat → Int32) → (Nat → Nat → Int32) → Int32 → Int32 → Prop) (f : Nat → Int32) (g : Nat → Nat → Int32) (x2 : Int32) (x3 : Int32) (K : ((Nat → Int32) × (Nat → Nat → Int32)) → Prop) : Prop :=
  (((36 : Int32) ≤ x3) →
    K (f, g)) ∧
  (¬ ((36 : Int32) ≤ x3) →
    vp_in x3 36 ∧ vp_in ((x2 + (8 : Int32)) + x3) 840 ∧ vp_in x3 36 ∧ vp_in ((x2 + (44 : Int32)) + x3) 840 ∧ vp_in x3 36 ∧ vp_in ((x2 + (80 : Int32)) + x3) 840 ∧ B103 f (pt (pt (pt g 57 (ix ((x2 + (8 : Int32)) + x3)) (g 46 (ix x3))) 57 (ix ((x2 + (44 : Int32)) + x3)) (g 47 (ix x3))) 57 (ix ((x2 + (80 : Int32)) + x3)) (g 48 (ix x3))) x2 (x3 + (1 : Int32)))
set_option maxHeartbeats 4000000 in
set_option maxRecDepth 100000 in
theorem tX11_puts_b103_body {B103 : (Nat → Int32) → (Nat → Nat → Int32) → Int32 → Int32 → Prop} {K : ((Nat → Int32) × (Nat → Nat → Int32)) → Prop} (C : CallFix p m c cX11_puts 4 s args wsX11_puts RX11) (hR : Rtv p l e rmX11_puts s m args below meth c cX11_puts D A (mT cI cZ) (mWu o h cI cZ) K Q) (hB103 : ∀ (f : Nat → Int32) (g : Nat → Nat → Int32) (x2 : Int32) (x3 : Int32) (H : Heap) (locs : List Loc) (ls : Array Slot), B103 f g x2 x3 → Wd D A s (mT cI cZ) (mW o h cI cZ f g) H locs → lv_has ls 4 [(0, .ref o), (2, .int x2), (3, .int x3)] → W p l e rmX11_puts s m args below meth c H locs 0 0 Q (F0 m 103 ls [])) {f : Nat → Int32} {g : Nat → Nat → Int32} {x2 : Int32} {x3 : Int32} (hh : wpX11_puts_b103_body B103 f g x2 x3 K) {H : Heap} {locs : List Loc} {ls : Array Slot} (hw : Wd D A s (mT cI cZ) (mW o h cI cZ f g) H locs) (hl : lv_has ls 4 [(0, .ref o), (2, .int x2), (3, .int x3)]) : W p l e rmX11_puts s m args below meth c H locs 0 0 Q (F0 m 103 ls []) := by
  unfold wpX11_puts_b103_body at hh
  refine lv_iload_n C.1 C.2.1 dX11_puts_103 rfl (lv_at hl 2 rfl) ?_
  refine lv_bipush (v := (36 : Int32)) C.1 C.2.1 dX11_puts_104 (by decide) ?_
  refine lv_icmp_ge (tgt := 166) C.1 C.2.1 dX11_puts_106 (by decide) (fun c106 => ?_) (fun c106 => ?_)
  · replace hh := hh.1 c106
    exact hR _ _ (f, g) _ _ dX11_puts_166 hh hw
  · replace hh := hh.2 c106
    refine lv_aload_n C.1 C.2.1 dX11_puts_109 rfl (lv_at hl 0 rfl) ?_
    refine m_ga C hw (inC inW11) 57 (by decide) (wc w_1519) mg_57 dX11_puts_110 ?_
    refine lv_iload_n C.1 C.2.1 dX11_puts_113 rfl (lv_at hl 1 rfl) ?_
    refine lv_bipush (v := (8 : Int32)) C.1 C.2.1 dX11_puts_114 (by decide) ?_
    refine lv_iadd C.1 C.2.1 dX11_puts_116 ?_
    refine lv_iload_n C.1 C.2.1 dX11_puts_117 rfl (lv_at hl 2 rfl) ?_
    refine lv_iadd C.1 C.2.1 dX11_puts_118 ?_
    refine lv_aload_n C.1 C.2.1 dX11_puts_119 rfl (lv_at hl 0 rfl) ?_
    refine m_ga C hw (inC inW11) 46 (by decide) (wc w_1508) mg_46 dX11_puts_120 ?_
    refine lv_iload_n C.1 C.2.1 dX11_puts_123 rfl (lv_at hl 2 rfl) ?_
    obtain ⟨hi124, hh⟩ := hh
    refine m_ial C hw mp_46 (x := g 46 (ix x3)) hi124 rfl dX11_puts_124 ?_
    obtain ⟨hi125, hh⟩ := hh
    refine m_ias C hw mp_57 mq_57 hi125 dX11_puts_125 (fun H locs hw => ?_)
    refine lv_aload_n C.1 C.2.1 dX11_puts_126 rfl (lv_at hl 0 rfl) ?_
    refine m_ga C hw (inC inW11) 57 (by decide) (wc w_1519) mg_57 dX11_puts_127 ?_
    refine lv_iload_n C.1 C.2.1 dX11_puts_130 rfl (lv_at hl 1 rfl) ?_
    refine lv_bipush (v := (44 : Int32)) C.1 C.2.1 dX11_puts_131 (by decide) ?_
    refine lv_iadd C.1 C.2.1 dX11_puts_133 ?_
    refine lv_iload_n C.1 C.2.1 dX11_puts_134 rfl (lv_at hl 2 rfl) ?_
    refine lv_iadd C.1 C.2.1 dX11_puts_135 ?_
    refine lv_aload_n C.1 C.2.1 dX11_puts_136 rfl (lv_at hl 0 rfl) ?_
    refine m_ga C hw (inC inW11) 47 (by decide) (wc w_1509) mg_47 dX11_puts_137 ?_
    refine lv_iload_n C.1 C.2.1 dX11_puts_140 rfl (lv_at hl 2 rfl) ?_
    obtain ⟨hi141, hh⟩ := hh
    refine m_ial C hw mp_47 (x := g 47 (ix x3)) hi141 rfl dX11_puts_141 ?_
    obtain ⟨hi142, hh⟩ := hh
    refine m_ias C hw mp_57 mq_57 hi142 dX11_puts_142 (fun H locs hw => ?_)
    refine lv_aload_n C.1 C.2.1 dX11_puts_143 rfl (lv_at hl 0 rfl) ?_
    refine m_ga C hw (inC inW11) 57 (by decide) (wc w_1519) mg_57 dX11_puts_144 ?_
    refine lv_iload_n C.1 C.2.1 dX11_puts_147 rfl (lv_at hl 1 rfl) ?_
    refine lv_bipush (v := (80 : Int32)) C.1 C.2.1 dX11_puts_148 (by decide) ?_
    refine lv_iadd C.1 C.2.1 dX11_puts_150 ?_
    refine lv_iload_n C.1 C.2.1 dX11_puts_151 rfl (lv_at hl 2 rfl) ?_
    refine lv_iadd C.1 C.2.1 dX11_puts_152 ?_
    refine lv_aload_n C.1 C.2.1 dX11_puts_153 rfl (lv_at hl 0 rfl) ?_
    refine m_ga C hw (inC inW11) 48 (by decide) (wc w_1510) mg_48 dX11_puts_154 ?_
    refine lv_iload_n C.1 C.2.1 dX11_puts_157 rfl (lv_at hl 2 rfl) ?_
    obtain ⟨hi158, hh⟩ := hh
    refine m_ial C hw mp_48 (x := g 48 (ix x3)) hi158 rfl dX11_puts_158 ?_
    obtain ⟨hi159, hh⟩ := hh
    refine m_ias C hw mp_57 mq_57 hi159 dX11_puts_159 (fun H locs hw => ?_)
    refine lv_iinc (v := x3 + (1 : Int32)) (lv' := [(3, .int (x3 + (1 : Int32))), (0, .ref o), (2, .int x2)]) C.1 C.2.1 dX11_puts_160 hl (k := 2) rfl rfl (by decide) rfl (fun ls hl => ?_)
    refine lv_goto (tgt := 103) C.1 C.2.1 dX11_puts_163 (by decide) ?_
    exact hB103 _ _ _ _ _ _ _ hh hw (lv_sub hl [1, 2, 0] rfl)
def wpX11_puts_b103 (n_ : Nat) (f : Nat → Int32) (g : Nat → Nat → Int32) (x2 : Int32) (x3 : Int32) (K : ((Nat → Int32) × (Nat → Nat → Int32)) → Prop) : Prop := match n_ with
  | 0 => False
  | n + 1 => wpX11_puts_b103_body (fun f g x2 x3 => wpX11_puts_b103 n f g x2 x3 K) f g x2 x3 K
theorem tX11_puts_b103 {K : ((Nat → Int32) × (Nat → Nat → Int32)) → Prop} (C : CallFix p m c cX11_puts 4 s args wsX11_puts RX11) (hR : Rtv p l e rmX11_puts s m args below meth c cX11_puts D A (mT cI cZ) (mWu o h cI cZ) K Q) (n : Nat) : ∀ (f : Nat → Int32) (g : Nat → Nat → Int32) (x2 : Int32) (x3 : Int32) (H : Heap) (locs : List Loc) (ls : Array Slot), wpX11_puts_b103 n f g x2 x3 K → Wd D A s (mT cI cZ) (mW o h cI cZ f g) H locs → lv_has ls 4 [(0, .ref o), (2, .int x2), (3, .int x3)] → W p l e rmX11_puts s m args below meth c H locs 0 0 Q (F0 m 103 ls []) := by
  induction n with
  | zero => intro f g x2 x3 H locs ls hh; exact hh.elim
  | succ n ih => intro f g x2 x3 H locs ls hh hw hl; exact tX11_puts_b103_body C hR ih hh hw hl
def wpX11_puts_b0 (f : Nat → Int32) (g : Nat → Nat → Int32) (x1 : Int32) (K : ((Nat → Int32) × (Nat → Nat → Int32)) → Prop) : Prop :=
  vp_in ((120 : Int32) * x1) 840 ∧ vp_in (((120 : Int32) * x1) + (1 : Int32)) 840 ∧ vp_in (((120 : Int32) * x1) + (2 : Int32)) 840 ∧ vp_in (((120 : Int32) * x1) + (3 : Int32)) 840 ∧ vp_in (((120 : Int32) * x1) + (4 : Int32)) 840 ∧ vp_in (((120 : Int32) * x1) + (5 : Int32)) 840 ∧ vp_in (((120 : Int32) * x1) + (6 : Int32)) 840 ∧ vp_in (((120 : Int32) * x1) + (7 : Int32)) 840 ∧ ∃ n, wpX11_puts_b103 n f (pt (pt (pt (pt (pt (pt (pt (pt g 57 (ix ((120 : Int32) * x1)) (f 38)) 57 (ix (((120 : Int32) * x1) + (1 : Int32))) (f 39)) 57 (ix (((120 : Int32) * x1) + (2 : Int32))) (f 40)) 57 (ix (((120 : Int32) * x1) + (3 : Int32))) (f 41)) 57 (ix (((120 : Int32) * x1) + (4 : Int32))) (f 42)) 57 (ix (((120 : Int32) * x1) + (5 : Int32))) (f 43)) 57 (ix (((120 : Int32) * x1) + (6 : Int32))) (f 44)) 57 (ix (((120 : Int32) * x1) + (7 : Int32))) (f 45)) ((120 : Int32) * x1) (0 : Int32) K
set_option maxHeartbeats 4000000 in
set_option maxRecDepth 100000 in
theorem tX11_puts_b0 {K : ((Nat → Int32) × (Nat → Nat → Int32)) → Prop} (C : CallFix p m c cX11_puts 4 s args wsX11_puts RX11) (hR : Rtv p l e rmX11_puts s m args below meth c cX11_puts D A (mT cI cZ) (mWu o h cI cZ) K Q) {f : Nat → Int32} {g : Nat → Nat → Int32} {x1 : Int32} (hh : wpX11_puts_b0 f g x1 K) {H : Heap} {locs : List Loc} {ls : Array Slot} (hw : Wd D A s (mT cI cZ) (mW o h cI cZ f g) H locs) (hl : lv_has ls 4 [(0, .ref o), (1, .int x1)]) : W p l e rmX11_puts s m args below meth c H locs 0 0 Q (F0 m 0 ls []) := by
  unfold wpX11_puts_b0 at hh
  refine lv_bipush (v := (120 : Int32)) C.1 C.2.1 dX11_puts_0 (by decide) ?_
  refine lv_iload_n C.1 C.2.1 dX11_puts_2 rfl (lv_at hl 1 rfl) ?_
  refine lv_imul C.1 C.2.1 dX11_puts_3 ?_
  refine lv_istore_n (lv' := [(2, .int ((120 : Int32) * x1)), (0, .ref o), (1, .int x1)]) C.1 C.2.1 dX11_puts_4 rfl hl (by decide) rfl (fun ls hl => ?_)
  refine lv_aload_n C.1 C.2.1 dX11_puts_5 rfl (lv_at hl 1 rfl) ?_
  refine m_ga C hw (inC inW11) 57 (by decide) (wc w_1519) mg_57 dX11_puts_6 ?_
  refine lv_iload_n C.1 C.2.1 dX11_puts_9 rfl (lv_at hl 0 rfl) ?_
  refine lv_aload_n C.1 C.2.1 dX11_puts_10 rfl (lv_at hl 1 rfl) ?_
  refine m_gi C hw (inC inW11) 38 (by decide) (wc w_1500) mg_38 (x := f 38) rfl dX11_puts_11 ?_
  obtain ⟨hi14, hh⟩ := hh
  refine m_ias C hw mp_57 mq_57 hi14 dX11_puts_14 (fun H locs hw => ?_)
  refine lv_aload_n C.1 C.2.1 dX11_puts_15 rfl (lv_at hl 1 rfl) ?_
  refine m_ga C hw (inC inW11) 57 (by decide) (wc w_1519) mg_57 dX11_puts_16 ?_
  refine lv_iload_n C.1 C.2.1 dX11_puts_19 rfl (lv_at hl 0 rfl) ?_
  refine lv_iconst (v := (1 : Int32)) C.1 C.2.1 dX11_puts_20 (by decide) ?_
  refine lv_iadd C.1 C.2.1 dX11_puts_21 ?_
  refine lv_aload_n C.1 C.2.1 dX11_puts_22 rfl (lv_at hl 1 rfl) ?_
  refine m_gi C hw (inC inW11) 39 (by decide) (wc w_1501) mg_39 (x := f 39) rfl dX11_puts_23 ?_
  obtain ⟨hi26, hh⟩ := hh
  refine m_ias C hw mp_57 mq_57 hi26 dX11_puts_26 (fun H locs hw => ?_)
  refine lv_aload_n C.1 C.2.1 dX11_puts_27 rfl (lv_at hl 1 rfl) ?_
  refine m_ga C hw (inC inW11) 57 (by decide) (wc w_1519) mg_57 dX11_puts_28 ?_
  refine lv_iload_n C.1 C.2.1 dX11_puts_31 rfl (lv_at hl 0 rfl) ?_
  refine lv_iconst (v := (2 : Int32)) C.1 C.2.1 dX11_puts_32 (by decide) ?_
  refine lv_iadd C.1 C.2.1 dX11_puts_33 ?_
  refine lv_aload_n C.1 C.2.1 dX11_puts_34 rfl (lv_at hl 1 rfl) ?_
  refine m_gi C hw (inC inW11) 40 (by decide) (wc w_1502) mg_40 (x := f 40) rfl dX11_puts_35 ?_
  obtain ⟨hi38, hh⟩ := hh
  refine m_ias C hw mp_57 mq_57 hi38 dX11_puts_38 (fun H locs hw => ?_)
  refine lv_aload_n C.1 C.2.1 dX11_puts_39 rfl (lv_at hl 1 rfl) ?_
  refine m_ga C hw (inC inW11) 57 (by decide) (wc w_1519) mg_57 dX11_puts_40 ?_
  refine lv_iload_n C.1 C.2.1 dX11_puts_43 rfl (lv_at hl 0 rfl) ?_
  refine lv_iconst (v := (3 : Int32)) C.1 C.2.1 dX11_puts_44 (by decide) ?_
  refine lv_iadd C.1 C.2.1 dX11_puts_45 ?_
  refine lv_aload_n C.1 C.2.1 dX11_puts_46 rfl (lv_at hl 1 rfl) ?_
  refine m_gi C hw (inC inW11) 41 (by decide) (wc w_1503) mg_41 (x := f 41) rfl dX11_puts_47 ?_
  obtain ⟨hi50, hh⟩ := hh
  refine m_ias C hw mp_57 mq_57 hi50 dX11_puts_50 (fun H locs hw => ?_)
  refine lv_aload_n C.1 C.2.1 dX11_puts_51 rfl (lv_at hl 1 rfl) ?_
  refine m_ga C hw (inC inW11) 57 (by decide) (wc w_1519) mg_57 dX11_puts_52 ?_
  refine lv_iload_n C.1 C.2.1 dX11_puts_55 rfl (lv_at hl 0 rfl) ?_
  refine lv_iconst (v := (4 : Int32)) C.1 C.2.1 dX11_puts_56 (by decide) ?_
  refine lv_iadd C.1 C.2.1 dX11_puts_57 ?_
  refine lv_aload_n C.1 C.2.1 dX11_puts_58 rfl (lv_at hl 1 rfl) ?_
  refine m_gi C hw (inC inW11) 42 (by decide) (wc w_1504) mg_42 (x := f 42) rfl dX11_puts_59 ?_
  obtain ⟨hi62, hh⟩ := hh
  refine m_ias C hw mp_57 mq_57 hi62 dX11_puts_62 (fun H locs hw => ?_)
  refine lv_aload_n C.1 C.2.1 dX11_puts_63 rfl (lv_at hl 1 rfl) ?_
  refine m_ga C hw (inC inW11) 57 (by decide) (wc w_1519) mg_57 dX11_puts_64 ?_
  refine lv_iload_n C.1 C.2.1 dX11_puts_67 rfl (lv_at hl 0 rfl) ?_
  refine lv_iconst (v := (5 : Int32)) C.1 C.2.1 dX11_puts_68 (by decide) ?_
  refine lv_iadd C.1 C.2.1 dX11_puts_69 ?_
  refine lv_aload_n C.1 C.2.1 dX11_puts_70 rfl (lv_at hl 1 rfl) ?_
  refine m_gi C hw (inC inW11) 43 (by decide) (wc w_1505) mg_43 (x := f 43) rfl dX11_puts_71 ?_
  obtain ⟨hi74, hh⟩ := hh
  refine m_ias C hw mp_57 mq_57 hi74 dX11_puts_74 (fun H locs hw => ?_)
  refine lv_aload_n C.1 C.2.1 dX11_puts_75 rfl (lv_at hl 1 rfl) ?_
  refine m_ga C hw (inC inW11) 57 (by decide) (wc w_1519) mg_57 dX11_puts_76 ?_
  refine lv_iload_n C.1 C.2.1 dX11_puts_79 rfl (lv_at hl 0 rfl) ?_
  refine lv_bipush (v := (6 : Int32)) C.1 C.2.1 dX11_puts_80 (by decide) ?_
  refine lv_iadd C.1 C.2.1 dX11_puts_82 ?_
  refine lv_aload_n C.1 C.2.1 dX11_puts_83 rfl (lv_at hl 1 rfl) ?_
  refine m_gi C hw (inC inW11) 44 (by decide) (wc w_1506) mg_44 (x := f 44) rfl dX11_puts_84 ?_
  obtain ⟨hi87, hh⟩ := hh
  refine m_ias C hw mp_57 mq_57 hi87 dX11_puts_87 (fun H locs hw => ?_)
  refine lv_aload_n C.1 C.2.1 dX11_puts_88 rfl (lv_at hl 1 rfl) ?_
  refine m_ga C hw (inC inW11) 57 (by decide) (wc w_1519) mg_57 dX11_puts_89 ?_
  refine lv_iload_n C.1 C.2.1 dX11_puts_92 rfl (lv_at hl 0 rfl) ?_
  refine lv_bipush (v := (7 : Int32)) C.1 C.2.1 dX11_puts_93 (by decide) ?_
  refine lv_iadd C.1 C.2.1 dX11_puts_95 ?_
  refine lv_aload_n C.1 C.2.1 dX11_puts_96 rfl (lv_at hl 1 rfl) ?_
  refine m_gi C hw (inC inW11) 45 (by decide) (wc w_1507) mg_45 (x := f 45) rfl dX11_puts_97 ?_
  obtain ⟨hi100, hh⟩ := hh
  refine m_ias C hw mp_57 mq_57 hi100 dX11_puts_100 (fun H locs hw => ?_)
  refine lv_iconst (v := (0 : Int32)) C.1 C.2.1 dX11_puts_101 (by decide) ?_
  refine lv_istore_n (lv' := [(3, .int (0 : Int32)), (2, .int ((120 : Int32) * x1)), (0, .ref o), (1, .int x1)]) C.1 C.2.1 dX11_puts_102 rfl hl (by decide) rfl (fun ls hl => ?_)
  obtain ⟨n, hh⟩ := hh
  exact tX11_puts_b103 C hR n _ _ _ _ _ _ _ hh hw (lv_sub hl [2, 1, 0] rfl)
def wpX11_puts (f : Nat → Int32) (g : Nat → Nat → Int32) (x1 : Int32) (K : ((Nat → Int32) × (Nat → Nat → Int32)) → Prop) : Prop := wpX11_puts_b0 f g x1 K
theorem ctX11_puts (l : Launch) (D : va_G) (o : Nat) (h : Nat → Nat) (cI cZ : ClassId) (f : Nat → Int32) (g : Nat → Nat → Int32) (x1 : Int32) {K : ((Nat → Int32) × (Nat → Nat → Int32)) → Prop} (hh : wpX11_puts f g x1 K) : Cv l yX11_puts wsX11_puts rmX11_puts [.ref o, .int x1] D (mT cI cZ) (mWu o h cI cZ) (f, g) K := by
  refine Cv_of (cc := cX11_puts) (maxL := 4) (by decide) rfl (Nat.le_of_ble_eq_true rfl) ?_
  intro p e s m below meth c A Q C hw hR ls hl
  exact tX11_puts_b0 C hR hh hw hl
theorem cdX11_puts : yX11_puts.cls = RX11 ∧ yX11_puts.cls ≠ "java/lang/invoke/MethodHandle" ∧ yX11_puts.cls ≠ "java/lang/invoke/VarHandle" ∧ (parseMethodDescriptor yX11_puts.desc).map (fun d => d.parameters.length) = some 1 := by decide +kernel
end
