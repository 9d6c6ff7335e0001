section
variable {p : Program} {l : Launch} {e : Env} {s : State} {m : MethodId} {args : Array Value} {below : List Frame} {meth : Method} {c : Code} {D : va_G} {A : Nat → Prop} {o : Nat} {h : Nat → Nat} {cI cZ : ClassId} {Q : State → Prop}
abbrev rmX11_thrown : Room := { frames := 0, cells := 0, slots := 0, locals := 0 }
def wpX11_thrown_b0 (f : Nat → Int32) (g : Nat → Nat → Int32) (K : Int32 → ((Nat → Int32) × (Nat → Nat → Int32)) → Prop) : Prop :=
  K (f 2) (f, g)
set_option maxHeartbeats 4000000 in
set_option maxRecDepth 100000 in
theorem tX11_thrown_b0 {K : Int32 → ((Nat → Int32) × (Nat → Nat → Int32)) → Prop} (C : CallFix p m c cX11_thrown 1 s args wsX11_thrown RX11) (hR : Rti .int p l e rmX11_thrown s m args below meth c cX11_thrown D A (mT cI cZ) (mWu o h cI cZ) K Q) {f : Nat → Int32} {g : Nat → Nat → Int32} (hh : wpX11_thrown_b0 f g K) {H : Heap} {locs : List Loc} {ls : Array Slot} (hw : Wd D A s (mT cI cZ) (mW o h cI cZ f g) H locs) (hl : lv_has ls 1 [(0, .ref o)]) : W p l e rmX11_thrown s m args below meth c H locs 0 0 Q (F0 m 0 ls []) := by
  unfold wpX11_thrown_b0 at hh
  refine lv_aload_n C.1 C.2.1 dX11_thrown_0 rfl (lv_at hl 0 rfl) ?_
  refine m_gi C hw (inC inW11) 2 (by decide) (wc w_1464) mg_2 (x := f 2) rfl dX11_thrown_1 ?_
  exact hR _ _ _ (f, g) _ _ dX11_thrown_4 rfl hh hw
def wpX11_thrown (f : Nat → Int32) (g : Nat → Nat → Int32) (K : Int32 → ((Nat → Int32) × (Nat → Nat → Int32)) → Prop) : Prop := wpX11_thrown_b0 f g K
theorem ctX11_thrown (l : Launch) (D : va_G) (o : Nat) (h : Nat → Nat) (cI cZ : ClassId) (f : Nat → Int32) (g : Nat → Nat → Int32) {K : Int32 → ((Nat → Int32) × (Nat → Nat → Int32)) → Prop} (hh : wpX11_thrown f g K) : Ci l yX11_thrown wsX11_thrown rmX11_thrown [.ref o] D (mT cI cZ) (mWu o h cI cZ) (f, g) K := by
  refine Ci_of (cc := cX11_thrown) (maxL := 1) (by decide) rfl (Nat.le_of_ble_eq_true rfl) ?_
  intro p e s m below meth c A Q C hw hR ls hl
  exact tX11_thrown_b0 C hR hh hw hl
theorem cdX11_thrown : yX11_thrown.cls = RX11 ∧ yX11_thrown.cls ≠ "java/lang/invoke/MethodHandle" ∧ yX11_thrown.cls ≠ "java/lang/invoke/VarHandle" ∧ (parseMethodDescriptor yX11_thrown.desc).map (fun d => d.parameters.length) = some 0 := by decide +kernel
abbrev rmX11_feed : Room := { frames := 0, cells := 0, slots := 0, locals := 0 }
def wpX11_feed_b76 (B23 : (Nat → Int32) → (Nat → Nat → Int32) → Int32 → Int32 → Int32 → Int32 → Int32 → Int32 → Prop) (f : Nat → Int32) (g : Nat → Nat → Int32) (k0 : Int32) (x1 : Int32) (x2 : Int32) (x3 : Int32) (x4 : Int32) (x5 : Int32) (x6 : Int32) (K : Int32 → ((Nat → Int32) × (Nat → Nat → Int32)) → Prop) : Prop :=
  vp_in ((f 1) + x6) 500 ∧ B23 f (pt g 0 (ix ((f 1) + x6)) ((jshr k0 ((24 : Int32) - ((8 : Int32) * (jrem x6 (4 : Int32))))) &&& (255 : Int32))) x1 x2 x3 x4 x5 (x6 + (1 : Int32))
set_option maxHeartbeats 4000000 in
set_option maxRecDepth 100000 in
theorem tX11_feed_b76 {B23 : (Nat → Int32) → (Nat → Nat → Int32) → Int32 → Int32 → Int32 → Int32 → Int32 → Int32 → Prop} {K : Int32 → ((Nat → Int32) × (Nat → Nat → Int32)) → Prop} (C : CallFix p m c cX11_feed 8 s args wsX11_feed RX11) (hR : Rti .int p l e rmX11_feed s m args below meth c cX11_feed D A (mT cI cZ) (mWu o h cI cZ) K Q) (hB23 : ∀ (f : Nat → Int32) (g : Nat → Nat → Int32) (x1 : Int32) (x2 : Int32) (x3 : Int32) (x4 : Int32) (x5 : Int32) (x6 : Int32) (H : Heap) (locs : List Loc) (ls : Array Slot), B23 f g x1 x2 x3 x4 x5 x6 → Wd D A s (mT cI cZ) (mW o h cI cZ f g) H locs → lv_has ls 8 [(0, .ref o), (1, .int x1), (2, .int x2), (3, .int x3), (4, .int x4), (5, .int x5), (6, .int x6)] → W p l e rmX11_feed s m args below meth c H locs 0 0 Q (F0 m 23 ls [])) {f : Nat → Int32} {g : Nat → Nat → Int32} {k0 : Int32} {x1 : Int32} {x2 : Int32} {x3 : Int32} {x4 : Int32} {x5 : Int32} {x6 : Int32} (hh : wpX11_feed_b76 B23 f g k0 x1 x2 x3 x4 x5 x6 K) {H : Heap} {locs : List Loc} {ls : Array Slot} (hw : Wd D A s (mT cI cZ) (mW o h cI cZ f g) H locs) (hl : lv_has ls 8 [(0, .ref o), (1, .int x1), (2, .int x2), (3, .int x3), (4, .int x4), (5, .int x5), (6, .int x6)]) : W p l e rmX11_feed s m args below meth c H locs 0 0 Q (F0 m 76 ls [.int k0]) := by
  unfold wpX11_feed_b76 at hh
  refine lv_istore (lv' := [(7, .int k0), (0, .ref o), (1, .int x1), (2, .int x2), (3, .int x3), (4, .int x4), (5, .int x5), (6, .int x6)]) C.1 C.2.1 dX11_feed_76 hl (by decide) rfl (fun ls hl => ?_)
  refine lv_aload_n C.1 C.2.1 dX11_feed_78 rfl (lv_at hl 1 rfl) ?_
  refine m_ga C hw (inC inW11) 0 (by decide) (wc w_1462) mg_0 dX11_feed_79 ?_
  refine lv_aload_n C.1 C.2.1 dX11_feed_82 rfl (lv_at hl 1 rfl) ?_
  refine m_gi C hw (inC inW11) 1 (by decide) (wc w_1463) mg_1 (x := f 1) rfl dX11_feed_83 ?_
  refine lv_iload C.1 C.2.1 dX11_feed_86 (lv_at hl 7 rfl) ?_
  refine lv_iadd C.1 C.2.1 dX11_feed_88 ?_
  refine lv_iload C.1 C.2.1 dX11_feed_89 (lv_at hl 0 rfl) ?_
  refine lv_bipush (v := (24 : Int32)) C.1 C.2.1 dX11_feed_91 (by decide) ?_
  refine lv_bipush (v := (8 : Int32)) C.1 C.2.1 dX11_feed_93 (by decide) ?_
  refine lv_iload C.1 C.2.1 dX11_feed_95 (lv_at hl 7 rfl) ?_
  refine lv_iconst (v := (4 : Int32)) C.1 C.2.1 dX11_feed_97 (by decide) ?_
  refine g_irem C dX11_feed_98 (by decide) ?_
  refine lv_imul C.1 C.2.1 dX11_feed_99 ?_
  refine lv_isub C.1 C.2.1 dX11_feed_100 ?_
  refine g_ishr C dX11_feed_101 ?_
  refine lv_sipush (v := (255 : Int32)) C.1 C.2.1 dX11_feed_102 (by decide) ?_
  refine lv_iand C.1 C.2.1 dX11_feed_105 ?_
  obtain ⟨hi106, hh⟩ := hh
  refine m_ias C hw mp_0 mq_0 hi106 dX11_feed_106 (fun H locs hw => ?_)
  refine lv_iinc (v := x6 + (1 : Int32)) (lv' := [(6, .int (x6 + (1 : Int32))), (7, .int k0), (0, .ref o), (1, .int x1), (2, .int x2), (3, .int x3), (4, .int x4), (5, .int x5)]) C.1 C.2.1 dX11_feed_107 hl (k := 7) rfl rfl (by decide) rfl (fun ls hl => ?_)
  refine lv_goto (tgt := 23) C.1 C.2.1 dX11_feed_110 (by decide) ?_
  exact hB23 _ _ _ _ _ _ _ _ _ _ _ hh hw (lv_sub hl [2, 3, 4, 5, 6, 7, 0] rfl)
def wpX11_feed_b23_body (B23 : (Nat → Int32) → (Nat → Nat → Int32) → Int32 → Int32 → Int32 → Int32 → Int32 → Int32 → Prop) (f : Nat → Int32) (g : Nat → Nat → Int32) (x1 : Int32) (x2 : Int32) (x3 : Int32) (x4 : Int32) (x5 : Int32) (x6 : Int32) (K : Int32 → ((Nat → Int32) × (Nat → Nat → Int32)) → Prop) : Prop :=
  (((20 : Int32) ≤ x6) →
    K ((f 1) + (20 : Int32)) (upd f 1 ((f 1) + (20 : Int32)), g)) ∧
  (¬ ((20 : Int32) ≤ x6) →
    (((4 : Int32) ≤ x6) →
      (((8 : Int32) ≤ x6) →
        (((12 : Int32) ≤ x6) →
          (((16 : Int32) ≤ x6) →
            wpX11_feed_b76 B23 f g x5 x1 x2 x3 x4 x5 x6 K) ∧
          (¬ ((16 : Int32) ≤ x6) →
            wpX11_feed_b76 B23 f g x4 x1 x2 x3 x4 x5 x6 K)) ∧
        (¬ ((12 : Int32) ≤ x6) →
          wpX11_feed_b76 B23 f g x3 x1 x2 x3 x4 x5 x6 K)) ∧
      (¬ ((8 : Int32) ≤ x6) →
        wpX11_feed_b76 B23 f g x2 x1 x2 x3 x4 x5 x6 K)) ∧
    (¬ ((4 : Int32) ≤ x6) →
      wpX11_feed_b76 B23 f g x1 x1 x2 x3 x4 x5 x6 K))
set_option maxHeartbeats 4000000 in
set_option maxRecDepth 100000 in
theorem tX11_feed_b23_body {B23 : (Nat → Int32) → (Nat → Nat → Int32) → Int32 → Int32 → Int32 → Int32 → Int32 → Int32 → Prop} {K : Int32 → ((Nat → Int32) × (Nat → Nat → Int32)) → Prop} (C : CallFix p m c cX11_feed 8 s args wsX11_feed RX11) (hR : Rti .int p l e rmX11_feed s m args below meth c cX11_feed D A (mT cI cZ) (mWu o h cI cZ) K Q) (hB23 : ∀ (f : Nat → Int32) (g : Nat → Nat → Int32) (x1 : Int32) (x2 : Int32) (x3 : Int32) (x4 : Int32) (x5 : Int32) (x6 : Int32) (H : Heap) (locs : List Loc) (ls : Array Slot), B23 f g x1 x2 x3 x4 x5 x6 → Wd D A s (mT cI cZ) (mW o h cI cZ f g) H locs → lv_has ls 8 [(0, .ref o), (1, .int x1), (2, .int x2), (3, .int x3), (4, .int x4), (5, .int x5), (6, .int x6)] → W p l e rmX11_feed s m args below meth c H locs 0 0 Q (F0 m 23 ls [])) {f : Nat → Int32} {g : Nat → Nat → Int32} {x1 : Int32} {x2 : Int32} {x3 : Int32} {x4 : Int32} {x5 : Int32} {x6 : Int32} (hh : wpX11_feed_b23_body B23 f g x1 x2 x3 x4 x5 x6 K) {H : Heap} {locs : List Loc} {ls : Array Slot} (hw : Wd D A s (mT cI cZ) (mW o h cI cZ f g) H locs) (hl : lv_has ls 8 [(0, .ref o), (1, .int x1), (2, .int x2), (3, .int x3), (4, .int x4), (5, .int x5), (6, .int x6)]) : W p l e rmX11_feed s m args below meth c H locs 0 0 Q (F0 m 23 ls []) := by
  unfold wpX11_feed_b23_body at hh
  refine lv_iload C.1 C.2.1 dX11_feed_23 (lv_at hl 6 rfl) ?_
  refine lv_bipush (v := (20 : Int32)) C.1 C.2.1 dX11_feed_25 (by decide) ?_
  refine lv_icmp_ge (tgt := 113) C.1 C.2.1 dX11_feed_27 (by decide) (fun c27 => ?_) (fun c27 => ?_)
  · replace hh := hh.1 c27
    refine lv_aload_n C.1 C.2.1 dX11_feed_113 rfl (lv_at hl 0 rfl) ?_
    refine lv_dup C.1 C.2.1 dX11_feed_114 rfl ?_
    refine m_gi C hw (inC inW11) 1 (by decide) (wc w_1463) mg_1 (x := f 1) rfl dX11_feed_115 ?_
    refine lv_bipush (v := (20 : Int32)) C.1 C.2.1 dX11_feed_118 (by decide) ?_
    refine lv_iadd C.1 C.2.1 dX11_feed_120 ?_
    refine m_pi C hw (inC inW11) 1 (by decide) (wc w_1463) rfl (ty := .int) (by decide +kernel) rfl rfl (Nat.le_of_ble_eq_true rfl) ms_1 dX11_feed_121 (fun H locs hw => ?_)
    refine lv_aload_n C.1 C.2.1 dX11_feed_124 rfl (lv_at hl 0 rfl) ?_
    refine m_gi C hw (inC inW11) 1 (by decide) (wc w_1463) mg_1 (x := (f 1) + (20 : Int32)) rfl dX11_feed_125 ?_
    exact hR _ _ _ (upd f 1 ((f 1) + (20 : Int32)), g) _ _ dX11_feed_128 rfl hh hw
  · replace hh := hh.2 c27
    refine lv_iload C.1 C.2.1 dX11_feed_30 (lv_at hl 6 rfl) ?_
    refine lv_iconst (v := (4 : Int32)) C.1 C.2.1 dX11_feed_32 (by decide) ?_
    refine lv_icmp_ge (tgt := 40) C.1 C.2.1 dX11_feed_33 (by decide) (fun c33 => ?_) (fun c33 => ?_)
    · replace hh := hh.1 c33
      refine lv_iload C.1 C.2.1 dX11_feed_40 (lv_at hl 6 rfl) ?_
      refine lv_bipush (v := (8 : Int32)) C.1 C.2.1 dX11_feed_42 (by decide) ?_
      refine lv_icmp_ge (tgt := 51) C.1 C.2.1 dX11_feed_44 (by decide) (fun c44 => ?_) (fun c44 => ?_)
      · replace hh := hh.1 c44
        refine lv_iload C.1 C.2.1 dX11_feed_51 (lv_at hl 6 rfl) ?_
        refine lv_bipush (v := (12 : Int32)) C.1 C.2.1 dX11_feed_53 (by decide) ?_
        refine lv_icmp_ge (tgt := 62) C.1 C.2.1 dX11_feed_55 (by decide) (fun c55 => ?_) (fun c55 => ?_)
        · replace hh := hh.1 c55
          refine lv_iload C.1 C.2.1 dX11_feed_62 (lv_at hl 6 rfl) ?_
          refine lv_bipush (v := (16 : Int32)) C.1 C.2.1 dX11_feed_64 (by decide) ?_
          refine lv_icmp_ge (tgt := 74) C.1 C.2.1 dX11_feed_66 (by decide) (fun c66 => ?_) (fun c66 => ?_)
          · replace hh := hh.1 c66
            refine lv_iload C.1 C.2.1 dX11_feed_74 (lv_at hl 5 rfl) ?_
            exact tX11_feed_b76 C hR hB23 hh hw hl
          · replace hh := hh.2 c66
            refine lv_iload C.1 C.2.1 dX11_feed_69 (lv_at hl 4 rfl) ?_
            refine lv_goto (tgt := 76) C.1 C.2.1 dX11_feed_71 (by decide) ?_
            exact tX11_feed_b76 C hR hB23 hh hw hl
        · replace hh := hh.2 c55
          refine lv_iload_n C.1 C.2.1 dX11_feed_58 rfl (lv_at hl 3 rfl) ?_
          refine lv_goto (tgt := 76) C.1 C.2.1 dX11_feed_59 (by decide) ?_
          exact tX11_feed_b76 C hR hB23 hh hw hl
      · replace hh := hh.2 c44
        refine lv_iload_n C.1 C.2.1 dX11_feed_47 rfl (lv_at hl 2 rfl) ?_
        refine lv_goto (tgt := 76) C.1 C.2.1 dX11_feed_48 (by decide) ?_
        exact tX11_feed_b76 C hR hB23 hh hw hl
    · replace hh := hh.2 c33
      refine lv_iload_n C.1 C.2.1 dX11_feed_36 rfl (lv_at hl 1 rfl) ?_
      refine lv_goto (tgt := 76) C.1 C.2.1 dX11_feed_37 (by decide) ?_
      exact tX11_feed_b76 C hR hB23 hh hw hl
def wpX11_feed_b23 (n_ : Nat) (f : Nat → Int32) (g : Nat → Nat → Int32) (x1 : Int32) (x2 : Int32) (x3 : Int32) (x4 : Int32) (x5 : Int32) (x6 : Int32) (K : Int32 → ((Nat → Int32) × (Nat → Nat → Int32)) → Prop) : Prop := match n_ with
  | 0 => False
  | n + 1 => wpX11_feed_b23_body (fun f g x1 x2 x3 x4 x5 x6 => wpX11_feed_b23 n f g x1 x2 x3 x4 x5 x6 K) f g x1 x2 x3 x4 x5 x6 K
theorem tX11_feed_b23 {K : Int32 → ((Nat → Int32) × (Nat → Nat → Int32)) → Prop} (C : CallFix p m c cX11_feed 8 s args wsX11_feed RX11) (hR : Rti .int p l e rmX11_feed s m args below meth c cX11_feed D A (mT cI cZ) (mWu o h cI cZ) K Q) (n : Nat) : ∀ (f : Nat → Int32) (g : Nat → Nat → Int32) (x1 : Int32) (x2 : Int32) (x3 : Int32) (x4 : Int32) (x5 : Int32) (x6 : Int32) (H : Heap) (locs : List Loc) (ls : Array Slot), wpX11_feed_b23 n f g x1 x2 x3 x4 x5 x6 K → Wd D A s (mT cI cZ) (mW o h cI cZ f g) H locs → lv_has ls 8 [(0, .ref o), (1, .int x1), (2, .int x2), (3, .int x3), (4, .int x4), (5, .int x5), (6, .int x6)] → W p l e rmX11_feed s m args below meth c H locs 0 0 Q (F0 m 23 ls []) := by
  induction n with
  | zero => intro f g x1 x2 x3 x4 x5 x6 H locs ls hh; exact hh.elim
  | succ n ih => intro f g x1 x2 x3 x4 x5 x6 H locs ls hh hw hl; exact tX11_feed_b23_body C hR ih hh hw hl
def wpX11_feed_b0 (f : Nat → Int32) (g : Nat → Nat → Int32) (x1 : Int32) (x2 : Int32) (x3 : Int32) (x4 : Int32) (x5 : Int32) (K : Int32 → ((Nat → Int32) × (Nat → Nat → Int32)) → Prop) : Prop :=
  ((((f 1) + (20 : Int32)) ≤ (500 : Int32)) →
    ∃ n, wpX11_feed_b23 n (upd f 2 (0 : Int32)) g x1 x2 x3 x4 x5 (0 : Int32) K) ∧
  (¬ (((f 1) + (20 : Int32)) ≤ (500 : Int32)) →
    K (-1 : Int32) (upd f 2 (0 : Int32), g))
set_option maxHeartbeats 4000000 in
set_option maxRecDepth 100000 in
theorem tX11_feed_b0 {K : Int32 → ((Nat → Int32) × (Nat → Nat → Int32)) → Prop} (C : CallFix p m c cX11_feed 8 s args wsX11_feed RX11) (hR : Rti .int p l e rmX11_feed s m args below meth c cX11_feed D A (mT cI cZ) (mWu o h cI cZ) K Q) {f : Nat → Int32} {g : Nat → Nat → Int32} {x1 : Int32} {x2 : Int32} {x3 : Int32} {x4 : Int32} {x5 : Int32} (hh : wpX11_feed_b0 f g x1 x2 x3 x4 x5 K) {H : Heap} {locs : List Loc} {ls : Array Slot} (hw : Wd D A s (mT cI cZ) (mW o h cI cZ f g) H locs) (hl : lv_has ls 8 [(0, .ref o), (1, .int x1), (2, .int x2), (3, .int x3), (4, .int x4), (5, .int x5)]) : W p l e rmX11_feed s m args below meth c H locs 0 0 Q (F0 m 0 ls []) := by
  unfold wpX11_feed_b0 at hh
  refine lv_aload_n C.1 C.2.1 dX11_feed_0 rfl (lv_at hl 0 rfl) ?_
  refine lv_iconst (v := (0 : Int32)) C.1 C.2.1 dX11_feed_1 (by decide) ?_
  refine m_pi C hw (inC inW11) 2 (by decide) (wc w_1464) rfl (ty := .int) (by decide +kernel) rfl rfl (Nat.le_of_ble_eq_true rfl) ms_2 dX11_feed_2 (fun H locs hw => ?_)
  refine lv_aload_n C.1 C.2.1 dX11_feed_5 rfl (lv_at hl 0 rfl) ?_
  refine m_gi C hw (inC inW11) 1 (by decide) (wc w_1463) mg_1 (x := f 1) rfl dX11_feed_6 ?_
  refine lv_bipush (v := (20 : Int32)) C.1 C.2.1 dX11_feed_9 (by decide) ?_
  refine lv_iadd C.1 C.2.1 dX11_feed_11 ?_
  refine lv_sipush (v := (500 : Int32)) C.1 C.2.1 dX11_feed_12 (by decide) ?_
  refine lv_icmp_le (tgt := 20) C.1 C.2.1 dX11_feed_15 (by decide) (fun c15 => ?_) (fun c15 => ?_)
  · replace hh := hh.1 c15
    refine lv_iconst (v := (0 : Int32)) C.1 C.2.1 dX11_feed_20 (by decide) ?_
    refine lv_istore (lv' := [(6, .int (0 : Int32)), (0, .ref o), (1, .int x1), (2, .int x2), (3, .int x3), (4, .int x4), (5, .int x5)]) C.1 C.2.1 dX11_feed_21 hl (by decide) rfl (fun ls hl => ?_)
    obtain ⟨n, hh⟩ := hh
    exact tX11_feed_b23 C hR n _ _ _ _ _ _ _ _ _ _ _ hh hw (lv_sub hl [1, 2, 3, 4, 5, 6, 0] rfl)
  · replace hh := hh.2 c15
    refine lv_iconst (v := (-1 : Int32)) C.1 C.2.1 dX11_feed_18 (by decide) ?_
    exact hR _ _ _ (upd f 2 (0 : Int32), g) _ _ dX11_feed_19 rfl hh hw
def wpX11_feed (f : Nat → Int32) (g : Nat → Nat → Int32) (x1 : Int32) (x2 : Int32) (x3 : Int32) (x4 : Int32) (x5 : Int32) (K : Int32 → ((Nat → Int32) × (Nat → Nat → Int32)) → Prop) : Prop := wpX11_feed_b0 f g x1 x2 x3 x4 x5 K
theorem ctX11_feed (l : Launch) (D : va_G) (o : Nat) (h : Nat → Nat) (cI cZ : ClassId) (f : Nat → Int32) (g : Nat → Nat → Int32) (x1 : Int32) (x2 : Int32) (x3 : Int32) (x4 : Int32) (x5 : Int32) {K : Int32 → ((Nat → Int32) × (Nat → Nat → Int32)) → Prop} (hh : wpX11_feed f g x1 x2 x3 x4 x5 K) : Ci l yX11_feed wsX11_feed rmX11_feed [.ref o, .int x1, .int x2, .int x3, .int x4, .int x5] D (mT cI cZ) (mWu o h cI cZ) (f, g) K := by
  refine Ci_of (cc := cX11_feed) (maxL := 8) (by decide) rfl (Nat.le_of_ble_eq_true rfl) ?_
  intro p e s m below meth c A Q C hw hR ls hl
  exact tX11_feed_b0 C hR hh hw hl
theorem cdX11_feed : yX11_feed.cls = RX11 ∧ yX11_feed.cls ≠ "java/lang/invoke/MethodHandle" ∧ yX11_feed.cls ≠ "java/lang/invoke/VarHandle" ∧ (parseMethodDescriptor yX11_feed.desc).map (fun d => d.parameters.length) = some 5 := by decide +kernel
abbrev rmX11_isIn : Room := { frames := 0, cells := 0, slots := 0, locals := 0 }
def wpX11_isIn_b15 (k0 : Int32) (K : Int32 → Unit → Prop) : Prop :=
  isB k0 ∧ K k0 ()
set_option maxHeartbeats 4000000 in
set_option maxRecDepth 100000 in
theorem tX11_isIn_b15 {K : Int32 → Unit → Prop} (C : CallFix p m c cX11_isIn 3 s args wsX11_isIn RX11) (hR : Rti .boolean p l e rmX11_isIn s m args below meth c cX11_isIn D A [] (fun _ : Unit => []) K Q) {k0 : Int32} (hh : wpX11_isIn_b15 k0 K) {H : Heap} {locs : List Loc} {ls : Array Slot} (hw : Wd D A s [] [] H locs) (hl : lv_has ls 3 []) : W p l e rmX11_isIn s m args below meth c H locs 0 0 Q (F0 m 15 ls [.int k0]) := by
  unfold wpX11_isIn_b15 at hh
  obtain ⟨hb15, hh⟩ := hh
  exact hR _ _ _ () _ _ dX11_isIn_15 (isB_nar hb15) hh hw
def wpX11_isIn_b14 (K : Int32 → Unit → Prop) : Prop :=
  wpX11_isIn_b15 (0 : Int32) K
set_option maxHeartbeats 4000000 in
set_option maxRecDepth 100000 in
theorem tX11_isIn_b14 {K : Int32 → Unit → Prop} (C : CallFix p m c cX11_isIn 3 s args wsX11_isIn RX11) (hR : Rti .boolean p l e rmX11_isIn s m args below meth c cX11_isIn D A [] (fun _ : Unit => []) K Q) (hh : wpX11_isIn_b14  K) {H : Heap} {locs : List Loc} {ls : Array Slot} (hw : Wd D A s [] [] H locs) (hl : lv_has ls 3 []) : W p l e rmX11_isIn s m args below meth c H locs 0 0 Q (F0 m 14 ls []) := by
  unfold wpX11_isIn_b14 at hh
  refine lv_iconst (v := (0 : Int32)) C.1 C.2.1 dX11_isIn_14 (by decide) ?_
  exact tX11_isIn_b15 C hR hh hw hl
def wpX11_isIn_b0 (x0 : Int32) (x1 : Int32) (x2 : Int32) (K : Int32 → Unit → Prop) : Prop :=
  ((x0 < x1) →
    wpX11_isIn_b14  K) ∧
  (¬ (x0 < x1) →
    ((x2 < x0) →
      wpX11_isIn_b14  K) ∧
    (¬ (x2 < x0) →
      wpX11_isIn_b15 (1 : Int32) K))
set_option maxHeartbeats 4000000 in
set_option maxRecDepth 100000 in
theorem tX11_isIn_b0 {K : Int32 → Unit → Prop} (C : CallFix p m c cX11_isIn 3 s args wsX11_isIn RX11) (hR : Rti .boolean p l e rmX11_isIn s m args below meth c cX11_isIn D A [] (fun _ : Unit => []) K Q) {x0 : Int32} {x1 : Int32} {x2 : Int32} (hh : wpX11_isIn_b0 x0 x1 x2 K) {H : Heap} {locs : List Loc} {ls : Array Slot} (hw : Wd D A s [] [] H locs) (hl : lv_has ls 3 [(0, .int x0), (1, .int x1), (2, .int x2)]) : W p l e rmX11_isIn s m args below meth c H locs 0 0 Q (F0 m 0 ls []) := by
  unfold wpX11_isIn_b0 at hh
  refine lv_iload_n C.1 C.2.1 dX11_isIn_0 rfl (lv_at hl 0 rfl) ?_
  refine lv_iload_n C.1 C.2.1 dX11_isIn_1 rfl (lv_at hl 1 rfl) ?_
  refine lv_icmp_lt (tgt := 14) C.1 C.2.1 dX11_isIn_2 (by decide) (fun c2 => ?_) (fun c2 => ?_)
  · replace hh := hh.1 c2
    exact tX11_isIn_b14 C hR hh hw (lv_sub hl [] rfl)
  · replace hh := hh.2 c2
    refine lv_iload_n C.1 C.2.1 dX11_isIn_5 rfl (lv_at hl 0 rfl) ?_
    refine lv_iload_n C.1 C.2.1 dX11_isIn_6 rfl (lv_at hl 2 rfl) ?_
    refine lv_icmp_gt (tgt := 14) C.1 C.2.1 dX11_isIn_7 (by decide) (fun c7 => ?_) (fun c7 => ?_)
    · replace hh := hh.1 c7
      exact tX11_isIn_b14 C hR hh hw (lv_sub hl [] rfl)
    · replace hh := hh.2 c7
      refine lv_iconst (v := (1 : Int32)) C.1 C.2.1 dX11_isIn_10 (by decide) ?_
      refine lv_goto (tgt := 15) C.1 C.2.1 dX11_isIn_11 (by decide) ?_
      exact tX11_isIn_b15 C hR hh hw (lv_sub hl [] rfl)
def wpX11_isIn (x0 : Int32) (x1 : Int32) (x2 : Int32) (K : Int32 → Unit → Prop) : Prop := wpX11_isIn_b0  x0 x1 x2 K
theorem ctX11_isIn (l : Launch) (D : va_G) (x0 : Int32) (x1 : Int32) (x2 : Int32) {K : Int32 → Unit → Prop} (hh : wpX11_isIn x0 x1 x2 K) : Ci l yX11_isIn wsX11_isIn rmX11_isIn [.int x0, .int x1, .int x2] D [] (fun _ : Unit => []) () K := by
  refine Ci_of (cc := cX11_isIn) (maxL := 3) (by decide) rfl (Nat.le_of_ble_eq_true rfl) ?_
  intro p e s m below meth c A Q C hw hR ls hl
  exact tX11_isIn_b0 C hR hh hw hl
theorem cdX11_isIn : yX11_isIn.cls ≠ "java/lang/invoke/MethodHandle" ∧ yX11_isIn.cls ≠ "java/lang/invoke/VarHandle" ∧ (parseMethodDescriptor yX11_isIn.desc).map (fun d => d.parameters.length) = some 3 := by decide +kernel
abbrev rmX11_isOf : Room := { frames := 0, cells := 0, slots := 0, locals := 0 }
def wpX11_isOf_b14 (k0 : Int32) (K : Int32 → Unit → Prop) : Prop :=
  isB k0 ∧ K k0 ()
set_option maxHeartbeats 4000000 in
set_option maxRecDepth 100000 in
theorem tX11_isOf_b14 {K : Int32 → Unit → Prop} (C : CallFix p m c cX11_isOf 2 s args wsX11_isOf RX11) (hR : Rti .boolean p l e rmX11_isOf s m args below meth c cX11_isOf D A [] (fun _ : Unit => []) K Q) {k0 : Int32} (hh : wpX11_isOf_b14 k0 K) {H : Heap} {locs : List Loc} {ls : Array Slot} (hw : Wd D A s [] [] H locs) (hl : lv_has ls 2 []) : W p l e rmX11_isOf s m args below meth c H locs 0 0 Q (F0 m 14 ls [.int k0]) := by
  unfold wpX11_isOf_b14 at hh
  obtain ⟨hb14, hh⟩ := hh
  exact hR _ _ _ () _ _ dX11_isOf_14 (isB_nar hb14) hh hw
def wpX11_isOf_b0 (x0 : Int32) (x1 : Int32) (K : Int32 → Unit → Prop) : Prop :=
  (¬ (((jshr x0 x1) &&& (1 : Int32)) = (1 : Int32)) →
    wpX11_isOf_b14 (0 : Int32) K) ∧
  ((((jshr x0 x1) &&& (1 : Int32)) = (1 : Int32)) →
    wpX11_isOf_b14 (1 : Int32) K)
set_option maxHeartbeats 4000000 in
set_option maxRecDepth 100000 in
theorem tX11_isOf_b0 {K : Int32 → Unit → Prop} (C : CallFix p m c cX11_isOf 2 s args wsX11_isOf RX11) (hR : Rti .boolean p l e rmX11_isOf s m args below meth c cX11_isOf D A [] (fun _ : Unit => []) K Q) {x0 : Int32} {x1 : Int32} (hh : wpX11_isOf_b0 x0 x1 K) {H : Heap} {locs : List Loc} {ls : Array Slot} (hw : Wd D A s [] [] H locs) (hl : lv_has ls 2 [(0, .int x0), (1, .int x1)]) : W p l e rmX11_isOf s m args below meth c H locs 0 0 Q (F0 m 0 ls []) := by
  unfold wpX11_isOf_b0 at hh
  refine lv_iload_n C.1 C.2.1 dX11_isOf_0 rfl (lv_at hl 0 rfl) ?_
  refine lv_iload_n C.1 C.2.1 dX11_isOf_1 rfl (lv_at hl 1 rfl) ?_
  refine g_ishr C dX11_isOf_2 ?_
  refine lv_iconst (v := (1 : Int32)) C.1 C.2.1 dX11_isOf_3 (by decide) ?_
  refine lv_iand C.1 C.2.1 dX11_isOf_4 ?_
  refine lv_iconst (v := (1 : Int32)) C.1 C.2.1 dX11_isOf_5 (by decide) ?_
  refine lv_icmp_ne (tgt := 13) C.1 C.2.1 dX11_isOf_6 (by decide) (fun c6 => ?_) (fun c6 => ?_)
  · replace hh := hh.1 c6
    refine lv_iconst (v := (0 : Int32)) C.1 C.2.1 dX11_isOf_13 (by decide) ?_
    exact tX11_isOf_b14 C hR hh hw (lv_sub hl [] rfl)
  · replace hh := hh.2 c6
    refine lv_iconst (v := (1 : Int32)) C.1 C.2.1 dX11_isOf_9 (by decide) ?_
    refine lv_goto (tgt := 14) C.1 C.2.1 dX11_isOf_10 (by decide) ?_
    exact tX11_isOf_b14 C hR hh hw (lv_sub hl [] rfl)
def wpX11_isOf (x0 : Int32) (x1 : Int32) (K : Int32 → Unit → Prop) : Prop := wpX11_isOf_b0  x0 x1 K
theorem ctX11_isOf (l : Launch) (D : va_G) (x0 : Int32) (x1 : Int32) {K : Int32 → Unit → Prop} (hh : wpX11_isOf x0 x1 K) : Ci l yX11_isOf wsX11_isOf rmX11_isOf [.int x0, .int x1] D [] (fun _ : Unit => []) () K := by
  refine Ci_of (cc := cX11_isOf) (maxL := 2) (by decide) rfl (Nat.le_of_ble_eq_true rfl) ?_
  intro p e s m below meth c A Q C hw hR ls hl
  exact tX11_isOf_b0 C hR hh hw hl
theorem cdX11_isOf : yX11_isOf.cls ≠ "java/lang/invoke/MethodHandle" ∧ yX11_isOf.cls ≠ "java/lang/invoke/VarHandle" ∧ (parseMethodDescriptor yX11_isOf.desc).map (fun d => d.parameters.length) = some 2 := by decide +kernel
abbrev rmX11_take : Room := { frames := 0, cells := 0, slots := 0, locals := 0 }
def wpX11_take_b407 (f : Nat → Int32) (g : Nat → Nat → Int32) (K : ((Nat → Int32) × (Nat → Nat → Int32)) → Prop) : Prop :=
  K (f, g)
set_option maxHeartbeats 4000000 in
set_option maxRecDepth 100000 in
theorem tX11_take_b407 {K : ((Nat → Int32) × (Nat → Nat → Int32)) → Prop} (C : CallFix p m c cX11_take 2 s args wsX11_take RX11) (hR : Rtv p l e rmX11_take s m args below meth c cX11_take D A (mT cI cZ) (mWu o h cI cZ) K Q) {f : Nat → Int32} {g : Nat → Nat → Int32} (hh : wpX11_take_b407 f g K) {H : Heap} {locs : List Loc} {ls : Array Slot} (hw : Wd D A s (mT cI cZ) (mW o h cI cZ f g) H locs) (hl : lv_has ls 2 [(0, .ref o)]) : W p l e rmX11_take s m args below meth c H locs 0 0 Q (F0 m 407 ls []) := by
  unfold wpX11_take_b407 at hh
  exact hR _ _ (f, g) _ _ dX11_take_407 hh hw
def wpX11_take_b52 (f : Nat → Int32) (g : Nat → Nat → Int32) (K : ((Nat → Int32) × (Nat → Nat → Int32)) → Prop) : Prop :=
  (¬ ((f 7) = (f 6)) →
    False) ∧
  (((f 7) = (f 6)) →
    wpX11_take_b407 (upd (upd f 10 (f 7)) 8 (0 : Int32)) g K)
set_option maxHeartbeats 4000000 in
set_option maxRecDepth 100000 in
theorem tX11_take_b52 {K : ((Nat → Int32) × (Nat → Nat → Int32)) → Prop} (C : CallFix p m c cX11_take 2 s args wsX11_take RX11) (hR : Rtv p l e rmX11_take s m args below meth c cX11_take D A (mT cI cZ) (mWu o h cI cZ) K Q) {f : Nat → Int32} {g : Nat → Nat → Int32} (hh : wpX11_take_b52 f g K) {H : Heap} {locs : List Loc} {ls : Array Slot} (hw : Wd D A s (mT cI cZ) (mW o h cI cZ f g) H locs) (hl : lv_has ls 2 [(0, .ref o)]) : W p l e rmX11_take s m args below meth c H locs 0 0 Q (F0 m 52 ls []) := by
  unfold wpX11_take_b52 at hh
  refine lv_aload_n C.1 C.2.1 dX11_take_52 rfl (lv_at hl 0 rfl) ?_
  refine lv_aload_n C.1 C.2.1 dX11_take_53 rfl (lv_at hl 0 rfl) ?_
  refine m_gi C hw (inC inW11) 7 (by decide) (wc w_1469) mg_7 (x := f 7) rfl dX11_take_54 ?_
  refine m_pi C hw (inC inW11) 10 (by decide) (wc w_1472) rfl (ty := .int) (by decide +kernel) rfl rfl (Nat.le_of_ble_eq_true rfl) ms_10 dX11_take_57 (fun H locs hw => ?_)
  refine lv_aload_n C.1 C.2.1 dX11_take_60 rfl (lv_at hl 0 rfl) ?_
  refine m_gi C hw (inC inW11) 7 (by decide) (wc w_1469) mg_7 (x := f 7) rfl dX11_take_61 ?_
  refine lv_aload_n C.1 C.2.1 dX11_take_64 rfl (lv_at hl 0 rfl) ?_
  refine m_gi C hw (inC inW11) 6 (by decide) (wc w_1468) mg_6 (x := f 6) rfl dX11_take_65 ?_
  refine lv_icmp_ne (tgt := 79) C.1 C.2.1 dX11_take_68 (by decide) (fun c68 => ?_) (fun c68 => ?_)
  · replace hh := hh.1 c68
    refine lv_aload_n C.1 C.2.1 dX11_take_79 rfl (lv_at hl 0 rfl) ?_
    refine lv_aload_n C.1 C.2.1 dX11_take_80 rfl (lv_at hl 0 rfl) ?_
    refine m_gi C hw (inC inW11) 7 (by decide) (wc w_1469) mg_7 (x := f 7) rfl dX11_take_81 ?_
    exact hh.elim
  · replace hh := hh.2 c68
    refine lv_aload_n C.1 C.2.1 dX11_take_71 rfl (lv_at hl 0 rfl) ?_
    refine lv_iconst (v := (0 : Int32)) C.1 C.2.1 dX11_take_72 (by decide) ?_
    refine m_pi C hw (inC inW11) 8 (by decide) (wc w_1470) rfl (ty := .int) (by decide +kernel) rfl rfl (Nat.le_of_ble_eq_true rfl) ms_8 dX11_take_73 (fun H locs hw => ?_)
    refine lv_goto (tgt := 407) C.1 C.2.1 dX11_take_76 (by decide) ?_
    exact tX11_take_b407 C hR hh hw hl
def wpX11_take_b39 (B0 : (Nat → Int32) → (Nat → Nat → Int32) → Prop) (f : Nat → Int32) (g : Nat → Nat → Int32) (K : ((Nat → Int32) × (Nat → Nat → Int32)) → Prop) : Prop :=
  B0 (upd f 7 ((f 7) + (1 : Int32))) g
set_option maxHeartbeats 4000000 in
set_option maxRecDepth 100000 in
theorem tX11_take_b39 {B0 : (Nat → Int32) → (Nat → Nat → Int32) → Prop} {K : ((Nat → Int32) × (Nat → Nat → Int32)) → Prop} (C : CallFix p m c cX11_take 2 s args wsX11_take RX11) (hR : Rtv p l e rmX11_take s m args below meth c cX11_take D A (mT cI cZ) (mWu o h cI cZ) K Q) (hB0 : ∀ (f : Nat → Int32) (g : Nat → Nat → Int32) (H : Heap) (locs : List Loc) (ls : Array Slot), B0 f g → Wd D A s (mT cI cZ) (mW o h cI cZ f g) H locs → lv_has ls 2 [(0, .ref o)] → W p l e rmX11_take s m args below meth c H locs 0 0 Q (F0 m 0 ls [])) {f : Nat → Int32} {g : Nat → Nat → Int32} (hh : wpX11_take_b39 B0 f g K) {H : Heap} {locs : List Loc} {ls : Array Slot} (hw : Wd D A s (mT cI cZ) (mW o h cI cZ f g) H locs) (hl : lv_has ls 2 [(0, .ref o)]) : W p l e rmX11_take s m args below meth c H locs 0 0 Q (F0 m 39 ls []) := by
  unfold wpX11_take_b39 at hh
  refine lv_aload_n C.1 C.2.1 dX11_take_39 rfl (lv_at hl 0 rfl) ?_
  refine lv_dup C.1 C.2.1 dX11_take_40 rfl ?_
  refine m_gi C hw (inC inW11) 7 (by decide) (wc w_1469) mg_7 (x := f 7) rfl dX11_take_41 ?_
  refine lv_iconst (v := (1 : Int32)) C.1 C.2.1 dX11_take_44 (by decide) ?_
  refine lv_iadd C.1 C.2.1 dX11_take_45 ?_
  refine m_pi C hw (inC inW11) 7 (by decide) (wc w_1469) rfl (ty := .int) (by decide +kernel) rfl rfl (Nat.le_of_ble_eq_true rfl) ms_7 dX11_take_46 (fun H locs hw => ?_)
  refine lv_goto (tgt := 0) C.1 C.2.1 dX11_take_49 (by decide) ?_
  exact hB0 _ _ _ _ _ hh hw hl
def wpX11_take_b0_body (B0 : (Nat → Int32) → (Nat → Nat → Int32) → Prop) (f : Nat → Int32) (g : Nat → Nat → Int32) (K : ((Nat → Int32) × (Nat → Nat → Int32)) → Prop) : Prop :=
  (((f 6) ≤ (f 7)) →
    wpX11_take_b52 f g K) ∧
  (¬ ((f 6) ≤ (f 7)) →
    vp_in (f 7) 500 ∧ (((g 0 (ix (f 7))) = (10 : Int32)) →
      wpX11_take_b39 B0 f g K) ∧
    (¬ ((g 0 (ix (f 7))) = (10 : Int32)) →
      vp_in (f 7) 500 ∧ (¬ ((g 0 (ix (f 7))) = (32 : Int32)) →
        wpX11_take_b52 f g K) ∧
      (((g 0 (ix (f 7))) = (32 : Int32)) →
        wpX11_take_b39 B0 f g K)))
set_option maxHeartbeats 4000000 in
set_option maxRecDepth 100000 in
theorem tX11_take_b0_body {B0 : (Nat → Int32) → (Nat → Nat → Int32) → Prop} {K : ((Nat → Int32) × (Nat → Nat → Int32)) → Prop} (C : CallFix p m c cX11_take 2 s args wsX11_take RX11) (hR : Rtv p l e rmX11_take s m args below meth c cX11_take D A (mT cI cZ) (mWu o h cI cZ) K Q) (hB0 : ∀ (f : Nat → Int32) (g : Nat → Nat → Int32) (H : Heap) (locs : List Loc) (ls : Array Slot), B0 f g → Wd D A s (mT cI cZ) (mW o h cI cZ f g) H locs → lv_has ls 2 [(0, .ref o)] → W p l e rmX11_take s m args below meth c H locs 0 0 Q (F0 m 0 ls [])) {f : Nat → Int32} {g : Nat → Nat → Int32} (hh : wpX11_take_b0_body B0 f g K) {H : Heap} {locs : List Loc} {ls : Array Slot} (hw : Wd D A s (mT cI cZ) (mW o h cI cZ f g) H locs) (hl : lv_has ls 2 [(0, .ref o)]) : W p l e rmX11_take s m args below meth c H locs 0 0 Q (F0 m 0 ls []) := by
  unfold wpX11_take_b0_body at hh
  refine lv_aload_n C.1 C.2.1 dX11_take_0 rfl (lv_at hl 0 rfl) ?_
  refine m_gi C hw (inC inW11) 7 (by decide) (wc w_1469) mg_7 (x := f 7) rfl dX11_take_1 ?_
  refine lv_aload_n C.1 C.2.1 dX11_take_4 rfl (lv_at hl 0 rfl) ?_
  refine m_gi C hw (inC inW11) 6 (by decide) (wc w_1468) mg_6 (x := f 6) rfl dX11_take_5 ?_
  refine lv_icmp_ge (tgt := 52) C.1 C.2.1 dX11_take_8 (by decide) (fun c8 => ?_) (fun c8 => ?_)
  · replace hh := hh.1 c8
    exact tX11_take_b52 C hR hh hw hl
  · replace hh := hh.2 c8
    refine lv_aload_n C.1 C.2.1 dX11_take_11 rfl (lv_at hl 0 rfl) ?_
    refine m_ga C hw (inC inW11) 0 (by decide) (wc w_1462) mg_0 dX11_take_12 ?_
    refine lv_aload_n C.1 C.2.1 dX11_take_15 rfl (lv_at hl 0 rfl) ?_
    refine m_gi C hw (inC inW11) 7 (by decide) (wc w_1469) mg_7 (x := f 7) rfl dX11_take_16 ?_
    obtain ⟨hi19, hh⟩ := hh
    refine m_ial C hw mp_0 (x := g 0 (ix (f 7))) hi19 rfl dX11_take_19 ?_
    refine lv_bipush (v := (10 : Int32)) C.1 C.2.1 dX11_take_20 (by decide) ?_
    refine lv_icmp_eq (tgt := 39) C.1 C.2.1 dX11_take_22 (by decide) (fun c22 => ?_) (fun c22 => ?_)
    · replace hh := hh.1 c22
      exact tX11_take_b39 C hR hB0 hh hw hl
    · replace hh := hh.2 c22
      refine lv_aload_n C.1 C.2.1 dX11_take_25 rfl (lv_at hl 0 rfl) ?_
      refine m_ga C hw (inC inW11) 0 (by decide) (wc w_1462) mg_0 dX11_take_26 ?_
      refine lv_aload_n C.1 C.2.1 dX11_take_29 rfl (lv_at hl 0 rfl) ?_
      refine m_gi C hw (inC inW11) 7 (by decide) (wc w_1469) mg_7 (x := f 7) rfl dX11_take_30 ?_
      obtain ⟨hi33, hh⟩ := hh
      refine m_ial C hw mp_0 (x := g 0 (ix (f 7))) hi33 rfl dX11_take_33 ?_
      refine lv_bipush (v := (32 : Int32)) C.1 C.2.1 dX11_take_34 (by decide) ?_
      refine lv_icmp_ne (tgt := 52) C.1 C.2.1 dX11_take_36 (by decide) (fun c36 => ?_) (fun c36 => ?_)
      · replace hh := hh.1 c36
        exact tX11_take_b52 C hR hh hw hl
      · replace hh := hh.2 c36
        exact tX11_take_b39 C hR hB0 hh hw hl
def wpX11_take_b0 (n_ : Nat) (f : Nat → Int32) (g : Nat → Nat → Int32) (K : ((Nat → Int32) × (Nat → Nat → Int32)) → Prop) : Prop := match n_ with
  | 0 => False
  | n + 1 => wpX11_take_b0_body (fun f g => wpX11_take_b0 n f g K) f g K
theorem tX11_take_b0 {K : ((Nat → Int32) × (Nat → Nat → Int32)) → Prop} (C : CallFix p m c cX11_take 2 s args wsX11_take RX11) (hR : Rtv p l e rmX11_take s m args below meth c cX11_take D A (mT cI cZ) (mWu o h cI cZ) K Q) (n : Nat) : ∀ (f : Nat → Int32) (g : Nat → Nat → Int32) (H : Heap) (locs : List Loc) (ls : Array Slot), wpX11_take_b0 n f g K → Wd D A s (mT cI cZ) (mW o h cI cZ f g) H locs → lv_has ls 2 [(0, .ref o)] → W p l e rmX11_take s m args below meth c H locs 0 0 Q (F0 m 0 ls []) := by
  induction n with
  | zero => intro f g H locs ls hh; exact hh.elim
  | succ n ih => intro f g H locs ls hh hw hl; exact tX11_take_b0_body C hR ih hh hw hl
def wpX11_take (f : Nat → Int32) (g : Nat → Nat → Int32) (K : ((Nat → Int32) × (Nat → Nat → Int32)) → Prop) : Prop := ∃ n, wpX11_take_b0 n f g K
theorem ctX11_take (l : Launch) (D : va_G) (o : Nat) (h : Nat → Nat) (cI cZ : ClassId) (f : Nat → Int32) (g : Nat → Nat → Int32) {K : ((Nat → Int32) × (Nat → Nat → Int32)) → Prop} (hh : wpX11_take f g K) : Cv l yX11_take wsX11_take rmX11_take [.ref o] D (mT cI cZ) (mWu o h cI cZ) (f, g) K := by
  refine Cv_of (cc := cX11_take) (maxL := 2) (by decide) rfl (Nat.le_of_ble_eq_true rfl) ?_
  intro p e s m below meth c A Q C hw hR ls hl
  obtain ⟨n, hh⟩ := hh
  exact tX11_take_b0 C hR n _ _ _ _ _ hh hw hl
theorem cdX11_take : yX11_take.cls = RX11 ∧ yX11_take.cls ≠ "java/lang/invoke/MethodHandle" ∧ yX11_take.cls ≠ "java/lang/invoke/VarHandle" ∧ (parseMethodDescriptor yX11_take.desc).map (fun d => d.parameters.length) = some 0 := by decide +kernel
abbrev rmX11_starts : Room := { frames := 1, cells := 0, slots := 0, locals := 21 }
def wpX11_starts_b12 (f : Nat → Int32) (g : Nat → Nat → Int32) (K : Int32 → ((Nat → Int32) × (Nat → Nat → Int32)) → Prop) : Prop :=
  K (0 : Int32) (f, g)
set_option maxHeartbeats 4000000 in
set_option maxRecDepth 100000 in
theorem tX11_starts_b12 {K : Int32 → ((Nat → Int32) × (Nat → Nat → Int32)) → Prop} (C : CallFix p m c cX11_starts 3 s args wsX11_starts RX11) (hR : Rti .boolean p l e rmX11_starts s m args below meth c cX11_starts D A (mT cI cZ) (mWu o h cI cZ) K Q) {f : Nat → Int32} {g : Nat → Nat → Int32} (hh : wpX11_starts_b12 f g K) {H : Heap} {locs : List Loc} {ls : Array Slot} (hw : Wd D A s (mT cI cZ) (mW o h cI cZ f g) H locs) (hl : lv_has ls 3 [(0, .ref o)]) : W p l e rmX11_starts s m args below meth c H locs 0 0 Q (F0 m 12 ls []) := by
  unfold wpX11_starts_b12 at hh
  refine lv_iconst (v := (0 : Int32)) C.1 C.2.1 dX11_starts_12 (by decide) ?_
  exact hR _ _ _ (f, g) _ _ dX11_starts_13 rfl hh hw
def wpX11_starts_b0 (f : Nat → Int32) (g : Nat → Nat → Int32) (x1 : Int32) (x2 : Int32) (K : Int32 → ((Nat → Int32) × (Nat → Nat → Int32)) → Prop) : Prop :=
  ((x1 < 0) →
    wpX11_starts_b12 f g K) ∧
  (¬ (x1 < 0) →
    ((x1 ≤ (f 1)) →
      isB x2 ∧ wpX11_take (upd (upd (upd (upd (upd (upd f 6 x1) 1 (0 : Int32)) 4 (0 : Int32)) 5 (-1 : Int32)) 7 (0 : Int32)) 11 x2) g  (fun u45 =>
        K (1 : Int32) (u45.1, u45.2))) ∧
    (¬ (x1 ≤ (f 1)) →
      wpX11_starts_b12 f g K))
set_option maxHeartbeats 4000000 in
set_option maxRecDepth 100000 in
theorem tX11_starts_b0 {K : Int32 → ((Nat → Int32) × (Nat → Nat → Int32)) → Prop} (C : CallFix p m c cX11_starts 3 s args wsX11_starts RX11) (hR : Rti .boolean p l e rmX11_starts s m args below meth c cX11_starts D A (mT cI cZ) (mWu o h cI cZ) K Q) {f : Nat → Int32} {g : Nat → Nat → Int32} {x1 : Int32} {x2 : Int32} (hh : wpX11_starts_b0 f g x1 x2 K) {H : Heap} {locs : List Loc} {ls : Array Slot} (hw : Wd D A s (mT cI cZ) (mW o h cI cZ f g) H locs) (hl : lv_has ls 3 [(0, .ref o), (1, .int x1), (2, .int x2)]) : W p l e rmX11_starts s m args below meth c H locs 0 0 Q (F0 m 0 ls []) := by
  unfold wpX11_starts_b0 at hh
  refine lv_iload_n C.1 C.2.1 dX11_starts_0 rfl (lv_at hl 1 rfl) ?_
  refine lv_if_lt (tgt := 12) C.1 C.2.1 dX11_starts_1 (by decide) (fun c1 => ?_) (fun c1 => ?_)
  · replace hh := hh.1 c1
    exact tX11_starts_b12 C hR hh hw (lv_sub hl [0] rfl)
  · replace hh := hh.2 c1
    refine lv_iload_n C.1 C.2.1 dX11_starts_4 rfl (lv_at hl 1 rfl) ?_
    refine lv_aload_n C.1 C.2.1 dX11_starts_5 rfl (lv_at hl 0 rfl) ?_
    refine m_gi C hw (inC inW11) 1 (by decide) (wc w_1463) mg_1 (x := f 1) rfl dX11_starts_6 ?_
    refine lv_icmp_le (tgt := 14) C.1 C.2.1 dX11_starts_9 (by decide) (fun c9 => ?_) (fun c9 => ?_)
    · replace hh := hh.1 c9
      refine lv_aload_n C.1 C.2.1 dX11_starts_14 rfl (lv_at hl 0 rfl) ?_
      refine lv_iload_n C.1 C.2.1 dX11_starts_15 rfl (lv_at hl 1 rfl) ?_
      refine m_pi C hw (inC inW11) 6 (by decide) (wc w_1468) rfl (ty := .int) (by decide +kernel) rfl rfl (Nat.le_of_ble_eq_true rfl) ms_6 dX11_starts_16 (fun H locs hw => ?_)
      refine lv_aload_n C.1 C.2.1 dX11_starts_19 rfl (lv_at hl 0 rfl) ?_
      refine lv_iconst (v := (0 : Int32)) C.1 C.2.1 dX11_starts_20 (by decide) ?_
      refine m_pi C hw (inC inW11) 1 (by decide) (wc w_1463) rfl (ty := .int) (by decide +kernel) rfl rfl (Nat.le_of_ble_eq_true rfl) ms_1 dX11_starts_21 (fun H locs hw => ?_)
      refine lv_aload_n C.1 C.2.1 dX11_starts_24 rfl (lv_at hl 0 rfl) ?_
      refine lv_iconst (v := (0 : Int32)) C.1 C.2.1 dX11_starts_25 (by decide) ?_
      refine m_pi C hw (inC inW11) 4 (by decide) (wc w_1466) rfl (ty := .int) (by decide +kernel) rfl rfl (Nat.le_of_ble_eq_true rfl) ms_4 dX11_starts_26 (fun H locs hw => ?_)
      refine lv_aload_n C.1 C.2.1 dX11_starts_29 rfl (lv_at hl 0 rfl) ?_
      refine lv_iconst (v := (-1 : Int32)) C.1 C.2.1 dX11_starts_30 (by decide) ?_
      refine m_pi C hw (inC inW11) 5 (by decide) (wc w_1467) rfl (ty := .int) (by decide +kernel) rfl rfl (Nat.le_of_ble_eq_true rfl) ms_5 dX11_starts_31 (fun H locs hw => ?_)
      refine lv_aload_n C.1 C.2.1 dX11_starts_34 rfl (lv_at hl 0 rfl) ?_
      refine lv_iconst (v := (0 : Int32)) C.1 C.2.1 dX11_starts_35 (by decide) ?_
      refine m_pi C hw (inC inW11) 7 (by decide) (wc w_1469) rfl (ty := .int) (by decide +kernel) rfl rfl (Nat.le_of_ble_eq_true rfl) ms_7 dX11_starts_36 (fun H locs hw => ?_)
      refine lv_aload_n C.1 C.2.1 dX11_starts_39 rfl (lv_at hl 0 rfl) ?_
      refine lv_iload_n C.1 C.2.1 dX11_starts_40 rfl (lv_at hl 2 rfl) ?_
      obtain ⟨hb41, hh⟩ := hh
      refine m_pi C hw (inC inW11) 11 (by decide) (wc w_1473) rfl (ty := .boolean) (by decide +kernel) (isB_nar hb41) (isB_fit hb41) (Nat.le_of_ble_eq_true rfl) ms_11 dX11_starts_41 (fun H locs hw => ?_)
      refine lv_aload_n C.1 C.2.1 dX11_starts_44 rfl (lv_at hl 0 rfl) ?_
      refine m_Vv C hw (ctX11_take l D o h cI cZ (upd (upd (upd (upd (upd (upd f 6 x1) 1 (0 : Int32)) 4 (0 : Int32)) 5 (-1 : Int32)) 7 (0 : Int32)) 11 x2) g  hh) (cwV 0 C.2.2.2.2 (gd_V w_1702 w_1704 w_57 w_125 w_1705) rfl rfl rfl cdX11_take ⟨Nat.le_of_ble_eq_true rfl, Nat.le_of_ble_eq_true rfl⟩) rfl hl.1 (Nat.le_of_ble_eq_true rfl) dX11_starts_45 ⟨Nat.zero_le _, Nat.zero_le _⟩ (fun u45 H locs hh hw => ?_) rfl
      refine lv_iconst (v := (1 : Int32)) C.1 C.2.1 dX11_starts_48 (by decide) ?_
      exact hR _ _ _ (u45.1, u45.2) _ _ dX11_starts_49 rfl hh hw
    · replace hh := hh.2 c9
      exact tX11_starts_b12 C hR hh hw (lv_sub hl [0] rfl)
def wpX11_starts (f : Nat → Int32) (g : Nat → Nat → Int32) (x1 : Int32) (x2 : Int32) (K : Int32 → ((Nat → Int32) × (Nat → Nat → Int32)) → Prop) : Prop := wpX11_starts_b0 f g x1 x2 K
theorem ctX11_starts (l : Launch) (D : va_G) (o : Nat) (h : Nat → Nat) (cI cZ : ClassId) (f : Nat → Int32) (g : Nat → Nat → Int32) (x1 : Int32) (x2 : Int32) {K : Int32 → ((Nat → Int32) × (Nat → Nat → Int32)) → Prop} (hh : wpX11_starts f g x1 x2 K) : Ci l yX11_starts wsX11_starts rmX11_starts [.ref o, .int x1, .int x2] D (mT cI cZ) (mWu o h cI cZ) (f, g) K := by
  refine Ci_of (cc := cX11_starts) (maxL := 3) (by decide) rfl (Nat.le_of_ble_eq_true rfl) ?_
  intro p e s m below meth c A Q C hw hR ls hl
  exact tX11_starts_b0 C hR hh hw hl
theorem cdX11_starts : yX11_starts.cls = RX11 ∧ yX11_starts.cls ≠ "java/lang/invoke/MethodHandle" ∧ yX11_starts.cls ≠ "java/lang/invoke/VarHandle" ∧ (parseMethodDescriptor yX11_starts.desc).map (fun d => d.parameters.length) = some 2 := by decide +kernel
abbrev rmX11_rules : Room := { frames := 2, cells := 0, slots := 0, locals := 43 }
def wpX11_rules_b199_body (B199 : (Nat → Int32) → (Nat → Nat → Int32) → Int32 → Prop) (f : Nat → Int32) (g : Nat → Nat → Int32) (x3 : Int32) (K : Int32 → ((Nat → Int32) × (Nat → Nat → Int32)) → Prop) : Prop :=
  (((16 : Int32) ≤ x3) →
    K (f 12) (f, g)) ∧
  (¬ ((16 : Int32) ≤ x3) →
    vp_in x3 16 ∧ B199 f (pt g 58 (ix x3) (vp_nar .boolean (0 : Int32))) (x3 + (1 : Int32)))
set_option maxHeartbeats 4000000 in
set_option maxRecDepth 100000 in
theorem tX11_rules_b199_body {B199 : (Nat → Int32) → (Nat → Nat → Int32) → Int32 → Prop} {K : Int32 → ((Nat → Int32) × (Nat → Nat → Int32)) → Prop} (C : CallFix p m c cX11_rules 4 s args wsX11_rules RX11) (hR : Rti .int p l e rmX11_rules s m args below meth c cX11_rules D A (mT cI cZ) (mWu o h cI cZ) K Q) (hB199 : ∀ (f : Nat → Int32) (g : Nat → Nat → Int32) (x3 : Int32) (H : Heap) (locs : List Loc) (ls : Array Slot), B199 f g x3 → Wd D A s (mT cI cZ) (mW o h cI cZ f g) H locs → lv_has ls 4 [(0, .ref o), (3, .int x3)] → W p l e rmX11_rules s m args below meth c H locs 0 0 Q (F0 m 199 ls [])) {f : Nat → Int32} {g : Nat → Nat → Int32} {x3 : Int32} (hh : wpX11_rules_b199_body B199 f g x3 K) {H : Heap} {locs : List Loc} {ls : Array Slot} (hw : Wd D A s (mT cI cZ) (mW o h cI cZ f g) H locs) (hl : lv_has ls 4 [(0, .ref o), (3, .int x3)]) : W p l e rmX11_rules s m args below meth c H locs 0 0 Q (F0 m 199 ls []) := by
  unfold wpX11_rules_b199_body at hh
  refine lv_iload_n C.1 C.2.1 dX11_rules_199 rfl (lv_at hl 1 rfl) ?_
  refine lv_bipush (v := (16 : Int32)) C.1 C.2.1 dX11_rules_200 (by decide) ?_
  refine lv_icmp_ge (tgt := 218) C.1 C.2.1 dX11_rules_202 (by decide) (fun c202 => ?_) (fun c202 => ?_)
  · replace hh := hh.1 c202
    refine lv_aload_n C.1 C.2.1 dX11_rules_218 rfl (lv_at hl 0 rfl) ?_
    refine m_gi C hw (inC inW11) 12 (by decide) (wc w_1474) mg_12 (x := f 12) rfl dX11_rules_219 ?_
    exact hR _ _ _ (f, g) _ _ dX11_rules_222 rfl hh hw
  · replace hh := hh.2 c202
    refine lv_aload_n C.1 C.2.1 dX11_rules_205 rfl (lv_at hl 0 rfl) ?_
    refine m_ga C hw (inC inW11) 58 (by decide) (wc w_1520) mg_58 dX11_rules_206 ?_
    refine lv_iload_n C.1 C.2.1 dX11_rules_209 rfl (lv_at hl 1 rfl) ?_
    refine lv_iconst (v := (0 : Int32)) C.1 C.2.1 dX11_rules_210 (by decide) ?_
    obtain ⟨hi211, hh⟩ := hh
    refine m_zas C hw mp_58 mq_58 hi211 dX11_rules_211 (fun H locs hw => ?_)
    refine lv_iinc (v := x3 + (1 : Int32)) (lv' := [(3, .int (x3 + (1 : Int32))), (0, .ref o)]) C.1 C.2.1 dX11_rules_212 hl (k := 1) rfl rfl (by decide) rfl (fun ls hl => ?_)
    refine lv_goto (tgt := 199) C.1 C.2.1 dX11_rules_215 (by decide) ?_
    exact hB199 _ _ _ _ _ _ hh hw (lv_sub hl [1, 0] rfl)
def wpX11_rules_b199 (n_ : Nat) (f : Nat → Int32) (g : Nat → Nat → Int32) (x3 : Int32) (K : Int32 → ((Nat → Int32) × (Nat → Nat → Int32)) → Prop) : Prop := match n_ with
  | 0 => False
  | n + 1 => wpX11_rules_b199_body (fun f g x3 => wpX11_rules_b199 n f g x3 K) f g x3 K
theorem tX11_rules_b199 {K : Int32 → ((Nat → Int32) × (Nat → Nat → Int32)) → Prop} (C : CallFix p m c cX11_rules 4 s args wsX11_rules RX11) (hR : Rti .int p l e rmX11_rules s m args below meth c cX11_rules D A (mT cI cZ) (mWu o h cI cZ) K Q) (n : Nat) : ∀ (f : Nat → Int32) (g : Nat → Nat → Int32) (x3 : Int32) (H : Heap) (locs : List Loc) (ls : Array Slot), wpX11_rules_b199 n f g x3 K → Wd D A s (mT cI cZ) (mW o h cI cZ f g) H locs → lv_has ls 4 [(0, .ref o), (3, .int x3)] → W p l e rmX11_rules s m args below meth c H locs 0 0 Q (F0 m 199 ls []) := by
  induction n with
  | zero => intro f g x3 H locs ls hh; exact hh.elim
  | succ n ih => intro f g x3 H locs ls hh hw hl; exact tX11_rules_b199_body C hR ih hh hw hl
def wpX11_rules_b95_body (B95 : (Nat → Int32) → (Nat → Nat → Int32) → Int32 → Prop) (f : Nat → Int32) (g : Nat → Nat → Int32) (x3 : Int32) (K : Int32 → ((Nat → Int32) × (Nat → Nat → Int32)) → Prop) : Prop :=
  ((((12 : Int32) * (f 12)) ≤ x3) →
    ∃ n, wpX11_rules_b199 n (upd f 51 (-1 : Int32)) g (0 : Int32) K) ∧
  (¬ (((12 : Int32) * (f 12)) ≤ x3) →
    vp_in ((360 : Int32) + x3) 720 ∧ vp_in x3 720 ∧ vp_in ((360 : Int32) + x3) 720 ∧ vp_in x3 720 ∧ vp_in ((360 : Int32) + x3) 720 ∧ vp_in x3 720 ∧ vp_in ((360 : Int32) + x3) 720 ∧ vp_in x3 720 ∧ vp_in ((360 : Int32) + x3) 720 ∧ vp_in x3 720 ∧ B95 f (pt (pt (pt (pt (pt g 15 (ix x3) (g 15 (ix ((360 : Int32) + x3)))) 16 (ix x3) (g 16 (ix ((360 : Int32) + x3)))) 17 (ix x3) (vp_nar .boolean (g 17 (ix ((360 : Int32) + x3))))) 18 (ix x3) (g 18 (ix ((360 : Int32) + x3)))) 19 (ix x3) (g 19 (ix ((360 : Int32) + x3)))) (x3 + (1 : Int32)))
set_option maxHeartbeats 4000000 in
set_option maxRecDepth 100000 in
theorem tX11_rules_b95_body {B95 : (Nat → Int32) → (Nat → Nat → Int32) → Int32 → Prop} {K : Int32 → ((Nat → Int32) × (Nat → Nat → Int32)) → Prop} (C : CallFix p m c cX11_rules 4 s args wsX11_rules RX11) (hR : Rti .int p l e rmX11_rules s m args below meth c cX11_rules D A (mT cI cZ) (mWu o h cI cZ) K Q) (hB95 : ∀ (f : Nat → Int32) (g : Nat → Nat → Int32) (x3 : Int32) (H : Heap) (locs : List Loc) (ls : Array Slot), B95 f g x3 → Wd D A s (mT cI cZ) (mW o h cI cZ f g) H locs → lv_has ls 4 [(0, .ref o), (3, .int x3)] → W p l e rmX11_rules s m args below meth c H locs 0 0 Q (F0 m 95 ls [])) {f : Nat → Int32} {g : Nat → Nat → Int32} {x3 : Int32} (hh : wpX11_rules_b95_body B95 f g x3 K) {H : Heap} {locs : List Loc} {ls : Array Slot} (hw : Wd D A s (mT cI cZ) (mW o h cI cZ f g) H locs) (hl : lv_has ls 4 [(0, .ref o), (3, .int x3)]) : W p l e rmX11_rules s m args below meth c H locs 0 0 Q (F0 m 95 ls []) := by
  unfold wpX11_rules_b95_body at hh
  refine lv_iload_n C.1 C.2.1 dX11_rules_95 rfl (lv_at hl 1 rfl) ?_
  refine lv_bipush (v := (12 : Int32)) C.1 C.2.1 dX11_rules_96 (by decide) ?_
  refine lv_aload_n C.1 C.2.1 dX11_rules_98 rfl (lv_at hl 0 rfl) ?_
  refine m_gi C hw (inC inW11) 12 (by decide) (wc w_1474) mg_12 (x := f 12) rfl dX11_rules_99 ?_
  refine lv_imul C.1 C.2.1 dX11_rules_102 ?_
  refine lv_icmp_ge (tgt := 192) C.1 C.2.1 dX11_rules_103 (by decide) (fun c103 => ?_) (fun c103 => ?_)
  · replace hh := hh.1 c103
    refine lv_aload_n C.1 C.2.1 dX11_rules_192 rfl (lv_at hl 0 rfl) ?_
    refine lv_iconst (v := (-1 : Int32)) C.1 C.2.1 dX11_rules_193 (by decide) ?_
    refine m_pi C hw (inC inW11) 51 (by decide) (wc w_1513) rfl (ty := .int) (by decide +kernel) rfl rfl (Nat.le_of_ble_eq_true rfl) ms_51 dX11_rules_194 (fun H locs hw => ?_)
    refine lv_iconst (v := (0 : Int32)) C.1 C.2.1 dX11_rules_197 (by decide) ?_
    refine lv_istore_n (lv' := [(3, .int (0 : Int32)), (0, .ref o)]) C.1 C.2.1 dX11_rules_198 rfl hl (by decide) rfl (fun ls hl => ?_)
    obtain ⟨n, hh⟩ := hh
    exact tX11_rules_b199 C hR n _ _ _ _ _ _ hh hw (lv_sub hl [1, 0] rfl)
  · replace hh := hh.2 c103
    refine lv_aload_n C.1 C.2.1 dX11_rules_106 rfl (lv_at hl 0 rfl) ?_
    refine m_ga C hw (inC inW11) 15 (by decide) (wc w_1477) mg_15 dX11_rules_107 ?_
    refine lv_iload_n C.1 C.2.1 dX11_rules_110 rfl (lv_at hl 1 rfl) ?_
    refine lv_aload_n C.1 C.2.1 dX11_rules_111 rfl (lv_at hl 0 rfl) ?_
    refine m_ga C hw (inC inW11) 15 (by decide) (wc w_1477) mg_15 dX11_rules_112 ?_
    refine lv_sipush (v := (360 : Int32)) C.1 C.2.1 dX11_rules_115 (by decide) ?_
    refine lv_iload_n C.1 C.2.1 dX11_rules_118 rfl (lv_at hl 1 rfl) ?_
    refine lv_iadd C.1 C.2.1 dX11_rules_119 ?_
    obtain ⟨hi120, hh⟩ := hh
    refine m_ial C hw mp_15 (x := g 15 (ix ((360 : Int32) + x3))) hi120 rfl dX11_rules_120 ?_
    obtain ⟨hi121, hh⟩ := hh
    refine m_ias C hw mp_15 mq_15 hi121 dX11_rules_121 (fun H locs hw => ?_)
    refine lv_aload_n C.1 C.2.1 dX11_rules_122 rfl (lv_at hl 0 rfl) ?_
    refine m_ga C hw (inC inW11) 16 (by decide) (wc w_1478) mg_16 dX11_rules_123 ?_
    refine lv_iload_n C.1 C.2.1 dX11_rules_126 rfl (lv_at hl 1 rfl) ?_
    refine lv_aload_n C.1 C.2.1 dX11_rules_127 rfl (lv_at hl 0 rfl) ?_
    refine m_ga C hw (inC inW11) 16 (by decide) (wc w_1478) mg_16 dX11_rules_128 ?_
    refine lv_sipush (v := (360 : Int32)) C.1 C.2.1 dX11_rules_131 (by decide) ?_
    refine lv_iload_n C.1 C.2.1 dX11_rules_134 rfl (lv_at hl 1 rfl) ?_
    refine lv_iadd C.1 C.2.1 dX11_rules_135 ?_
    obtain ⟨hi136, hh⟩ := hh
    refine m_ial C hw mp_16 (x := g 16 (ix ((360 : Int32) + x3))) hi136 rfl dX11_rules_136 ?_
    obtain ⟨hi137, hh⟩ := hh
    refine m_ias C hw mp_16 mq_16 hi137 dX11_rules_137 (fun H locs hw => ?_)
    refine lv_aload_n C.1 C.2.1 dX11_rules_138 rfl (lv_at hl 0 rfl) ?_
    refine m_ga C hw (inC inW11) 17 (by decide) (wc w_1479) mg_17 dX11_rules_139 ?_
    refine lv_iload_n C.1 C.2.1 dX11_rules_142 rfl (lv_at hl 1 rfl) ?_
    refine lv_aload_n C.1 C.2.1 dX11_rules_143 rfl (lv_at hl 0 rfl) ?_
    refine m_ga C hw (inC inW11) 17 (by decide) (wc w_1479) mg_17 dX11_rules_144 ?_
    refine lv_sipush (v := (360 : Int32)) C.1 C.2.1 dX11_rules_147 (by decide) ?_
    refine lv_iload_n C.1 C.2.1 dX11_rules_150 rfl (lv_at hl 1 rfl) ?_
    refine lv_iadd C.1 C.2.1 dX11_rules_151 ?_
    obtain ⟨hi152, hh⟩ := hh
    refine m_zal C hw mp_17 (x := g 17 (ix ((360 : Int32) + x3))) hi152 rfl dX11_rules_152 ?_
    obtain ⟨hi153, hh⟩ := hh
    refine m_zas C hw mp_17 mq_17 hi153 dX11_rules_153 (fun H locs hw => ?_)
    refine lv_aload_n C.1 C.2.1 dX11_rules_154 rfl (lv_at hl 0 rfl) ?_
    refine m_ga C hw (inC inW11) 18 (by decide) (wc w_1480) mg_18 dX11_rules_155 ?_
    refine lv_iload_n C.1 C.2.1 dX11_rules_158 rfl (lv_at hl 1 rfl) ?_
    refine lv_aload_n C.1 C.2.1 dX11_rules_159 rfl (lv_at hl 0 rfl) ?_
    refine m_ga C hw (inC inW11) 18 (by decide) (wc w_1480) mg_18 dX11_rules_160 ?_
    refine lv_sipush (v := (360 : Int32)) C.1 C.2.1 dX11_rules_163 (by decide) ?_
    refine lv_iload_n C.1 C.2.1 dX11_rules_166 rfl (lv_at hl 1 rfl) ?_
    refine lv_iadd C.1 C.2.1 dX11_rules_167 ?_
    obtain ⟨hi168, hh⟩ := hh
    refine m_ial C hw mp_18 (x := g 18 (ix ((360 : Int32) + x3))) hi168 rfl dX11_rules_168 ?_
    obtain ⟨hi169, hh⟩ := hh
    refine m_ias C hw mp_18 mq_18 hi169 dX11_rules_169 (fun H locs hw => ?_)
    refine lv_aload_n C.1 C.2.1 dX11_rules_170 rfl (lv_at hl 0 rfl) ?_
    refine m_ga C hw (inC inW11) 19 (by decide) (wc w_1481) mg_19 dX11_rules_171 ?_
    refine lv_iload_n C.1 C.2.1 dX11_rules_174 rfl (lv_at hl 1 rfl) ?_
    refine lv_aload_n C.1 C.2.1 dX11_rules_175 rfl (lv_at hl 0 rfl) ?_
    refine m_ga C hw (inC inW11) 19 (by decide) (wc w_1481) mg_19 dX11_rules_176 ?_
    refine lv_sipush (v := (360 : Int32)) C.1 C.2.1 dX11_rules_179 (by decide) ?_
    refine lv_iload_n C.1 C.2.1 dX11_rules_182 rfl (lv_at hl 1 rfl) ?_
    refine lv_iadd C.1 C.2.1 dX11_rules_183 ?_
    obtain ⟨hi184, hh⟩ := hh
    refine m_ial C hw mp_19 (x := g 19 (ix ((360 : Int32) + x3))) hi184 rfl dX11_rules_184 ?_
    obtain ⟨hi185, hh⟩ := hh
    refine m_ias C hw mp_19 mq_19 hi185 dX11_rules_185 (fun H locs hw => ?_)
    refine lv_iinc (v := x3 + (1 : Int32)) (lv' := [(3, .int (x3 + (1 : Int32))), (0, .ref o)]) C.1 C.2.1 dX11_rules_186 hl (k := 1) rfl rfl (by decide) rfl (fun ls hl => ?_)
    refine lv_goto (tgt := 95) C.1 C.2.1 dX11_rules_189 (by decide) ?_
    exact hB95 _ _ _ _ _ _ hh hw (lv_sub hl [1, 0] rfl)
def wpX11_rules_b95 (n_ : Nat) (f : Nat → Int32) (g : Nat → Nat → Int32) (x3 : Int32) (K : Int32 → ((Nat → Int32) × (Nat → Nat → Int32)) → Prop) : Prop := match n_ with
  | 0 => False
  | n + 1 => wpX11_rules_b95_body (fun f g x3 => wpX11_rules_b95 n f g x3 K) f g x3 K
theorem tX11_rules_b95 {K : Int32 → ((Nat → Int32) × (Nat → Nat → Int32)) → Prop} (C : CallFix p m c cX11_rules 4 s args wsX11_rules RX11) (hR : Rti .int p l e rmX11_rules s m args below meth c cX11_rules D A (mT cI cZ) (mWu o h cI cZ) K Q) (n : Nat) : ∀ (f : Nat → Int32) (g : Nat → Nat → Int32) (x3 : Int32) (H : Heap) (locs : List Loc) (ls : Array Slot), wpX11_rules_b95 n f g x3 K → Wd D A s (mT cI cZ) (mW o h cI cZ f g) H locs → lv_has ls 4 [(0, .ref o), (3, .int x3)] → W p l e rmX11_rules s m args below meth c H locs 0 0 Q (F0 m 95 ls []) := by
  induction n with
  | zero => intro f g x3 H locs ls hh; exact hh.elim
  | succ n ih => intro f g x3 H locs ls hh hw hl; exact tX11_rules_b95_body C hR ih hh hw hl
def wpX11_rules_b49_body (B49 : (Nat → Int32) → (Nat → Nat → Int32) → Int32 → Prop) (f : Nat → Int32) (g : Nat → Nat → Int32) (x3 : Int32) (K : Int32 → ((Nat → Int32) × (Nat → Nat → Int32)) → Prop) : Prop :=
  (((f 12) ≤ x3) →
    ∃ n, wpX11_rules_b95 n f g (0 : Int32) K) ∧
  (¬ ((f 12) ≤ x3) →
    vp_in ((30 : Int32) + x3) 60 ∧ vp_in x3 60 ∧ vp_in ((30 : Int32) + x3) 60 ∧ vp_in x3 60 ∧ B49 f (pt (pt g 13 (ix x3) (g 13 (ix ((30 : Int32) + x3)))) 14 (ix x3) (g 14 (ix ((30 : Int32) + x3)))) (x3 + (1 : Int32)))
set_option maxHeartbeats 4000000 in
set_option maxRecDepth 100000 in
theorem tX11_rules_b49_body {B49 : (Nat → Int32) → (Nat → Nat → Int32) → Int32 → Prop} {K : Int32 → ((Nat → Int32) × (Nat → Nat → Int32)) → Prop} (C : CallFix p m c cX11_rules 4 s args wsX11_rules RX11) (hR : Rti .int p l e rmX11_rules s m args below meth c cX11_rules D A (mT cI cZ) (mWu o h cI cZ) K Q) (hB49 : ∀ (f : Nat → Int32) (g : Nat → Nat → Int32) (x3 : Int32) (H : Heap) (locs : List Loc) (ls : Array Slot), B49 f g x3 → Wd D A s (mT cI cZ) (mW o h cI cZ f g) H locs → lv_has ls 4 [(0, .ref o), (3, .int x3)] → W p l e rmX11_rules s m args below meth c H locs 0 0 Q (F0 m 49 ls [])) {f : Nat → Int32} {g : Nat → Nat → Int32} {x3 : Int32} (hh : wpX11_rules_b49_body B49 f g x3 K) {H : Heap} {locs : List Loc} {ls : Array Slot} (hw : Wd D A s (mT cI cZ) (mW o h cI cZ f g) H locs) (hl : lv_has ls 4 [(0, .ref o), (3, .int x3)]) : W p l e rmX11_rules s m args below meth c H locs 0 0 Q (F0 m 49 ls []) := by
  unfold wpX11_rules_b49_body at hh
  refine lv_iload_n C.1 C.2.1 dX11_rules_49 rfl (lv_at hl 1 rfl) ?_
  refine lv_aload_n C.1 C.2.1 dX11_rules_50 rfl (lv_at hl 0 rfl) ?_
  refine m_gi C hw (inC inW11) 12 (by decide) (wc w_1474) mg_12 (x := f 12) rfl dX11_rules_51 ?_
  refine lv_icmp_ge (tgt := 93) C.1 C.2.1 dX11_rules_54 (by decide) (fun c54 => ?_) (fun c54 => ?_)
  · replace hh := hh.1 c54
    refine lv_iconst (v := (0 : Int32)) C.1 C.2.1 dX11_rules_93 (by decide) ?_
    refine lv_istore_n (lv' := [(3, .int (0 : Int32)), (0, .ref o)]) C.1 C.2.1 dX11_rules_94 rfl hl (by decide) rfl (fun ls hl => ?_)
    obtain ⟨n, hh⟩ := hh
    exact tX11_rules_b95 C hR n _ _ _ _ _ _ hh hw (lv_sub hl [1, 0] rfl)
  · replace hh := hh.2 c54
    refine lv_aload_n C.1 C.2.1 dX11_rules_57 rfl (lv_at hl 0 rfl) ?_
    refine m_ga C hw (inC inW11) 13 (by decide) (wc w_1475) mg_13 dX11_rules_58 ?_
    refine lv_iload_n C.1 C.2.1 dX11_rules_61 rfl (lv_at hl 1 rfl) ?_
    refine lv_aload_n C.1 C.2.1 dX11_rules_62 rfl (lv_at hl 0 rfl) ?_
    refine m_ga C hw (inC inW11) 13 (by decide) (wc w_1475) mg_13 dX11_rules_63 ?_
    refine lv_bipush (v := (30 : Int32)) C.1 C.2.1 dX11_rules_66 (by decide) ?_
    refine lv_iload_n C.1 C.2.1 dX11_rules_68 rfl (lv_at hl 1 rfl) ?_
    refine lv_iadd C.1 C.2.1 dX11_rules_69 ?_
    obtain ⟨hi70, hh⟩ := hh
    refine m_ial C hw mp_13 (x := g 13 (ix ((30 : Int32) + x3))) hi70 rfl dX11_rules_70 ?_
    obtain ⟨hi71, hh⟩ := hh
    refine m_ias C hw mp_13 mq_13 hi71 dX11_rules_71 (fun H locs hw => ?_)
    refine lv_aload_n C.1 C.2.1 dX11_rules_72 rfl (lv_at hl 0 rfl) ?_
    refine m_ga C hw (inC inW11) 14 (by decide) (wc w_1476) mg_14 dX11_rules_73 ?_
    refine lv_iload_n C.1 C.2.1 dX11_rules_76 rfl (lv_at hl 1 rfl) ?_
    refine lv_aload_n C.1 C.2.1 dX11_rules_77 rfl (lv_at hl 0 rfl) ?_
    refine m_ga C hw (inC inW11) 14 (by decide) (wc w_1476) mg_14 dX11_rules_78 ?_
    refine lv_bipush (v := (30 : Int32)) C.1 C.2.1 dX11_rules_81 (by decide) ?_
    refine lv_iload_n C.1 C.2.1 dX11_rules_83 rfl (lv_at hl 1 rfl) ?_
    refine lv_iadd C.1 C.2.1 dX11_rules_84 ?_
    obtain ⟨hi85, hh⟩ := hh
    refine m_ial C hw mp_14 (x := g 14 (ix ((30 : Int32) + x3))) hi85 rfl dX11_rules_85 ?_
    obtain ⟨hi86, hh⟩ := hh
    refine m_ias C hw mp_14 mq_14 hi86 dX11_rules_86 (fun H locs hw => ?_)
    refine lv_iinc (v := x3 + (1 : Int32)) (lv' := [(3, .int (x3 + (1 : Int32))), (0, .ref o)]) C.1 C.2.1 dX11_rules_87 hl (k := 1) rfl rfl (by decide) rfl (fun ls hl => ?_)
    refine lv_goto (tgt := 49) C.1 C.2.1 dX11_rules_90 (by decide) ?_
    exact hB49 _ _ _ _ _ _ hh hw (lv_sub hl [1, 0] rfl)
def wpX11_rules_b49 (n_ : Nat) (f : Nat → Int32) (g : Nat → Nat → Int32) (x3 : Int32) (K : Int32 → ((Nat → Int32) × (Nat → Nat → Int32)) → Prop) : Prop := match n_ with
  | 0 => False
  | n + 1 => wpX11_rules_b49_body (fun f g x3 => wpX11_rules_b49 n f g x3 K) f g x3 K
theorem tX11_rules_b49 {K : Int32 → ((Nat → Int32) × (Nat → Nat → Int32)) → Prop} (C : CallFix p m c cX11_rules 4 s args wsX11_rules RX11) (hR : Rti .int p l e rmX11_rules s m args below meth c cX11_rules D A (mT cI cZ) (mWu o h cI cZ) K Q) (n : Nat) : ∀ (f : Nat → Int32) (g : Nat → Nat → Int32) (x3 : Int32) (H : Heap) (locs : List Loc) (ls : Array Slot), wpX11_rules_b49 n f g x3 K → Wd D A s (mT cI cZ) (mW o h cI cZ f g) H locs → lv_has ls 4 [(0, .ref o), (3, .int x3)] → W p l e rmX11_rules s m args below meth c H locs 0 0 Q (F0 m 49 ls []) := by
  induction n with
  | zero => intro f g x3 H locs ls hh; exact hh.elim
  | succ n ih => intro f g x3 H locs ls hh hw hl; exact tX11_rules_b49_body C hR ih hh hw hl
def wpX11_rules_b19_body (B19 : (Nat → Int32) → (Nat → Nat → Int32) → Int32 → Prop) (f : Nat → Int32) (g : Nat → Nat → Int32) (x2 : Int32) (K : Int32 → ((Nat → Int32) × (Nat → Nat → Int32)) → Prop) : Prop :=
  (((f 8) = 0) →
    ∃ n, wpX11_rules_b49 n (upd f 12 x2) g (0 : Int32) K) ∧
  (¬ ((f 8) = 0) →
    False)
set_option maxHeartbeats 4000000 in
set_option maxRecDepth 100000 in
theorem tX11_rules_b19_body {B19 : (Nat → Int32) → (Nat → Nat → Int32) → Int32 → Prop} {K : Int32 → ((Nat → Int32) × (Nat → Nat → Int32)) → Prop} (C : CallFix p m c cX11_rules 4 s args wsX11_rules RX11) (hR : Rti .int p l e rmX11_rules s m args below meth c cX11_rules D A (mT cI cZ) (mWu o h cI cZ) K Q) (hB19 : ∀ (f : Nat → Int32) (g : Nat → Nat → Int32) (x2 : Int32) (H : Heap) (locs : List Loc) (ls : Array Slot), B19 f g x2 → Wd D A s (mT cI cZ) (mW o h cI cZ f g) H locs → lv_has ls 4 [(0, .ref o), (2, .int x2)] → W p l e rmX11_rules s m args below meth c H locs 0 0 Q (F0 m 19 ls [])) {f : Nat → Int32} {g : Nat → Nat → Int32} {x2 : Int32} (hh : wpX11_rules_b19_body B19 f g x2 K) {H : Heap} {locs : List Loc} {ls : Array Slot} (hw : Wd D A s (mT cI cZ) (mW o h cI cZ f g) H locs) (hl : lv_has ls 4 [(0, .ref o), (2, .int x2)]) : W p l e rmX11_rules s m args below meth c H locs 0 0 Q (F0 m 19 ls []) := by
  unfold wpX11_rules_b19_body at hh
  refine lv_aload_n C.1 C.2.1 dX11_rules_19 rfl (lv_at hl 0 rfl) ?_
  refine m_gi C hw (inC inW11) 8 (by decide) (wc w_1470) mg_8 (x := f 8) rfl dX11_rules_20 ?_
  refine lv_if_eq (tgt := 42) C.1 C.2.1 dX11_rules_23 (by decide) (fun c23 => ?_) (fun c23 => ?_)
  · replace hh := hh.1 c23
    refine lv_aload_n C.1 C.2.1 dX11_rules_42 rfl (lv_at hl 0 rfl) ?_
    refine lv_iload_n C.1 C.2.1 dX11_rules_43 rfl (lv_at hl 1 rfl) ?_
    refine m_pi C hw (inC inW11) 12 (by decide) (wc w_1474) rfl (ty := .int) (by decide +kernel) rfl rfl (Nat.le_of_ble_eq_true rfl) ms_12 dX11_rules_44 (fun H locs hw => ?_)
    refine lv_iconst (v := (0 : Int32)) C.1 C.2.1 dX11_rules_47 (by decide) ?_
    refine lv_istore_n (lv' := [(3, .int (0 : Int32)), (0, .ref o), (2, .int x2)]) C.1 C.2.1 dX11_rules_48 rfl hl (by decide) rfl (fun ls hl => ?_)
    obtain ⟨n, hh⟩ := hh
    exact tX11_rules_b49 C hR n _ _ _ _ _ _ hh hw (lv_sub hl [1, 0] rfl)
  · replace hh := hh.2 c23
    refine lv_aload_n C.1 C.2.1 dX11_rules_26 rfl (lv_at hl 0 rfl) ?_
    refine lv_iload_n C.1 C.2.1 dX11_rules_27 rfl (lv_at hl 1 rfl) ?_
    exact hh.elim
def wpX11_rules_b19 (n_ : Nat) (f : Nat → Int32) (g : Nat → Nat → Int32) (x2 : Int32) (K : Int32 → ((Nat → Int32) × (Nat → Nat → Int32)) → Prop) : Prop := match n_ with
  | 0 => False
  | n + 1 => wpX11_rules_b19_body (fun f g x2 => wpX11_rules_b19 n f g x2 K) f g x2 K
theorem tX11_rules_b19 {K : Int32 → ((Nat → Int32) × (Nat → Nat → Int32)) → Prop} (C : CallFix p m c cX11_rules 4 s args wsX11_rules RX11) (hR : Rti .int p l e rmX11_rules s m args below meth c cX11_rules D A (mT cI cZ) (mWu o h cI cZ) K Q) (n : Nat) : ∀ (f : Nat → Int32) (g : Nat → Nat → Int32) (x2 : Int32) (H : Heap) (locs : List Loc) (ls : Array Slot), wpX11_rules_b19 n f g x2 K → Wd D A s (mT cI cZ) (mW o h cI cZ f g) H locs → lv_has ls 4 [(0, .ref o), (2, .int x2)] → W p l e rmX11_rules s m args below meth c H locs 0 0 Q (F0 m 19 ls []) := by
  induction n with
  | zero => intro f g x2 H locs ls hh; exact hh.elim
  | succ n ih => intro f g x2 H locs ls hh hw hl; exact tX11_rules_b19_body C hR ih hh hw hl
def wpX11_rules_b0 (f : Nat → Int32) (g : Nat → Nat → Int32) (x1 : Int32) (K : Int32 → ((Nat → Int32) × (Nat → Nat → Int32)) → Prop) : Prop :=
  wpX11_starts (upd f 2 (0 : Int32)) g x1 (0 : Int32) (fun r8 u8 =>
    (¬ (r8 = 0) →
    ∃ n, wpX11_rules_b19 n u8.1 u8.2 (0 : Int32) K) ∧
  ((r8 = 0) →
    K (-2 : Int32) (u8.1, u8.2)))
set_option maxHeartbeats 4000000 in
set_option maxRecDepth 100000 in
theorem tX11_rules_b0 {K : Int32 → ((Nat → Int32) × (Nat → Nat → Int32)) → Prop} (C : CallFix p m c cX11_rules 4 s args wsX11_rules RX11) (hR : Rti .int p l e rmX11_rules s m args below meth c cX11_rules D A (mT cI cZ) (mWu o h cI cZ) K Q) {f : Nat → Int32} {g : Nat → Nat → Int32} {x1 : Int32} (hh : wpX11_rules_b0 f g x1 K) {H : Heap} {locs : List Loc} {ls : Array Slot} (hw : Wd D A s (mT cI cZ) (mW o h cI cZ f g) H locs) (hl : lv_has ls 4 [(0, .ref o), (1, .int x1)]) : W p l e rmX11_rules s m args below meth c H locs 0 0 Q (F0 m 0 ls []) := by
  unfold wpX11_rules_b0 at hh
  refine lv_aload_n C.1 C.2.1 dX11_rules_0 rfl (lv_at hl 0 rfl) ?_
  refine lv_iconst (v := (0 : Int32)) C.1 C.2.1 dX11_rules_1 (by decide) ?_
  refine m_pi C hw (inC inW11) 2 (by decide) (wc w_1464) rfl (ty := .int) (by decide +kernel) rfl rfl (Nat.le_of_ble_eq_true rfl) ms_2 dX11_rules_2 (fun H locs hw => ?_)
  refine lv_aload_n C.1 C.2.1 dX11_rules_5 rfl (lv_at hl 0 rfl) ?_
  refine lv_iload_n C.1 C.2.1 dX11_rules_6 rfl (lv_at hl 1 rfl) ?_
  refine lv_iconst (v := (0 : Int32)) C.1 C.2.1 dX11_rules_7 (by decide) ?_
  refine m_Vi C hw (ctX11_starts l D o h cI cZ (upd f 2 (0 : Int32)) g x1 (0 : Int32) hh) (cwV 2 C.2.2.2.2 (gd_V w_1698 w_1700 w_56 w_125 w_1701) rfl rfl rfl cdX11_starts ⟨Nat.le_of_ble_eq_true rfl, Nat.le_of_ble_eq_true rfl⟩) rfl hl.1 (Nat.le_of_ble_eq_true rfl) dX11_rules_8 ⟨Nat.zero_le _, Nat.zero_le _⟩ (fun r8 u8 H locs hh hw => ?_) rfl
  refine lv_if_ne (tgt := 17) C.1 C.2.1 dX11_rules_11 (by decide) (fun c11 => ?_) (fun c11 => ?_)
  · replace hh := hh.1 c11
    refine lv_iconst (v := (0 : Int32)) C.1 C.2.1 dX11_rules_17 (by decide) ?_
    refine lv_istore_n (lv' := [(2, .int (0 : Int32)), (0, .ref o), (1, .int x1)]) C.1 C.2.1 dX11_rules_18 rfl hl (by decide) rfl (fun ls hl => ?_)
    obtain ⟨n, hh⟩ := hh
    exact tX11_rules_b19 C hR n _ _ _ _ _ _ hh hw (lv_sub hl [1, 0] rfl)
  · replace hh := hh.2 c11
    refine lv_bipush (v := (-2 : Int32)) C.1 C.2.1 dX11_rules_14 (by decide) ?_
    exact hR _ _ _ (u8.1, u8.2) _ _ dX11_rules_16 rfl hh hw
def wpX11_rules (f : Nat → Int32) (g : Nat → Nat → Int32) (x1 : Int32) (K : Int32 → ((Nat → Int32) × (Nat → Nat → Int32)) → Prop) : Prop := wpX11_rules_b0 f g x1 K
theorem ctX11_rules (l : Launch) (D : va_G) (o : Nat) (h : Nat → Nat) (cI cZ : ClassId) (f : Nat → Int32) (g : Nat → Nat → Int32) (x1 : Int32) {K : Int32 → ((Nat → Int32) × (Nat → Nat → Int32)) → Prop} (hh : wpX11_rules f g x1 K) : Ci l yX11_rules wsX11_rules rmX11_rules [.ref o, .int x1] D (mT cI cZ) (mWu o h cI cZ) (f, g) K := by
  refine Ci_of (cc := cX11_rules) (maxL := 4) (by decide) rfl (Nat.le_of_ble_eq_true rfl) ?_
  intro p e s m below meth c A Q C hw hR ls hl
  exact tX11_rules_b0 C hR hh hw hl
theorem cdX11_rules : yX11_rules.cls = RX11 ∧ yX11_rules.cls ≠ "java/lang/invoke/MethodHandle" ∧ yX11_rules.cls ≠ "java/lang/invoke/VarHandle" ∧ (parseMethodDescriptor yX11_rules.desc).map (fun d => d.parameters.length) = some 1 := by decide +kernel
abbrev rmX11_fault : Room := { frames := 0, cells := 0, slots := 0, locals := 0 }
def wpX11_fault_b29 (f : Nat → Int32) (g : Nat → Nat → Int32) (k0 : Int32) (K : Int32 → ((Nat → Int32) × (Nat → Nat → Int32)) → Prop) : Prop :=
  K k0 (f, g)
set_option maxHeartbeats 4000000 in
set_option maxRecDepth 100000 in
theorem tX11_fault_b29 {K : Int32 → ((Nat → Int32) × (Nat → Nat → Int32)) → Prop} (C : CallFix p m c cX11_fault 2 s args wsX11_fault RX11) (hR : Rti .int p l e rmX11_fault s m args below meth c cX11_fault D A (mT cI cZ) (mWu o h cI cZ) K Q) {f : Nat → Int32} {g : Nat → Nat → Int32} {k0 : Int32} (hh : wpX11_fault_b29 f g k0 K) {H : Heap} {locs : List Loc} {ls : Array Slot} (hw : Wd D A s (mT cI cZ) (mW o h cI cZ f g) H locs) (hl : lv_has ls 2 [(0, .ref o)]) : W p l e rmX11_fault s m args below meth c H locs 0 0 Q (F0 m 29 ls [.int k0]) := by
  unfold wpX11_fault_b29 at hh
  exact hR _ _ _ (f, g) _ _ dX11_fault_29 rfl hh hw
def wpX11_fault_b0 (f : Nat → Int32) (g : Nat → Nat → Int32) (x1 : Int32) (K : Int32 → ((Nat → Int32) × (Nat → Nat → Int32)) → Prop) : Prop :=
  (¬ (x1 = 0) →
    (¬ (x1 = (1 : Int32)) →
      wpX11_fault_b29 (upd f 2 (0 : Int32)) g (-1 : Int32) K) ∧
    ((x1 = (1 : Int32)) →
      wpX11_fault_b29 (upd f 2 (0 : Int32)) g (f 5) K)) ∧
  ((x1 = 0) →
    wpX11_fault_b29 (upd f 2 (0 : Int32)) g (f 4) K)
set_option maxHeartbeats 4000000 in
set_option maxRecDepth 100000 in
theorem tX11_fault_b0 {K : Int32 → ((Nat → Int32) × (Nat → Nat → Int32)) → Prop} (C : CallFix p m c cX11_fault 2 s args wsX11_fault RX11) (hR : Rti .int p l e rmX11_fault s m args below meth c cX11_fault D A (mT cI cZ) (mWu o h cI cZ) K Q) {f : Nat → Int32} {g : Nat → Nat → Int32} {x1 : Int32} (hh : wpX11_fault_b0 f g x1 K) {H : Heap} {locs : List Loc} {ls : Array Slot} (hw : Wd D A s (mT cI cZ) (mW o h cI cZ f g) H locs) (hl : lv_has ls 2 [(0, .ref o), (1, .int x1)]) : W p l e rmX11_fault s m args below meth c H locs 0 0 Q (F0 m 0 ls []) := by
  unfold wpX11_fault_b0 at hh
  refine lv_aload_n C.1 C.2.1 dX11_fault_0 rfl (lv_at hl 0 rfl) ?_
  refine lv_iconst (v := (0 : Int32)) C.1 C.2.1 dX11_fault_1 (by decide) ?_
  refine m_pi C hw (inC inW11) 2 (by decide) (wc w_1464) rfl (ty := .int) (by decide +kernel) rfl rfl (Nat.le_of_ble_eq_true rfl) ms_2 dX11_fault_2 (fun H locs hw => ?_)
  refine lv_iload_n C.1 C.2.1 dX11_fault_5 rfl (lv_at hl 1 rfl) ?_
  refine lv_if_ne (tgt := 16) C.1 C.2.1 dX11_fault_6 (by decide) (fun c6 => ?_) (fun c6 => ?_)
  · replace hh := hh.1 c6
    refine lv_iload_n C.1 C.2.1 dX11_fault_16 rfl (lv_at hl 1 rfl) ?_
    refine lv_iconst (v := (1 : Int32)) C.1 C.2.1 dX11_fault_17 (by decide) ?_
    refine lv_icmp_ne (tgt := 28) C.1 C.2.1 dX11_fault_18 (by decide) (fun c18 => ?_) (fun c18 => ?_)
    · replace hh := hh.1 c18
      refine lv_iconst (v := (-1 : Int32)) C.1 C.2.1 dX11_fault_28 (by decide) ?_
      exact tX11_fault_b29 C hR hh hw (lv_sub hl [0] rfl)
    · replace hh := hh.2 c18
      refine lv_aload_n C.1 C.2.1 dX11_fault_21 rfl (lv_at hl 0 rfl) ?_
      refine m_gi C hw (inC inW11) 5 (by decide) (wc w_1467) mg_5 (x := f 5) rfl dX11_fault_22 ?_
      refine lv_goto (tgt := 29) C.1 C.2.1 dX11_fault_25 (by decide) ?_
      exact tX11_fault_b29 C hR hh hw (lv_sub hl [0] rfl)
  · replace hh := hh.2 c6
    refine lv_aload_n C.1 C.2.1 dX11_fault_9 rfl (lv_at hl 0 rfl) ?_
    refine m_gi C hw (inC inW11) 4 (by decide) (wc w_1466) mg_4 (x := f 4) rfl dX11_fault_10 ?_
    refine lv_goto (tgt := 29) C.1 C.2.1 dX11_fault_13 (by decide) ?_
    exact tX11_fault_b29 C hR hh hw (lv_sub hl [0] rfl)
def wpX11_fault (f : Nat → Int32) (g : Nat → Nat → Int32) (x1 : Int32) (K : Int32 → ((Nat → Int32) × (Nat → Nat → Int32)) → Prop) : Prop := wpX11_fault_b0 f g x1 K
theorem ctX11_fault (l : Launch) (D : va_G) (o : Nat) (h : Nat → Nat) (cI cZ : ClassId) (f : Nat → Int32) (g : Nat → Nat → Int32) (x1 : Int32) {K : Int32 → ((Nat → Int32) × (Nat → Nat → Int32)) → Prop} (hh : wpX11_fault f g x1 K) : Ci l yX11_fault wsX11_fault rmX11_fault [.ref o, .int x1] D (mT cI cZ) (mWu o h cI cZ) (f, g) K := by
  refine Ci_of (cc := cX11_fault) (maxL := 2) (by decide) rfl (Nat.le_of_ble_eq_true rfl) ?_
  intro p e s m below meth c A Q C hw hR ls hl
  exact tX11_fault_b0 C hR hh hw hl
theorem cdX11_fault : yX11_fault.cls = RX11 ∧ yX11_fault.cls ≠ "java/lang/invoke/MethodHandle" ∧ yX11_fault.cls ≠ "java/lang/invoke/VarHandle" ∧ (parseMethodDescriptor yX11_fault.desc).map (fun d => d.parameters.length) = some 1 := by decide +kernel
abbrev rmX11_forgets : Room := { frames := 0, cells := 0, slots := 0, locals := 0 }
def wpX11_forgets_b0 (f : Nat → Int32) (g : Nat → Nat → Int32) (K : ((Nat → Int32) × (Nat → Nat → Int32)) → Prop) : Prop :=
  K (upd f 66 (0 : Int32), g)
set_option maxHeartbeats 4000000 in
set_option maxRecDepth 100000 in
theorem tX11_forgets_b0 {K : ((Nat → Int32) × (Nat → Nat → Int32)) → Prop} (C : CallFix p m c cX11_forgets 1 s args wsX11_forgets RX11) (hR : Rtv p l e rmX11_forgets s m args below meth c cX11_forgets D A (mT cI cZ) (mWu o h cI cZ) K Q) {f : Nat → Int32} {g : Nat → Nat → Int32} (hh : wpX11_forgets_b0 f g K) {H : Heap} {locs : List Loc} {ls : Array Slot} (hw : Wd D A s (mT cI cZ) (mW o h cI cZ f g) H locs) (hl : lv_has ls 1 [(0, .ref o)]) : W p l e rmX11_forgets s m args below meth c H locs 0 0 Q (F0 m 0 ls []) := by
  unfold wpX11_forgets_b0 at hh
  refine lv_aload_n C.1 C.2.1 dX11_forgets_0 rfl (lv_at hl 0 rfl) ?_
  refine lv_iconst (v := (0 : Int32)) C.1 C.2.1 dX11_forgets_1 (by decide) ?_
  refine m_pi C hw (inC inW11) 66 (by decide) (wc w_1528) rfl (ty := .boolean) (by decide +kernel) rfl rfl (Nat.le_of_ble_eq_true rfl) ms_66 dX11_forgets_2 (fun H locs hw => ?_)
  exact hR _ _ (upd f 66 (0 : Int32), g) _ _ dX11_forgets_5 hh hw
def wpX11_forgets (f : Nat → Int32) (g : Nat → Nat → Int32) (K : ((Nat → Int32) × (Nat → Nat → Int32)) → Prop) : Prop := wpX11_forgets_b0 f g K
theorem ctX11_forgets (l : Launch) (D : va_G) (o : Nat) (h : Nat → Nat) (cI cZ : ClassId) (f : Nat → Int32) (g : Nat → Nat → Int32) {K : ((Nat → Int32) × (Nat → Nat → Int32)) → Prop} (hh : wpX11_forgets f g K) : Cv l yX11_forgets wsX11_forgets rmX11_forgets [.ref o] D (mT cI cZ) (mWu o h cI cZ) (f, g) K := by
  refine Cv_of (cc := cX11_forgets) (maxL := 1) (by decide) rfl (Nat.le_of_ble_eq_true rfl) ?_
  intro p e s m below meth c A Q C hw hR ls hl
  exact tX11_forgets_b0 C hR hh hw hl
theorem cdX11_forgets : yX11_forgets.cls = RX11 ∧ yX11_forgets.cls ≠ "java/lang/invoke/MethodHandle" ∧ yX11_forgets.cls ≠ "java/lang/invoke/VarHandle" ∧ (parseMethodDescriptor yX11_forgets.desc).map (fun d => d.parameters.length) = some 0 := by decide +kernel
abbrev rmX11_net : Room := { frames := 2, cells := 0, slots := 0, locals := 43 }
def wpX11_net_b296_body (B296 : (Nat → Int32) → (Nat → Nat → Int32) → Int32 → Prop) (f : Nat → Int32) (g : Nat → Nat → Int32) (x2 : Int32) (K : Int32 → ((Nat → Int32) × (Nat → Nat → Int32)) → Prop) : Prop :=
  (((4 : Int32) ≤ x2) →
    K (f 20) (f, g)) ∧
  (¬ ((4 : Int32) ≤ x2) →
    vp_in x2 4 ∧ B296 f (pt g 56 (ix x2) (vp_nar .boolean (0 : Int32))) (x2 + (1 : Int32)))
set_option maxHeartbeats 4000000 in
set_option maxRecDepth 100000 in
theorem tX11_net_b296_body {B296 : (Nat → Int32) → (Nat → Nat → Int32) → Int32 → Prop} {K : Int32 → ((Nat → Int32) × (Nat → Nat → Int32)) → Prop} (C : CallFix p m c cX11_net 5 s args wsX11_net RX11) (hR : Rti .int p l e rmX11_net s m args below meth c cX11_net D A (mT cI cZ) (mWu o h cI cZ) K Q) (hB296 : ∀ (f : Nat → Int32) (g : Nat → Nat → Int32) (x2 : Int32) (H : Heap) (locs : List Loc) (ls : Array Slot), B296 f g x2 → Wd D A s (mT cI cZ) (mW o h cI cZ f g) H locs → lv_has ls 5 [(0, .ref o), (2, .int x2)] → W p l e rmX11_net s m args below meth c H locs 0 0 Q (F0 m 296 ls [])) {f : Nat → Int32} {g : Nat → Nat → Int32} {x2 : Int32} (hh : wpX11_net_b296_body B296 f g x2 K) {H : Heap} {locs : List Loc} {ls : Array Slot} (hw : Wd D A s (mT cI cZ) (mW o h cI cZ f g) H locs) (hl : lv_has ls 5 [(0, .ref o), (2, .int x2)]) : W p l e rmX11_net s m args below meth c H locs 0 0 Q (F0 m 296 ls []) := by
  unfold wpX11_net_b296_body at hh
  refine lv_iload_n C.1 C.2.1 dX11_net_296 rfl (lv_at hl 1 rfl) ?_
  refine lv_iconst (v := (4 : Int32)) C.1 C.2.1 dX11_net_297 (by decide) ?_
  refine lv_icmp_ge (tgt := 314) C.1 C.2.1 dX11_net_298 (by decide) (fun c298 => ?_) (fun c298 => ?_)
  · replace hh := hh.1 c298
    refine lv_aload_n C.1 C.2.1 dX11_net_314 rfl (lv_at hl 0 rfl) ?_
    refine m_gi C hw (inC inW11) 20 (by decide) (wc w_1482) mg_20 (x := f 20) rfl dX11_net_315 ?_
    exact hR _ _ _ (f, g) _ _ dX11_net_318 rfl hh hw
  · replace hh := hh.2 c298
    refine lv_aload_n C.1 C.2.1 dX11_net_301 rfl (lv_at hl 0 rfl) ?_
    refine m_ga C hw (inC inW11) 56 (by decide) (wc w_1518) mg_56 dX11_net_302 ?_
    refine lv_iload_n C.1 C.2.1 dX11_net_305 rfl (lv_at hl 1 rfl) ?_
    refine lv_iconst (v := (0 : Int32)) C.1 C.2.1 dX11_net_306 (by decide) ?_
    obtain ⟨hi307, hh⟩ := hh
    refine m_zas C hw mp_56 mq_56 hi307 dX11_net_307 (fun H locs hw => ?_)
    refine lv_iinc (v := x2 + (1 : Int32)) (lv' := [(2, .int (x2 + (1 : Int32))), (0, .ref o)]) C.1 C.2.1 dX11_net_308 hl (k := 1) rfl rfl (by decide) rfl (fun ls hl => ?_)
    refine lv_goto (tgt := 296) C.1 C.2.1 dX11_net_311 (by decide) ?_
    exact hB296 _ _ _ _ _ _ hh hw (lv_sub hl [1, 0] rfl)
def wpX11_net_b296 (n_ : Nat) (f : Nat → Int32) (g : Nat → Nat → Int32) (x2 : Int32) (K : Int32 → ((Nat → Int32) × (Nat → Nat → Int32)) → Prop) : Prop := match n_ with
  | 0 => False
  | n + 1 => wpX11_net_b296_body (fun f g x2 => wpX11_net_b296 n f g x2 K) f g x2 K
theorem tX11_net_b296 {K : Int32 → ((Nat → Int32) × (Nat → Nat → Int32)) → Prop} (C : CallFix p m c cX11_net 5 s args wsX11_net RX11) (hR : Rti .int p l e rmX11_net s m args below meth c cX11_net D A (mT cI cZ) (mWu o h cI cZ) K Q) (n : Nat) : ∀ (f : Nat → Int32) (g : Nat → Nat → Int32) (x2 : Int32) (H : Heap) (locs : List Loc) (ls : Array Slot), wpX11_net_b296 n f g x2 K → Wd D A s (mT cI cZ) (mW o h cI cZ f g) H locs → lv_has ls 5 [(0, .ref o), (2, .int x2)] → W p l e rmX11_net s m args below meth c H locs 0 0 Q (F0 m 296 ls []) := by
  induction n with
  | zero => intro f g x2 H locs ls hh; exact hh.elim
  | succ n ih => intro f g x2 H locs ls hh hw hl; exact tX11_net_b296_body C hR ih hh hw hl
def wpX11_net_b233_body (B233 : (Nat → Int32) → (Nat → Nat → Int32) → Int32 → Prop) (f : Nat → Int32) (g : Nat → Nat → Int32) (x2 : Int32) (K : Int32 → ((Nat → Int32) × (Nat → Nat → Int32)) → Prop) : Prop :=
  (((24 : Int32) ≤ x2) →
    wpX11_forgets (upd (upd (upd f 45 (0 : Int32)) 49 (0 : Int32)) 50 (0 : Int32)) g  (fun u291 =>
      ∃ n, wpX11_net_b296 n u291.1 u291.2 (0 : Int32) K)) ∧
  (¬ ((24 : Int32) ≤ x2) →
    vp_in ((24 : Int32) + x2) 48 ∧ vp_in x2 48 ∧ vp_in ((24 : Int32) + x2) 48 ∧ vp_in x2 48 ∧ B233 f (pt (pt g 25 (ix x2) (g 25 (ix ((24 : Int32) + x2)))) 26 (ix x2) (g 26 (ix ((24 : Int32) + x2)))) (x2 + (1 : Int32)))
set_option maxHeartbeats 4000000 in
set_option maxRecDepth 100000 in
theorem tX11_net_b233_body {B233 : (Nat → Int32) → (Nat → Nat → Int32) → Int32 → Prop} {K : Int32 → ((Nat → Int32) × (Nat → Nat → Int32)) → Prop} (C : CallFix p m c cX11_net 5 s args wsX11_net RX11) (hR : Rti .int p l e rmX11_net s m args below meth c cX11_net D A (mT cI cZ) (mWu o h cI cZ) K Q) (hB233 : ∀ (f : Nat → Int32) (g : Nat → Nat → Int32) (x2 : Int32) (H : Heap) (locs : List Loc) (ls : Array Slot), B233 f g x2 → Wd D A s (mT cI cZ) (mW o h cI cZ f g) H locs → lv_has ls 5 [(0, .ref o), (2, .int x2)] → W p l e rmX11_net s m args below meth c H locs 0 0 Q (F0 m 233 ls [])) {f : Nat → Int32} {g : Nat → Nat → Int32} {x2 : Int32} (hh : wpX11_net_b233_body B233 f g x2 K) {H : Heap} {locs : List Loc} {ls : Array Slot} (hw : Wd D A s (mT cI cZ) (mW o h cI cZ f g) H locs) (hl : lv_has ls 5 [(0, .ref o), (2, .int x2)]) : W p l e rmX11_net s m args below meth c H locs 0 0 Q (F0 m 233 ls []) := by
  unfold wpX11_net_b233_body at hh
  refine lv_iload_n C.1 C.2.1 dX11_net_233 rfl (lv_at hl 1 rfl) ?_
  refine lv_bipush (v := (24 : Int32)) C.1 C.2.1 dX11_net_234 (by decide) ?_
  refine lv_icmp_ge (tgt := 275) C.1 C.2.1 dX11_net_236 (by decide) (fun c236 => ?_) (fun c236 => ?_)
  · replace hh := hh.1 c236
    refine lv_aload_n C.1 C.2.1 dX11_net_275 rfl (lv_at hl 0 rfl) ?_
    refine lv_iconst (v := (0 : Int32)) C.1 C.2.1 dX11_net_276 (by decide) ?_
    refine m_pi C hw (inC inW11) 45 (by decide) (wc w_1507) rfl (ty := .int) (by decide +kernel) rfl rfl (Nat.le_of_ble_eq_true rfl) ms_45 dX11_net_277 (fun H locs hw => ?_)
    refine lv_aload_n C.1 C.2.1 dX11_net_280 rfl (lv_at hl 0 rfl) ?_
    refine lv_iconst (v := (0 : Int32)) C.1 C.2.1 dX11_net_281 (by decide) ?_
    refine m_pi C hw (inC inW11) 49 (by decide) (wc w_1511) rfl (ty := .int) (by decide +kernel) rfl rfl (Nat.le_of_ble_eq_true rfl) ms_49 dX11_net_282 (fun H locs hw => ?_)
    refine lv_aload_n C.1 C.2.1 dX11_net_285 rfl (lv_at hl 0 rfl) ?_
    refine lv_iconst (v := (0 : Int32)) C.1 C.2.1 dX11_net_286 (by decide) ?_
    refine m_pi C hw (inC inW11) 50 (by decide) (wc w_1512) rfl (ty := .int) (by decide +kernel) rfl rfl (Nat.le_of_ble_eq_true rfl) ms_50 dX11_net_287 (fun H locs hw => ?_)
    refine lv_aload_n C.1 C.2.1 dX11_net_290 rfl (lv_at hl 0 rfl) ?_
    refine m_Vv C hw (ctX11_forgets l D o h cI cZ (upd (upd (upd f 45 (0 : Int32)) 49 (0 : Int32)) 50 (0 : Int32)) g  hh) (cwV 0 C.2.2.2.2 (gd_V w_1458 w_1460 w_55 w_125 w_1461) rfl rfl rfl cdX11_forgets ⟨Nat.le_of_ble_eq_true rfl, Nat.le_of_ble_eq_true rfl⟩) rfl hl.1 (Nat.le_of_ble_eq_true rfl) dX11_net_291 ⟨Nat.zero_le _, Nat.zero_le _⟩ (fun u291 H locs hh hw => ?_) rfl
    refine lv_iconst (v := (0 : Int32)) C.1 C.2.1 dX11_net_294 (by decide) ?_
    refine lv_istore_n (lv' := [(2, .int (0 : Int32)), (0, .ref o)]) C.1 C.2.1 dX11_net_295 rfl hl (by decide) rfl (fun ls hl => ?_)
    obtain ⟨n, hh⟩ := hh
    exact tX11_net_b296 C hR n _ _ _ _ _ _ hh hw (lv_sub hl [1, 0] rfl)
  · replace hh := hh.2 c236
    refine lv_aload_n C.1 C.2.1 dX11_net_239 rfl (lv_at hl 0 rfl) ?_
    refine m_ga C hw (inC inW11) 25 (by decide) (wc w_1487) mg_25 dX11_net_240 ?_
    refine lv_iload_n C.1 C.2.1 dX11_net_243 rfl (lv_at hl 1 rfl) ?_
    refine lv_aload_n C.1 C.2.1 dX11_net_244 rfl (lv_at hl 0 rfl) ?_
    refine m_ga C hw (inC inW11) 25 (by decide) (wc w_1487) mg_25 dX11_net_245 ?_
    refine lv_bipush (v := (24 : Int32)) C.1 C.2.1 dX11_net_248 (by decide) ?_
    refine lv_iload_n C.1 C.2.1 dX11_net_250 rfl (lv_at hl 1 rfl) ?_
    refine lv_iadd C.1 C.2.1 dX11_net_251 ?_
    obtain ⟨hi252, hh⟩ := hh
    refine m_ial C hw mp_25 (x := g 25 (ix ((24 : Int32) + x2))) hi252 rfl dX11_net_252 ?_
    obtain ⟨hi253, hh⟩ := hh
    refine m_ias C hw mp_25 mq_25 hi253 dX11_net_253 (fun H locs hw => ?_)
    refine lv_aload_n C.1 C.2.1 dX11_net_254 rfl (lv_at hl 0 rfl) ?_
    refine m_ga C hw (inC inW11) 26 (by decide) (wc w_1488) mg_26 dX11_net_255 ?_
    refine lv_iload_n C.1 C.2.1 dX11_net_258 rfl (lv_at hl 1 rfl) ?_
    refine lv_aload_n C.1 C.2.1 dX11_net_259 rfl (lv_at hl 0 rfl) ?_
    refine m_ga C hw (inC inW11) 26 (by decide) (wc w_1488) mg_26 dX11_net_260 ?_
    refine lv_bipush (v := (24 : Int32)) C.1 C.2.1 dX11_net_263 (by decide) ?_
    refine lv_iload_n C.1 C.2.1 dX11_net_265 rfl (lv_at hl 1 rfl) ?_
    refine lv_iadd C.1 C.2.1 dX11_net_266 ?_
    obtain ⟨hi267, hh⟩ := hh
    refine m_ial C hw mp_26 (x := g 26 (ix ((24 : Int32) + x2))) hi267 rfl dX11_net_267 ?_
    obtain ⟨hi268, hh⟩ := hh
    refine m_ias C hw mp_26 mq_26 hi268 dX11_net_268 (fun H locs hw => ?_)
    refine lv_iinc (v := x2 + (1 : Int32)) (lv' := [(2, .int (x2 + (1 : Int32))), (0, .ref o)]) C.1 C.2.1 dX11_net_269 hl (k := 1) rfl rfl (by decide) rfl (fun ls hl => ?_)
    refine lv_goto (tgt := 233) C.1 C.2.1 dX11_net_272 (by decide) ?_
    exact hB233 _ _ _ _ _ _ hh hw (lv_sub hl [1, 0] rfl)
def wpX11_net_b233 (n_ : Nat) (f : Nat → Int32) (g : Nat → Nat → Int32) (x2 : Int32) (K : Int32 → ((Nat → Int32) × (Nat → Nat → Int32)) → Prop) : Prop := match n_ with
  | 0 => False
  | n + 1 => wpX11_net_b233_body (fun f g x2 => wpX11_net_b233 n f g x2 K) f g x2 K
theorem tX11_net_b233 {K : Int32 → ((Nat → Int32) × (Nat → Nat → Int32)) → Prop} (C : CallFix p m c cX11_net 5 s args wsX11_net RX11) (hR : Rti .int p l e rmX11_net s m args below meth c cX11_net D A (mT cI cZ) (mWu o h cI cZ) K Q) (n : Nat) : ∀ (f : Nat → Int32) (g : Nat → Nat → Int32) (x2 : Int32) (H : Heap) (locs : List Loc) (ls : Array Slot), wpX11_net_b233 n f g x2 K → Wd D A s (mT cI cZ) (mW o h cI cZ f g) H locs → lv_has ls 5 [(0, .ref o), (2, .int x2)] → W p l e rmX11_net s m args below meth c H locs 0 0 Q (F0 m 233 ls []) := by
  induction n with
  | zero => intro f g x2 H locs ls hh; exact hh.elim
  | succ n ih => intro f g x2 H locs ls hh hw hl; exact tX11_net_b233_body C hR ih hh hw hl
def wpX11_net_b174_body (B174 : (Nat → Int32) → (Nat → Nat → Int32) → Int32 → Prop) (f : Nat → Int32) (g : Nat → Nat → Int32) (x2 : Int32) (K : Int32 → ((Nat → Int32) × (Nat → Nat → Int32)) → Prop) : Prop :=
  (((64 : Int32) ≤ x2) →
    ∃ n, wpX11_net_b233 n f g (0 : Int32) K) ∧
  (¬ ((64 : Int32) ≤ x2) →
    vp_in ((64 : Int32) + x2) 128 ∧ vp_in x2 128 ∧ vp_in ((64 : Int32) + x2) 128 ∧ vp_in x2 128 ∧ vp_in ((64 : Int32) + x2) 128 ∧ vp_in x2 128 ∧ B174 f (pt (pt (pt g 27 (ix x2) (g 27 (ix ((64 : Int32) + x2)))) 28 (ix x2) (g 28 (ix ((64 : Int32) + x2)))) 29 (ix x2) (g 29 (ix ((64 : Int32) + x2)))) (x2 + (1 : Int32)))
set_option maxHeartbeats 4000000 in
set_option maxRecDepth 100000 in
theorem tX11_net_b174_body {B174 : (Nat → Int32) → (Nat → Nat → Int32) → Int32 → Prop} {K : Int32 → ((Nat → Int32) × (Nat → Nat → Int32)) → Prop} (C : CallFix p m c cX11_net 5 s args wsX11_net RX11) (hR : Rti .int p l e rmX11_net s m args below meth c cX11_net D A (mT cI cZ) (mWu o h cI cZ) K Q) (hB174 : ∀ (f : Nat → Int32) (g : Nat → Nat → Int32) (x2 : Int32) (H : Heap) (locs : List Loc) (ls : Array Slot), B174 f g x2 → Wd D A s (mT cI cZ) (mW o h cI cZ f g) H locs → lv_has ls 5 [(0, .ref o), (2, .int x2)] → W p l e rmX11_net s m args below meth c H locs 0 0 Q (F0 m 174 ls [])) {f : Nat → Int32} {g : Nat → Nat → Int32} {x2 : Int32} (hh : wpX11_net_b174_body B174 f g x2 K) {H : Heap} {locs : List Loc} {ls : Array Slot} (hw : Wd D A s (mT cI cZ) (mW o h cI cZ f g) H locs) (hl : lv_has ls 5 [(0, .ref o), (2, .int x2)]) : W p l e rmX11_net s m args below meth c H locs 0 0 Q (F0 m 174 ls []) := by
  unfold wpX11_net_b174_body at hh
  refine lv_iload_n C.1 C.2.1 dX11_net_174 rfl (lv_at hl 1 rfl) ?_
  refine lv_bipush (v := (64 : Int32)) C.1 C.2.1 dX11_net_175 (by decide) ?_
  refine lv_icmp_ge (tgt := 231) C.1 C.2.1 dX11_net_177 (by decide) (fun c177 => ?_) (fun c177 => ?_)
  · replace hh := hh.1 c177
    refine lv_iconst (v := (0 : Int32)) C.1 C.2.1 dX11_net_231 (by decide) ?_
    refine lv_istore_n (lv' := [(2, .int (0 : Int32)), (0, .ref o)]) C.1 C.2.1 dX11_net_232 rfl hl (by decide) rfl (fun ls hl => ?_)
    obtain ⟨n, hh⟩ := hh
    exact tX11_net_b233 C hR n _ _ _ _ _ _ hh hw (lv_sub hl [1, 0] rfl)
  · replace hh := hh.2 c177
    refine lv_aload_n C.1 C.2.1 dX11_net_180 rfl (lv_at hl 0 rfl) ?_
    refine m_ga C hw (inC inW11) 27 (by decide) (wc w_1489) mg_27 dX11_net_181 ?_
    refine lv_iload_n C.1 C.2.1 dX11_net_184 rfl (lv_at hl 1 rfl) ?_
    refine lv_aload_n C.1 C.2.1 dX11_net_185 rfl (lv_at hl 0 rfl) ?_
    refine m_ga C hw (inC inW11) 27 (by decide) (wc w_1489) mg_27 dX11_net_186 ?_
    refine lv_bipush (v := (64 : Int32)) C.1 C.2.1 dX11_net_189 (by decide) ?_
    refine lv_iload_n C.1 C.2.1 dX11_net_191 rfl (lv_at hl 1 rfl) ?_
    refine lv_iadd C.1 C.2.1 dX11_net_192 ?_
    obtain ⟨hi193, hh⟩ := hh
    refine m_ial C hw mp_27 (x := g 27 (ix ((64 : Int32) + x2))) hi193 rfl dX11_net_193 ?_
    obtain ⟨hi194, hh⟩ := hh
    refine m_ias C hw mp_27 mq_27 hi194 dX11_net_194 (fun H locs hw => ?_)
    refine lv_aload_n C.1 C.2.1 dX11_net_195 rfl (lv_at hl 0 rfl) ?_
    refine m_ga C hw (inC inW11) 28 (by decide) (wc w_1490) mg_28 dX11_net_196 ?_
    refine lv_iload_n C.1 C.2.1 dX11_net_199 rfl (lv_at hl 1 rfl) ?_
    refine lv_aload_n C.1 C.2.1 dX11_net_200 rfl (lv_at hl 0 rfl) ?_
    refine m_ga C hw (inC inW11) 28 (by decide) (wc w_1490) mg_28 dX11_net_201 ?_
    refine lv_bipush (v := (64 : Int32)) C.1 C.2.1 dX11_net_204 (by decide) ?_
    refine lv_iload_n C.1 C.2.1 dX11_net_206 rfl (lv_at hl 1 rfl) ?_
    refine lv_iadd C.1 C.2.1 dX11_net_207 ?_
    obtain ⟨hi208, hh⟩ := hh
    refine m_ial C hw mp_28 (x := g 28 (ix ((64 : Int32) + x2))) hi208 rfl dX11_net_208 ?_
    obtain ⟨hi209, hh⟩ := hh
    refine m_ias C hw mp_28 mq_28 hi209 dX11_net_209 (fun H locs hw => ?_)
    refine lv_aload_n C.1 C.2.1 dX11_net_210 rfl (lv_at hl 0 rfl) ?_
    refine m_ga C hw (inC inW11) 29 (by decide) (wc w_1491) mg_29 dX11_net_211 ?_
    refine lv_iload_n C.1 C.2.1 dX11_net_214 rfl (lv_at hl 1 rfl) ?_
    refine lv_aload_n C.1 C.2.1 dX11_net_215 rfl (lv_at hl 0 rfl) ?_
    refine m_ga C hw (inC inW11) 29 (by decide) (wc w_1491) mg_29 dX11_net_216 ?_
    refine lv_bipush (v := (64 : Int32)) C.1 C.2.1 dX11_net_219 (by decide) ?_
    refine lv_iload_n C.1 C.2.1 dX11_net_221 rfl (lv_at hl 1 rfl) ?_
    refine lv_iadd C.1 C.2.1 dX11_net_222 ?_
    obtain ⟨hi223, hh⟩ := hh
    refine m_ial C hw mp_29 (x := g 29 (ix ((64 : Int32) + x2))) hi223 rfl dX11_net_223 ?_
    obtain ⟨hi224, hh⟩ := hh
    refine m_ias C hw mp_29 mq_29 hi224 dX11_net_224 (fun H locs hw => ?_)
    refine lv_iinc (v := x2 + (1 : Int32)) (lv' := [(2, .int (x2 + (1 : Int32))), (0, .ref o)]) C.1 C.2.1 dX11_net_225 hl (k := 1) rfl rfl (by decide) rfl (fun ls hl => ?_)
    refine lv_goto (tgt := 174) C.1 C.2.1 dX11_net_228 (by decide) ?_
    exact hB174 _ _ _ _ _ _ hh hw (lv_sub hl [1, 0] rfl)
def wpX11_net_b174 (n_ : Nat) (f : Nat → Int32) (g : Nat → Nat → Int32) (x2 : Int32) (K : Int32 → ((Nat → Int32) × (Nat → Nat → Int32)) → Prop) : Prop := match n_ with
  | 0 => False
  | n + 1 => wpX11_net_b174_body (fun f g x2 => wpX11_net_b174 n f g x2 K) f g x2 K
theorem tX11_net_b174 {K : Int32 → ((Nat → Int32) × (Nat → Nat → Int32)) → Prop} (C : CallFix p m c cX11_net 5 s args wsX11_net RX11) (hR : Rti .int p l e rmX11_net s m args below meth c cX11_net D A (mT cI cZ) (mWu o h cI cZ) K Q) (n : Nat) : ∀ (f : Nat → Int32) (g : Nat → Nat → Int32) (x2 : Int32) (H : Heap) (locs : List Loc) (ls : Array Slot), wpX11_net_b174 n f g x2 K → Wd D A s (mT cI cZ) (mW o h cI cZ f g) H locs → lv_has ls 5 [(0, .ref o), (2, .int x2)] → W p l e rmX11_net s m args below meth c H locs 0 0 Q (F0 m 174 ls []) := by
  induction n with
  | zero => intro f g x2 H locs ls hh; exact hh.elim
  | succ n ih => intro f g x2 H locs ls hh hw hl; exact tX11_net_b174_body C hR ih hh hw hl
def wpX11_net_b150 (B85 : (Nat → Int32) → (Nat → Nat → Int32) → Int32 → Prop) (f : Nat → Int32) (g : Nat → Nat → Int32) (x2 : Int32) (K : Int32 → ((Nat → Int32) × (Nat → Nat → Int32)) → Prop) : Prop :=
  B85 f g (x2 + (1 : Int32))
set_option maxHeartbeats 4000000 in
set_option maxRecDepth 100000 in
theorem tX11_net_b150 {B85 : (Nat → Int32) → (Nat → Nat → Int32) → Int32 → Prop} {K : Int32 → ((Nat → Int32) × (Nat → Nat → Int32)) → Prop} (C : CallFix p m c cX11_net 5 s args wsX11_net RX11) (hR : Rti .int p l e rmX11_net s m args below meth c cX11_net D A (mT cI cZ) (mWu o h cI cZ) K Q) (hB85 : ∀ (f : Nat → Int32) (g : Nat → Nat → Int32) (x2 : Int32) (H : Heap) (locs : List Loc) (ls : Array Slot), B85 f g x2 → Wd D A s (mT cI cZ) (mW o h cI cZ f g) H locs → lv_has ls 5 [(0, .ref o), (2, .int x2)] → W p l e rmX11_net s m args below meth c H locs 0 0 Q (F0 m 85 ls [])) {f : Nat → Int32} {g : Nat → Nat → Int32} {x2 : Int32} (hh : wpX11_net_b150 B85 f g x2 K) {H : Heap} {locs : List Loc} {ls : Array Slot} (hw : Wd D A s (mT cI cZ) (mW o h cI cZ f g) H locs) (hl : lv_has ls 5 [(0, .ref o), (2, .int x2)]) : W p l e rmX11_net s m args below meth c H locs 0 0 Q (F0 m 150 ls []) := by
  unfold wpX11_net_b150 at hh
  refine lv_iinc (v := x2 + (1 : Int32)) (lv' := [(2, .int (x2 + (1 : Int32))), (0, .ref o)]) C.1 C.2.1 dX11_net_150 hl (k := 1) rfl rfl (by decide) rfl (fun ls hl => ?_)
  refine lv_goto (tgt := 85) C.1 C.2.1 dX11_net_153 (by decide) ?_
  exact hB85 _ _ _ _ _ _ hh hw (lv_sub hl [1, 0] rfl)
def wpX11_net_b85_body (B85 : (Nat → Int32) → (Nat → Nat → Int32) → Int32 → Prop) (f : Nat → Int32) (g : Nat → Nat → Int32) (x2 : Int32) (K : Int32 → ((Nat → Int32) × (Nat → Nat → Int32)) → Prop) : Prop :=
  ((((64 : Int32) + (f 23)) ≤ x2) →
    ∃ n, wpX11_net_b174 n (upd (upd f 20 (f 21)) 22 (f 23)) g (0 : Int32) K) ∧
  (¬ (((64 : Int32) + (f 23)) ≤ x2) →
    vp_in x2 128 ∧ (((g 27 (ix x2)) = (4 : Int32)) →
      vp_in x2 128 ∧ False) ∧
    (¬ ((g 27 (ix x2)) = (4 : Int32)) →
      wpX11_net_b150 B85 f g x2 K))
set_option maxHeartbeats 4000000 in
set_option maxRecDepth 100000 in
theorem tX11_net_b85_body {B85 : (Nat → Int32) → (Nat → Nat → Int32) → Int32 → Prop} {K : Int32 → ((Nat → Int32) × (Nat → Nat → Int32)) → Prop} (C : CallFix p m c cX11_net 5 s args wsX11_net RX11) (hR : Rti .int p l e rmX11_net s m args below meth c cX11_net D A (mT cI cZ) (mWu o h cI cZ) K Q) (hB85 : ∀ (f : Nat → Int32) (g : Nat → Nat → Int32) (x2 : Int32) (H : Heap) (locs : List Loc) (ls : Array Slot), B85 f g x2 → Wd D A s (mT cI cZ) (mW o h cI cZ f g) H locs → lv_has ls 5 [(0, .ref o), (2, .int x2)] → W p l e rmX11_net s m args below meth c H locs 0 0 Q (F0 m 85 ls [])) {f : Nat → Int32} {g : Nat → Nat → Int32} {x2 : Int32} (hh : wpX11_net_b85_body B85 f g x2 K) {H : Heap} {locs : List Loc} {ls : Array Slot} (hw : Wd D A s (mT cI cZ) (mW o h cI cZ f g) H locs) (hl : lv_has ls 5 [(0, .ref o), (2, .int x2)]) : W p l e rmX11_net s m args below meth c H locs 0 0 Q (F0 m 85 ls []) := by
  unfold wpX11_net_b85_body at hh
  refine lv_iload_n C.1 C.2.1 dX11_net_85 rfl (lv_at hl 1 rfl) ?_
  refine lv_bipush (v := (64 : Int32)) C.1 C.2.1 dX11_net_86 (by decide) ?_
  refine lv_aload_n C.1 C.2.1 dX11_net_88 rfl (lv_at hl 0 rfl) ?_
  refine m_gi C hw (inC inW11) 23 (by decide) (wc w_1485) mg_23 (x := f 23) rfl dX11_net_89 ?_
  refine lv_iadd C.1 C.2.1 dX11_net_92 ?_
  refine lv_icmp_ge (tgt := 156) C.1 C.2.1 dX11_net_93 (by decide) (fun c93 => ?_) (fun c93 => ?_)
  · replace hh := hh.1 c93
    refine lv_aload_n C.1 C.2.1 dX11_net_156 rfl (lv_at hl 0 rfl) ?_
    refine lv_aload_n C.1 C.2.1 dX11_net_157 rfl (lv_at hl 0 rfl) ?_
    refine m_gi C hw (inC inW11) 21 (by decide) (wc w_1483) mg_21 (x := f 21) rfl dX11_net_158 ?_
    refine m_pi C hw (inC inW11) 20 (by decide) (wc w_1482) rfl (ty := .int) (by decide +kernel) rfl rfl (Nat.le_of_ble_eq_true rfl) ms_20 dX11_net_161 (fun H locs hw => ?_)
    refine lv_aload_n C.1 C.2.1 dX11_net_164 rfl (lv_at hl 0 rfl) ?_
    refine lv_aload_n C.1 C.2.1 dX11_net_165 rfl (lv_at hl 0 rfl) ?_
    refine m_gi C hw (inC inW11) 23 (by decide) (wc w_1485) mg_23 (x := f 23) rfl dX11_net_166 ?_
    refine m_pi C hw (inC inW11) 22 (by decide) (wc w_1484) rfl (ty := .int) (by decide +kernel) rfl rfl (Nat.le_of_ble_eq_true rfl) ms_22 dX11_net_169 (fun H locs hw => ?_)
    refine lv_iconst (v := (0 : Int32)) C.1 C.2.1 dX11_net_172 (by decide) ?_
    refine lv_istore_n (lv' := [(2, .int (0 : Int32)), (0, .ref o)]) C.1 C.2.1 dX11_net_173 rfl hl (by decide) rfl (fun ls hl => ?_)
    obtain ⟨n, hh⟩ := hh
    exact tX11_net_b174 C hR n _ _ _ _ _ _ hh hw (lv_sub hl [1, 0] rfl)
  · replace hh := hh.2 c93
    refine lv_aload_n C.1 C.2.1 dX11_net_96 rfl (lv_at hl 0 rfl) ?_
    refine m_ga C hw (inC inW11) 27 (by decide) (wc w_1489) mg_27 dX11_net_97 ?_
    refine lv_iload_n C.1 C.2.1 dX11_net_100 rfl (lv_at hl 1 rfl) ?_
    obtain ⟨hi101, hh⟩ := hh
    refine m_ial C hw mp_27 (x := g 27 (ix x2)) hi101 rfl dX11_net_101 ?_
    refine lv_iconst (v := (4 : Int32)) C.1 C.2.1 dX11_net_102 (by decide) ?_
    refine lv_icmp_eq (tgt := 109) C.1 C.2.1 dX11_net_103 (by decide) (fun c103 => ?_) (fun c103 => ?_)
    · replace hh := hh.1 c103
      refine lv_aload_n C.1 C.2.1 dX11_net_109 rfl (lv_at hl 0 rfl) ?_
      refine lv_aload_n C.1 C.2.1 dX11_net_110 rfl (lv_at hl 0 rfl) ?_
      refine m_ga C hw (inC inW11) 28 (by decide) (wc w_1490) mg_28 dX11_net_111 ?_
      refine lv_iload_n C.1 C.2.1 dX11_net_114 rfl (lv_at hl 1 rfl) ?_
      obtain ⟨hi115, hh⟩ := hh
      refine m_ial C hw mp_28 (x := g 28 (ix x2)) hi115 rfl dX11_net_115 ?_
      exact hh.elim
    · replace hh := hh.2 c103
      refine lv_goto (tgt := 150) C.1 C.2.1 dX11_net_106 (by decide) ?_
      exact tX11_net_b150 C hR hB85 hh hw hl
def wpX11_net_b85 (n_ : Nat) (f : Nat → Int32) (g : Nat → Nat → Int32) (x2 : Int32) (K : Int32 → ((Nat → Int32) × (Nat → Nat → Int32)) → Prop) : Prop := match n_ with
  | 0 => False
  | n + 1 => wpX11_net_b85_body (fun f g x2 => wpX11_net_b85 n f g x2 K) f g x2 K
theorem tX11_net_b85 {K : Int32 → ((Nat → Int32) × (Nat → Nat → Int32)) → Prop} (C : CallFix p m c cX11_net 5 s args wsX11_net RX11) (hR : Rti .int p l e rmX11_net s m args below meth c cX11_net D A (mT cI cZ) (mWu o h cI cZ) K Q) (n : Nat) : ∀ (f : Nat → Int32) (g : Nat → Nat → Int32) (x2 : Int32) (H : Heap) (locs : List Loc) (ls : Array Slot), wpX11_net_b85 n f g x2 K → Wd D A s (mT cI cZ) (mW o h cI cZ f g) H locs → lv_has ls 5 [(0, .ref o), (2, .int x2)] → W p l e rmX11_net s m args below meth c H locs 0 0 Q (F0 m 85 ls []) := by
  induction n with
  | zero => intro f g x2 H locs ls hh; exact hh.elim
  | succ n ih => intro f g x2 H locs ls hh hw hl; exact tX11_net_b85_body C hR ih hh hw hl
def wpX11_net_b66_body (B66 : (Nat → Int32) → (Nat → Nat → Int32) → Prop) (f : Nat → Int32) (g : Nat → Nat → Int32) (K : Int32 → ((Nat → Int32) × (Nat → Nat → Int32)) → Prop) : Prop :=
  (((f 8) = 0) →
    ∃ n, wpX11_net_b85 n f g (64 : Int32) K) ∧
  (¬ ((f 8) = 0) →
    False)
set_option maxHeartbeats 4000000 in
set_option maxRecDepth 100000 in
theorem tX11_net_b66_body {B66 : (Nat → Int32) → (Nat → Nat → Int32) → Prop} {K : Int32 → ((Nat → Int32) × (Nat → Nat → Int32)) → Prop} (C : CallFix p m c cX11_net 5 s args wsX11_net RX11) (hR : Rti .int p l e rmX11_net s m args below meth c cX11_net D A (mT cI cZ) (mWu o h cI cZ) K Q) (hB66 : ∀ (f : Nat → Int32) (g : Nat → Nat → Int32) (H : Heap) (locs : List Loc) (ls : Array Slot), B66 f g → Wd D A s (mT cI cZ) (mW o h cI cZ f g) H locs → lv_has ls 5 [(0, .ref o)] → W p l e rmX11_net s m args below meth c H locs 0 0 Q (F0 m 66 ls [])) {f : Nat → Int32} {g : Nat → Nat → Int32} (hh : wpX11_net_b66_body B66 f g K) {H : Heap} {locs : List Loc} {ls : Array Slot} (hw : Wd D A s (mT cI cZ) (mW o h cI cZ f g) H locs) (hl : lv_has ls 5 [(0, .ref o)]) : W p l e rmX11_net s m args below meth c H locs 0 0 Q (F0 m 66 ls []) := by
  unfold wpX11_net_b66_body at hh
  refine lv_aload_n C.1 C.2.1 dX11_net_66 rfl (lv_at hl 0 rfl) ?_
  refine m_gi C hw (inC inW11) 8 (by decide) (wc w_1470) mg_8 (x := f 8) rfl dX11_net_67 ?_
  refine lv_if_eq (tgt := 82) C.1 C.2.1 dX11_net_70 (by decide) (fun c70 => ?_) (fun c70 => ?_)
  · replace hh := hh.1 c70
    refine lv_bipush (v := (64 : Int32)) C.1 C.2.1 dX11_net_82 (by decide) ?_
    refine lv_istore_n (lv' := [(2, .int (64 : Int32)), (0, .ref o)]) C.1 C.2.1 dX11_net_84 rfl hl (by decide) rfl (fun ls hl => ?_)
    obtain ⟨n, hh⟩ := hh
    exact tX11_net_b85 C hR n _ _ _ _ _ _ hh hw (lv_sub hl [1, 0] rfl)
  · replace hh := hh.2 c70
    refine lv_aload_n C.1 C.2.1 dX11_net_73 rfl (lv_at hl 0 rfl) ?_
    exact hh.elim
def wpX11_net_b66 (n_ : Nat) (f : Nat → Int32) (g : Nat → Nat → Int32) (K : Int32 → ((Nat → Int32) × (Nat → Nat → Int32)) → Prop) : Prop := match n_ with
  | 0 => False
  | n + 1 => wpX11_net_b66_body (fun f g => wpX11_net_b66 n f g K) f g K
theorem tX11_net_b66 {K : Int32 → ((Nat → Int32) × (Nat → Nat → Int32)) → Prop} (C : CallFix p m c cX11_net 5 s args wsX11_net RX11) (hR : Rti .int p l e rmX11_net s m args below meth c cX11_net D A (mT cI cZ) (mWu o h cI cZ) K Q) (n : Nat) : ∀ (f : Nat → Int32) (g : Nat → Nat → Int32) (H : Heap) (locs : List Loc) (ls : Array Slot), wpX11_net_b66 n f g K → Wd D A s (mT cI cZ) (mW o h cI cZ f g) H locs → lv_has ls 5 [(0, .ref o)] → W p l e rmX11_net s m args below meth c H locs 0 0 Q (F0 m 66 ls []) := by
  induction n with
  | zero => intro f g H locs ls hh; exact hh.elim
  | succ n ih => intro f g H locs ls hh hw hl; exact tX11_net_b66_body C hR ih hh hw hl
def wpX11_net_b34_body (B34 : (Nat → Int32) → (Nat → Nat → Int32) → Int32 → Prop) (f : Nat → Int32) (g : Nat → Nat → Int32) (x2 : Int32) (K : Int32 → ((Nat → Int32) × (Nat → Nat → Int32)) → Prop) : Prop :=
  (((24 : Int32) ≤ x2) →
    ∃ n, wpX11_net_b66 n f g K) ∧
  (¬ ((24 : Int32) ≤ x2) →
    vp_in ((24 : Int32) + x2) 48 ∧ vp_in ((24 : Int32) + x2) 48 ∧ B34 f (pt (pt g 25 (ix ((24 : Int32) + x2)) (0 : Int32)) 26 (ix ((24 : Int32) + x2)) (0 : Int32)) (x2 + (1 : Int32)))
set_option maxHeartbeats 4000000 in
set_option maxRecDepth 100000 in
theorem tX11_net_b34_body {B34 : (Nat → Int32) → (Nat → Nat → Int32) → Int32 → Prop} {K : Int32 → ((Nat → Int32) × (Nat → Nat → Int32)) → Prop} (C : CallFix p m c cX11_net 5 s args wsX11_net RX11) (hR : Rti .int p l e rmX11_net s m args below meth c cX11_net D A (mT cI cZ) (mWu o h cI cZ) K Q) (hB34 : ∀ (f : Nat → Int32) (g : Nat → Nat → Int32) (x2 : Int32) (H : Heap) (locs : List Loc) (ls : Array Slot), B34 f g x2 → Wd D A s (mT cI cZ) (mW o h cI cZ f g) H locs → lv_has ls 5 [(0, .ref o), (2, .int x2)] → W p l e rmX11_net s m args below meth c H locs 0 0 Q (F0 m 34 ls [])) {f : Nat → Int32} {g : Nat → Nat → Int32} {x2 : Int32} (hh : wpX11_net_b34_body B34 f g x2 K) {H : Heap} {locs : List Loc} {ls : Array Slot} (hw : Wd D A s (mT cI cZ) (mW o h cI cZ f g) H locs) (hl : lv_has ls 5 [(0, .ref o), (2, .int x2)]) : W p l e rmX11_net s m args below meth c H locs 0 0 Q (F0 m 34 ls []) := by
  unfold wpX11_net_b34_body at hh
  refine lv_iload_n C.1 C.2.1 dX11_net_34 rfl (lv_at hl 1 rfl) ?_
  refine lv_bipush (v := (24 : Int32)) C.1 C.2.1 dX11_net_35 (by decide) ?_
  refine lv_icmp_ge (tgt := 66) C.1 C.2.1 dX11_net_37 (by decide) (fun c37 => ?_) (fun c37 => ?_)
  · replace hh := hh.1 c37
    obtain ⟨n, hh⟩ := hh
    exact tX11_net_b66 C hR n _ _ _ _ _ hh hw (lv_sub hl [0] rfl)
  · replace hh := hh.2 c37
    refine lv_aload_n C.1 C.2.1 dX11_net_40 rfl (lv_at hl 0 rfl) ?_
    refine m_ga C hw (inC inW11) 25 (by decide) (wc w_1487) mg_25 dX11_net_41 ?_
    refine lv_bipush (v := (24 : Int32)) C.1 C.2.1 dX11_net_44 (by decide) ?_
    refine lv_iload_n C.1 C.2.1 dX11_net_46 rfl (lv_at hl 1 rfl) ?_
    refine lv_iadd C.1 C.2.1 dX11_net_47 ?_
    refine lv_iconst (v := (0 : Int32)) C.1 C.2.1 dX11_net_48 (by decide) ?_
    obtain ⟨hi49, hh⟩ := hh
    refine m_ias C hw mp_25 mq_25 hi49 dX11_net_49 (fun H locs hw => ?_)
    refine lv_aload_n C.1 C.2.1 dX11_net_50 rfl (lv_at hl 0 rfl) ?_
    refine m_ga C hw (inC inW11) 26 (by decide) (wc w_1488) mg_26 dX11_net_51 ?_
    refine lv_bipush (v := (24 : Int32)) C.1 C.2.1 dX11_net_54 (by decide) ?_
    refine lv_iload_n C.1 C.2.1 dX11_net_56 rfl (lv_at hl 1 rfl) ?_
    refine lv_iadd C.1 C.2.1 dX11_net_57 ?_
    refine lv_iconst (v := (0 : Int32)) C.1 C.2.1 dX11_net_58 (by decide) ?_
    obtain ⟨hi59, hh⟩ := hh
    refine m_ias C hw mp_26 mq_26 hi59 dX11_net_59 (fun H locs hw => ?_)
    refine lv_iinc (v := x2 + (1 : Int32)) (lv' := [(2, .int (x2 + (1 : Int32))), (0, .ref o)]) C.1 C.2.1 dX11_net_60 hl (k := 1) rfl rfl (by decide) rfl (fun ls hl => ?_)
    refine lv_goto (tgt := 34) C.1 C.2.1 dX11_net_63 (by decide) ?_
    exact hB34 _ _ _ _ _ _ hh hw (lv_sub hl [1, 0] rfl)
def wpX11_net_b34 (n_ : Nat) (f : Nat → Int32) (g : Nat → Nat → Int32) (x2 : Int32) (K : Int32 → ((Nat → Int32) × (Nat → Nat → Int32)) → Prop) : Prop := match n_ with
  | 0 => False
  | n + 1 => wpX11_net_b34_body (fun f g x2 => wpX11_net_b34 n f g x2 K) f g x2 K
theorem tX11_net_b34 {K : Int32 → ((Nat → Int32) × (Nat → Nat → Int32)) → Prop} (C : CallFix p m c cX11_net 5 s args wsX11_net RX11) (hR : Rti .int p l e rmX11_net s m args below meth c cX11_net D A (mT cI cZ) (mWu o h cI cZ) K Q) (n : Nat) : ∀ (f : Nat → Int32) (g : Nat → Nat → Int32) (x2 : Int32) (H : Heap) (locs : List Loc) (ls : Array Slot), wpX11_net_b34 n f g x2 K → Wd D A s (mT cI cZ) (mW o h cI cZ f g) H locs → lv_has ls 5 [(0, .ref o), (2, .int x2)] → W p l e rmX11_net s m args below meth c H locs 0 0 Q (F0 m 34 ls []) := by
  induction n with
  | zero => intro f g x2 H locs ls hh; exact hh.elim
  | succ n ih => intro f g x2 H locs ls hh hw hl; exact tX11_net_b34_body C hR ih hh hw hl
def wpX11_net_b0 (f : Nat → Int32) (g : Nat → Nat → Int32) (x1 : Int32) (K : Int32 → ((Nat → Int32) × (Nat → Nat → Int32)) → Prop) : Prop :=
  wpX11_starts (upd f 2 (0 : Int32)) g x1 (1 : Int32) (fun r8 u8 =>
    (¬ (r8 = 0) →
    ∃ n, wpX11_net_b34 n (upd (upd (upd u8.1 21 (0 : Int32)) 23 (0 : Int32)) 36 (0 : Int32)) u8.2 (0 : Int32) K) ∧
  ((r8 = 0) →
    K (-2 : Int32) (u8.1, u8.2)))
set_option maxHeartbeats 4000000 in
set_option maxRecDepth 100000 in
theorem tX11_net_b0 {K : Int32 → ((Nat → Int32) × (Nat → Nat → Int32)) → Prop} (C : CallFix p m c cX11_net 5 s args wsX11_net RX11) (hR : Rti .int p l e rmX11_net s m args below meth c cX11_net D A (mT cI cZ) (mWu o h cI cZ) K Q) {f : Nat → Int32} {g : Nat → Nat → Int32} {x1 : Int32} (hh : wpX11_net_b0 f g x1 K) {H : Heap} {locs : List Loc} {ls : Array Slot} (hw : Wd D A s (mT cI cZ) (mW o h cI cZ f g) H locs) (hl : lv_has ls 5 [(0, .ref o), (1, .int x1)]) : W p l e rmX11_net s m args below meth c H locs 0 0 Q (F0 m 0 ls []) := by
  unfold wpX11_net_b0 at hh
  refine lv_aload_n C.1 C.2.1 dX11_net_0 rfl (lv_at hl 0 rfl) ?_
  refine lv_iconst (v := (0 : Int32)) C.1 C.2.1 dX11_net_1 (by decide) ?_
  refine m_pi C hw (inC inW11) 2 (by decide) (wc w_1464) rfl (ty := .int) (by decide +kernel) rfl rfl (Nat.le_of_ble_eq_true rfl) ms_2 dX11_net_2 (fun H locs hw => ?_)
  refine lv_aload_n C.1 C.2.1 dX11_net_5 rfl (lv_at hl 0 rfl) ?_
  refine lv_iload_n C.1 C.2.1 dX11_net_6 rfl (lv_at hl 1 rfl) ?_
  refine lv_iconst (v := (1 : Int32)) C.1 C.2.1 dX11_net_7 (by decide) ?_
  refine m_Vi C hw (ctX11_starts l D o h cI cZ (upd f 2 (0 : Int32)) g x1 (1 : Int32) hh) (cwV 2 C.2.2.2.2 (gd_V w_1698 w_1700 w_56 w_125 w_1701) rfl rfl rfl cdX11_starts ⟨Nat.le_of_ble_eq_true rfl, Nat.le_of_ble_eq_true rfl⟩) rfl hl.1 (Nat.le_of_ble_eq_true rfl) dX11_net_8 ⟨Nat.zero_le _, Nat.zero_le _⟩ (fun r8 u8 H locs hh hw => ?_) rfl
  refine lv_if_ne (tgt := 17) C.1 C.2.1 dX11_net_11 (by decide) (fun c11 => ?_) (fun c11 => ?_)
  · replace hh := hh.1 c11
    refine lv_aload_n C.1 C.2.1 dX11_net_17 rfl (lv_at hl 0 rfl) ?_
    refine lv_iconst (v := (0 : Int32)) C.1 C.2.1 dX11_net_18 (by decide) ?_
    refine m_pi C hw (inC inW11) 21 (by decide) (wc w_1483) rfl (ty := .int) (by decide +kernel) rfl rfl (Nat.le_of_ble_eq_true rfl) ms_21 dX11_net_19 (fun H locs hw => ?_)
    refine lv_aload_n C.1 C.2.1 dX11_net_22 rfl (lv_at hl 0 rfl) ?_
    refine lv_iconst (v := (0 : Int32)) C.1 C.2.1 dX11_net_23 (by decide) ?_
    refine m_pi C hw (inC inW11) 23 (by decide) (wc w_1485) rfl (ty := .int) (by decide +kernel) rfl rfl (Nat.le_of_ble_eq_true rfl) ms_23 dX11_net_24 (fun H locs hw => ?_)
    refine lv_aload_n C.1 C.2.1 dX11_net_27 rfl (lv_at hl 0 rfl) ?_
    refine lv_iconst (v := (0 : Int32)) C.1 C.2.1 dX11_net_28 (by decide) ?_
    refine m_pi C hw (inC inW11) 36 (by decide) (wc w_1498) rfl (ty := .int) (by decide +kernel) rfl rfl (Nat.le_of_ble_eq_true rfl) ms_36 dX11_net_29 (fun H locs hw => ?_)
    refine lv_iconst (v := (0 : Int32)) C.1 C.2.1 dX11_net_32 (by decide) ?_
    refine lv_istore_n (lv' := [(2, .int (0 : Int32)), (0, .ref o), (1, .int x1)]) C.1 C.2.1 dX11_net_33 rfl hl (by decide) rfl (fun ls hl => ?_)
    obtain ⟨n, hh⟩ := hh
    exact tX11_net_b34 C hR n _ _ _ _ _ _ hh hw (lv_sub hl [1, 0] rfl)
  · replace hh := hh.2 c11
    refine lv_bipush (v := (-2 : Int32)) C.1 C.2.1 dX11_net_14 (by decide) ?_
    exact hR _ _ _ (u8.1, u8.2) _ _ dX11_net_16 rfl hh hw
def wpX11_net (f : Nat → Int32) (g : Nat → Nat → Int32) (x1 : Int32) (K : Int32 → ((Nat → Int32) × (Nat → Nat → Int32)) → Prop) : Prop := wpX11_net_b0 f g x1 K
theorem ctX11_net (l : Launch) (D : va_G) (o : Nat) (h : Nat → Nat) (cI cZ : ClassId) (f : Nat → Int32) (g : Nat → Nat → Int32) (x1 : Int32) {K : Int32 → ((Nat → Int32) × (Nat → Nat → Int32)) → Prop} (hh : wpX11_net f g x1 K) : Ci l yX11_net wsX11_net rmX11_net [.ref o, .int x1] D (mT cI cZ) (mWu o h cI cZ) (f, g) K := by
  refine Ci_of (cc := cX11_net) (maxL := 5) (by decide) rfl (Nat.le_of_ble_eq_true rfl) ?_
  intro p e s m below meth c A Q C hw hR ls hl
  exact tX11_net_b0 C hR hh hw hl
theorem cdX11_net : yX11_net.cls = RX11 ∧ yX11_net.cls ≠ "java/lang/invoke/MethodHandle" ∧ yX11_net.cls ≠ "java/lang/invoke/VarHandle" ∧ (parseMethodDescriptor yX11_net.desc).map (fun d => d.parameters.length) = some 1 := by decide +kernel
abbrev rmX11_squares : Room := { frames := 0, cells := 0, slots := 0, locals := 0 }
def wpX11_squares_b0 (f : Nat → Int32) (g : Nat → Nat → Int32) (K : Int32 → ((Nat → Int32) × (Nat → Nat → Int32)) → Prop) : Prop :=
  K ((f 38) * (f 39)) (f, g)
set_option maxHeartbeats 4000000 in
set_option maxRecDepth 100000 in
theorem tX11_squares_b0 {K : Int32 → ((Nat → Int32) × (Nat → Nat → Int32)) → Prop} (C : CallFix p m c cX11_squares 1 s args wsX11_squares RX11) (hR : Rti .int p l e rmX11_squares s m args below meth c cX11_squares D A (mT cI cZ) (mWu o h cI cZ) K Q) {f : Nat → Int32} {g : Nat → Nat → Int32} (hh : wpX11_squares_b0 f g K) {H : Heap} {locs : List Loc} {ls : Array Slot} (hw : Wd D A s (mT cI cZ) (mW o h cI cZ f g) H locs) (hl : lv_has ls 1 [(0, .ref o)]) : W p l e rmX11_squares s m args below meth c H locs 0 0 Q (F0 m 0 ls []) := by
  unfold wpX11_squares_b0 at hh
  refine lv_aload_n C.1 C.2.1 dX11_squares_0 rfl (lv_at hl 0 rfl) ?_
  refine m_gi C hw (inC inW11) 38 (by decide) (wc w_1500) mg_38 (x := f 38) rfl dX11_squares_1 ?_
  refine lv_aload_n C.1 C.2.1 dX11_squares_4 rfl (lv_at hl 0 rfl) ?_
  refine m_gi C hw (inC inW11) 39 (by decide) (wc w_1501) mg_39 (x := f 39) rfl dX11_squares_5 ?_
  refine lv_imul C.1 C.2.1 dX11_squares_8 ?_
  exact hR _ _ _ (f, g) _ _ dX11_squares_9 rfl hh hw
def wpX11_squares (f : Nat → Int32) (g : Nat → Nat → Int32) (K : Int32 → ((Nat → Int32) × (Nat → Nat → Int32)) → Prop) : Prop := wpX11_squares_b0 f g K
theorem ctX11_squares (l : Launch) (D : va_G) (o : Nat) (h : Nat → Nat) (cI cZ : ClassId) (f : Nat → Int32) (g : Nat → Nat → Int32) {K : Int32 → ((Nat → Int32) × (Nat → Nat → Int32)) → Prop} (hh : wpX11_squares f g K) : Ci l yX11_squares wsX11_squares rmX11_squares [.ref o] D (mT cI cZ) (mWu o h cI cZ) (f, g) K := by
  refine Ci_of (cc := cX11_squares) (maxL := 1) (by decide) rfl (Nat.le_of_ble_eq_true rfl) ?_
  intro p e s m below meth c A Q C hw hR ls hl
  exact tX11_squares_b0 C hR hh hw hl
theorem cdX11_squares : yX11_squares.cls = RX11 ∧ yX11_squares.cls ≠ "java/lang/invoke/MethodHandle" ∧ yX11_squares.cls ≠ "java/lang/invoke/VarHandle" ∧ (parseMethodDescriptor yX11_squares.desc).map (fun d => d.parameters.length) = some 0 := by decide +kernel
abbrev rmX11_isSquare : Room := { frames := 1, cells := 0, slots := 0, locals := 20 }
def wpX11_isSquare_b17 (f : Nat → Int32) (g : Nat → Nat → Int32) (k0 : Int32) (K : Int32 → ((Nat → Int32) × (Nat → Nat → Int32)) → Prop) : Prop :=
  isB k0 ∧ K k0 (f, g)
set_option maxHeartbeats 4000000 in
set_option maxRecDepth 100000 in
theorem tX11_isSquare_b17 {K : Int32 → ((Nat → Int32) × (Nat → Nat → Int32)) → Prop} (C : CallFix p m c cX11_isSquare 2 s args wsX11_isSquare RX11) (hR : Rti .boolean p l e rmX11_isSquare s m args below meth c cX11_isSquare D A (mT cI cZ) (mWu o h cI cZ) K Q) {f : Nat → Int32} {g : Nat → Nat → Int32} {k0 : Int32} (hh : wpX11_isSquare_b17 f g k0 K) {H : Heap} {locs : List Loc} {ls : Array Slot} (hw : Wd D A s (mT cI cZ) (mW o h cI cZ f g) H locs) (hl : lv_has ls 2 [(0, .ref o)]) : W p l e rmX11_isSquare s m args below meth c H locs 0 0 Q (F0 m 17 ls [.int k0]) := by
  unfold wpX11_isSquare_b17 at hh
  obtain ⟨hb17, hh⟩ := hh
  exact hR _ _ _ (f, g) _ _ dX11_isSquare_17 (isB_nar hb17) hh hw
def wpX11_isSquare_b16 (f : Nat → Int32) (g : Nat → Nat → Int32) (K : Int32 → ((Nat → Int32) × (Nat → Nat → Int32)) → Prop) : Prop :=
  wpX11_isSquare_b17 f g (0 : Int32) K
set_option maxHeartbeats 4000000 in
set_option maxRecDepth 100000 in
theorem tX11_isSquare_b16 {K : Int32 → ((Nat → Int32) × (Nat → Nat → Int32)) → Prop} (C : CallFix p m c cX11_isSquare 2 s args wsX11_isSquare RX11) (hR : Rti .boolean p l e rmX11_isSquare s m args below meth c cX11_isSquare D A (mT cI cZ) (mWu o h cI cZ) K Q) {f : Nat → Int32} {g : Nat → Nat → Int32} (hh : wpX11_isSquare_b16 f g K) {H : Heap} {locs : List Loc} {ls : Array Slot} (hw : Wd D A s (mT cI cZ) (mW o h cI cZ f g) H locs) (hl : lv_has ls 2 [(0, .ref o)]) : W p l e rmX11_isSquare s m args below meth c H locs 0 0 Q (F0 m 16 ls []) := by
  unfold wpX11_isSquare_b16 at hh
  refine lv_iconst (v := (0 : Int32)) C.1 C.2.1 dX11_isSquare_16 (by decide) ?_
  exact tX11_isSquare_b17 C hR hh hw hl
def wpX11_isSquare_b0 (f : Nat → Int32) (g : Nat → Nat → Int32) (x1 : Int32) (K : Int32 → ((Nat → Int32) × (Nat → Nat → Int32)) → Prop) : Prop :=
  ((x1 < 0) →
    wpX11_isSquare_b16 f g K) ∧
  (¬ (x1 < 0) →
    wpX11_squares f g  (fun r6 u6 =>
      ((r6 ≤ x1) →
      wpX11_isSquare_b16 u6.1 u6.2 K) ∧
    (¬ (r6 ≤ x1) →
      wpX11_isSquare_b17 u6.1 u6.2 (1 : Int32) K)))
set_option maxHeartbeats 4000000 in
set_option maxRecDepth 100000 in
theorem tX11_isSquare_b0 {K : Int32 → ((Nat → Int32) × (Nat → Nat → Int32)) → Prop} (C : CallFix p m c cX11_isSquare 2 s args wsX11_isSquare RX11) (hR : Rti .boolean p l e rmX11_isSquare s m args below meth c cX11_isSquare D A (mT cI cZ) (mWu o h cI cZ) K Q) {f : Nat → Int32} {g : Nat → Nat → Int32} {x1 : Int32} (hh : wpX11_isSquare_b0 f g x1 K) {H : Heap} {locs : List Loc} {ls : Array Slot} (hw : Wd D A s (mT cI cZ) (mW o h cI cZ f g) H locs) (hl : lv_has ls 2 [(0, .ref o), (1, .int x1)]) : W p l e rmX11_isSquare s m args below meth c H locs 0 0 Q (F0 m 0 ls []) := by
  unfold wpX11_isSquare_b0 at hh
  refine lv_iload_n C.1 C.2.1 dX11_isSquare_0 rfl (lv_at hl 1 rfl) ?_
  refine lv_if_lt (tgt := 16) C.1 C.2.1 dX11_isSquare_1 (by decide) (fun c1 => ?_) (fun c1 => ?_)
  · replace hh := hh.1 c1
    exact tX11_isSquare_b16 C hR hh hw (lv_sub hl [0] rfl)
  · replace hh := hh.2 c1
    refine lv_iload_n C.1 C.2.1 dX11_isSquare_4 rfl (lv_at hl 1 rfl) ?_
    refine lv_aload_n C.1 C.2.1 dX11_isSquare_5 rfl (lv_at hl 0 rfl) ?_
    refine m_Vi C hw (ctX11_squares l D o h cI cZ f g  hh) (cwV 0 C.2.2.2.2 (gd_V w_1454 w_1456 w_54 w_125 w_1457) rfl rfl rfl cdX11_squares ⟨Nat.le_of_ble_eq_true rfl, Nat.le_of_ble_eq_true rfl⟩) rfl hl.1 (Nat.le_of_ble_eq_true rfl) dX11_isSquare_6 ⟨Nat.zero_le _, Nat.zero_le _⟩ (fun r6 u6 H locs hh hw => ?_) rfl
    refine lv_icmp_ge (tgt := 16) C.1 C.2.1 dX11_isSquare_9 (by decide) (fun c9 => ?_) (fun c9 => ?_)
    · replace hh := hh.1 c9
      exact tX11_isSquare_b16 C hR hh hw (lv_sub hl [0] rfl)
    · replace hh := hh.2 c9
      refine lv_iconst (v := (1 : Int32)) C.1 C.2.1 dX11_isSquare_12 (by decide) ?_
      refine lv_goto (tgt := 17) C.1 C.2.1 dX11_isSquare_13 (by decide) ?_
      exact tX11_isSquare_b17 C hR hh hw (lv_sub hl [0] rfl)
def wpX11_isSquare (f : Nat → Int32) (g : Nat → Nat → Int32) (x1 : Int32) (K : Int32 → ((Nat → Int32) × (Nat → Nat → Int32)) → Prop) : Prop := wpX11_isSquare_b0 f g x1 K
theorem ctX11_isSquare (l : Launch) (D : va_G) (o : Nat) (h : Nat → Nat) (cI cZ : ClassId) (f : Nat → Int32) (g : Nat → Nat → Int32) (x1 : Int32) {K : Int32 → ((Nat → Int32) × (Nat → Nat → Int32)) → Prop} (hh : wpX11_isSquare f g x1 K) : Ci l yX11_isSquare wsX11_isSquare rmX11_isSquare [.ref o, .int x1] D (mT cI cZ) (mWu o h cI cZ) (f, g) K := by
  refine Ci_of (cc := cX11_isSquare) (maxL := 2) (by decide) rfl (Nat.le_of_ble_eq_true rfl) ?_
  intro p e s m below meth c A Q C hw hR ls hl
  exact tX11_isSquare_b0 C hR hh hw hl
theorem cdX11_isSquare : yX11_isSquare.cls = RX11 ∧ yX11_isSquare.cls ≠ "java/lang/invoke/MethodHandle" ∧ yX11_isSquare.cls ≠ "java/lang/invoke/VarHandle" ∧ (parseMethodDescriptor yX11_isSquare.desc).map (fun d => d.parameters.length) = some 1 := by decide +kernel
abbrev rmX11_plainWalls : Room := { frames := 1, cells := 0, slots := 0, locals := 20 }
def wpX11_plainWalls_b83 (B2 : (Nat → Int32) → (Nat → Nat → Int32) → Int32 → Prop) (f : Nat → Int32) (g : Nat → Nat → Int32) (k1 : Int32) (k2 : Int32) (k3 : Int32) (x1 : Int32) (K : ((Nat → Int32) × (Nat → Nat → Int32)) → Prop) : Prop :=
  vp_in k1 36 ∧ B2 f (pt g 46 (ix k1) (k2 ||| k3)) (x1 + (1 : Int32))
set_option maxHeartbeats 4000000 in
set_option maxRecDepth 100000 in
theorem tX11_plainWalls_b83 {B2 : (Nat → Int32) → (Nat → Nat → Int32) → Int32 → Prop} {K : ((Nat → Int32) × (Nat → Nat → Int32)) → Prop} (C : CallFix p m c cX11_plainWalls 2 s args wsX11_plainWalls RX11) (hR : Rtv p l e rmX11_plainWalls s m args below meth c cX11_plainWalls D A (mT cI cZ) (mWu o h cI cZ) K Q) (hB2 : ∀ (f : Nat → Int32) (g : Nat → Nat → Int32) (x1 : Int32) (H : Heap) (locs : List Loc) (ls : Array Slot), B2 f g x1 → Wd D A s (mT cI cZ) (mW o h cI cZ f g) H locs → lv_has ls 2 [(0, .ref o), (1, .int x1)] → W p l e rmX11_plainWalls s m args below meth c H locs 0 0 Q (F0 m 2 ls [])) {f : Nat → Int32} {g : Nat → Nat → Int32} {k1 : Int32} {k2 : Int32} {k3 : Int32} {x1 : Int32} (hh : wpX11_plainWalls_b83 B2 f g k1 k2 k3 x1 K) {H : Heap} {locs : List Loc} {ls : Array Slot} (hw : Wd D A s (mT cI cZ) (mW o h cI cZ f g) H locs) (hl : lv_has ls 2 [(0, .ref o), (1, .int x1)]) : W p l e rmX11_plainWalls s m args below meth c H locs 0 0 Q (F0 m 83 ls [.int k3, .int k2, .int k1, .ref (h 46)]) := by
  unfold wpX11_plainWalls_b83 at hh
  refine lv_ior C.1 C.2.1 dX11_plainWalls_83 ?_
  obtain ⟨hi84, hh⟩ := hh
  refine m_ias C hw mp_46 mq_46 hi84 dX11_plainWalls_84 (fun H locs hw => ?_)
  refine lv_iinc (v := x1 + (1 : Int32)) (lv' := [(1, .int (x1 + (1 : Int32))), (0, .ref o)]) C.1 C.2.1 dX11_plainWalls_85 hl (k := 1) rfl rfl (by decide) rfl (fun ls hl => ?_)
  refine lv_goto (tgt := 2) C.1 C.2.1 dX11_plainWalls_88 (by decide) ?_
  exact hB2 _ _ _ _ _ _ hh hw (lv_sub hl [1, 0] rfl)
def wpX11_plainWalls_b67 (B2 : (Nat → Int32) → (Nat → Nat → Int32) → Int32 → Prop) (f : Nat → Int32) (g : Nat → Nat → Int32) (k1 : Int32) (k2 : Int32) (k3 : Int32) (x1 : Int32) (K : ((Nat → Int32) × (Nat → Nat → Int32)) → Prop) : Prop :=
  (¬ f 38 = 0) ∧ (¬ ((jrem x1 (f 38)) = 0) →
    wpX11_plainWalls_b83 B2 f g k1 (k2 ||| k3) (0 : Int32) x1 K) ∧
  (((jrem x1 (f 38)) = 0) →
    wpX11_plainWalls_b83 B2 f g k1 (k2 ||| k3) (8 : Int32) x1 K)
set_option maxHeartbeats 4000000 in
set_option maxRecDepth 100000 in
theorem tX11_plainWalls_b67 {B2 : (Nat → Int32) → (Nat → Nat → Int32) → Int32 → Prop} {K : ((Nat → Int32) × (Nat → Nat → Int32)) → Prop} (C : CallFix p m c cX11_plainWalls 2 s args wsX11_plainWalls RX11) (hR : Rtv p l e rmX11_plainWalls s m args below meth c cX11_plainWalls D A (mT cI cZ) (mWu o h cI cZ) K Q) (hB2 : ∀ (f : Nat → Int32) (g : Nat → Nat → Int32) (x1 : Int32) (H : Heap) (locs : List Loc) (ls : Array Slot), B2 f g x1 → Wd D A s (mT cI cZ) (mW o h cI cZ f g) H locs → lv_has ls 2 [(0, .ref o), (1, .int x1)] → W p l e rmX11_plainWalls s m args below meth c H locs 0 0 Q (F0 m 2 ls [])) {f : Nat → Int32} {g : Nat → Nat → Int32} {k1 : Int32} {k2 : Int32} {k3 : Int32} {x1 : Int32} (hh : wpX11_plainWalls_b67 B2 f g k1 k2 k3 x1 K) {H : Heap} {locs : List Loc} {ls : Array Slot} (hw : Wd D A s (mT cI cZ) (mW o h cI cZ f g) H locs) (hl : lv_has ls 2 [(0, .ref o), (1, .int x1)]) : W p l e rmX11_plainWalls s m args below meth c H locs 0 0 Q (F0 m 67 ls [.int k3, .int k2, .int k1, .ref (h 46)]) := by
  unfold wpX11_plainWalls_b67 at hh
  refine lv_ior C.1 C.2.1 dX11_plainWalls_67 ?_
  refine lv_iload_n C.1 C.2.1 dX11_plainWalls_68 rfl (lv_at hl 1 rfl) ?_
  refine lv_aload_n C.1 C.2.1 dX11_plainWalls_69 rfl (lv_at hl 0 rfl) ?_
  refine m_gi C hw (inC inW11) 38 (by decide) (wc w_1500) mg_38 (x := f 38) rfl dX11_plainWalls_70 ?_
  obtain ⟨hz73, hh⟩ := hh
  refine g_irem C dX11_plainWalls_73 hz73 ?_
  refine lv_if_ne (tgt := 82) C.1 C.2.1 dX11_plainWalls_74 (by decide) (fun c74 => ?_) (fun c74 => ?_)
  · replace hh := hh.1 c74
    refine lv_iconst (v := (0 : Int32)) C.1 C.2.1 dX11_plainWalls_82 (by decide) ?_
    exact tX11_plainWalls_b83 C hR hB2 hh hw hl
  · replace hh := hh.2 c74
    refine lv_bipush (v := (8 : Int32)) C.1 C.2.1 dX11_plainWalls_77 (by decide) ?_
    refine lv_goto (tgt := 83) C.1 C.2.1 dX11_plainWalls_79 (by decide) ?_
    exact tX11_plainWalls_b83 C hR hB2 hh hw hl
def wpX11_plainWalls_b48 (B2 : (Nat → Int32) → (Nat → Nat → Int32) → Int32 → Prop) (f : Nat → Int32) (g : Nat → Nat → Int32) (k1 : Int32) (k2 : Int32) (k3 : Int32) (x1 : Int32) (K : ((Nat → Int32) × (Nat → Nat → Int32)) → Prop) : Prop :=
  wpX11_squares f g  (fun r51 u51 =>
    ((x1 < (r51 - (u51.1 38))) →
    wpX11_plainWalls_b67 B2 u51.1 u51.2 k1 (k2 ||| k3) (0 : Int32) x1 K) ∧
  (¬ (x1 < (r51 - (u51.1 38))) →
    wpX11_plainWalls_b67 B2 u51.1 u51.2 k1 (k2 ||| k3) (4 : Int32) x1 K))
set_option maxHeartbeats 4000000 in
set_option maxRecDepth 100000 in
theorem tX11_plainWalls_b48 {B2 : (Nat → Int32) → (Nat → Nat → Int32) → Int32 → Prop} {K : ((Nat → Int32) × (Nat → Nat → Int32)) → Prop} (C : CallFix p m c cX11_plainWalls 2 s args wsX11_plainWalls RX11) (hR : Rtv p l e rmX11_plainWalls s m args below meth c cX11_plainWalls D A (mT cI cZ) (mWu o h cI cZ) K Q) (hB2 : ∀ (f : Nat → Int32) (g : Nat → Nat → Int32) (x1 : Int32) (H : Heap) (locs : List Loc) (ls : Array Slot), B2 f g x1 → Wd D A s (mT cI cZ) (mW o h cI cZ f g) H locs → lv_has ls 2 [(0, .ref o), (1, .int x1)] → W p l e rmX11_plainWalls s m args below meth c H locs 0 0 Q (F0 m 2 ls [])) {f : Nat → Int32} {g : Nat → Nat → Int32} {k1 : Int32} {k2 : Int32} {k3 : Int32} {x1 : Int32} (hh : wpX11_plainWalls_b48 B2 f g k1 k2 k3 x1 K) {H : Heap} {locs : List Loc} {ls : Array Slot} (hw : Wd D A s (mT cI cZ) (mW o h cI cZ f g) H locs) (hl : lv_has ls 2 [(0, .ref o), (1, .int x1)]) : W p l e rmX11_plainWalls s m args below meth c H locs 0 0 Q (F0 m 48 ls [.int k3, .int k2, .int k1, .ref (h 46)]) := by
  unfold wpX11_plainWalls_b48 at hh
  refine lv_ior C.1 C.2.1 dX11_plainWalls_48 ?_
  refine lv_iload_n C.1 C.2.1 dX11_plainWalls_49 rfl (lv_at hl 1 rfl) ?_
  refine lv_aload_n C.1 C.2.1 dX11_plainWalls_50 rfl (lv_at hl 0 rfl) ?_
  refine m_Vi C hw (ctX11_squares l D o h cI cZ f g  hh) (cwV 0 C.2.2.2.2 (gd_V w_1454 w_1456 w_54 w_125 w_1457) rfl rfl rfl cdX11_squares ⟨Nat.le_of_ble_eq_true rfl, Nat.le_of_ble_eq_true rfl⟩) rfl hl.1 (Nat.le_of_ble_eq_true rfl) dX11_plainWalls_51 ⟨Nat.zero_le _, Nat.zero_le _⟩ (fun r51 u51 H locs hh hw => ?_) rfl
  refine lv_aload_n C.1 C.2.1 dX11_plainWalls_54 rfl (lv_at hl 0 rfl) ?_
  refine m_gi C hw (inC inW11) 38 (by decide) (wc w_1500) mg_38 (x := u51.1 38) rfl dX11_plainWalls_55 ?_
  refine lv_isub C.1 C.2.1 dX11_plainWalls_58 ?_
  refine lv_icmp_lt (tgt := 66) C.1 C.2.1 dX11_plainWalls_59 (by decide) (fun c59 => ?_) (fun c59 => ?_)
  · replace hh := hh.1 c59
    refine lv_iconst (v := (0 : Int32)) C.1 C.2.1 dX11_plainWalls_66 (by decide) ?_
    exact tX11_plainWalls_b67 C hR hB2 hh hw hl
  · replace hh := hh.2 c59
    refine lv_iconst (v := (4 : Int32)) C.1 C.2.1 dX11_plainWalls_62 (by decide) ?_
    refine lv_goto (tgt := 67) C.1 C.2.1 dX11_plainWalls_63 (by decide) ?_
    exact tX11_plainWalls_b67 C hR hB2 hh hw hl
def wpX11_plainWalls_b28 (B2 : (Nat → Int32) → (Nat → Nat → Int32) → Int32 → Prop) (f : Nat → Int32) (g : Nat → Nat → Int32) (k1 : Int32) (k2 : Int32) (x1 : Int32) (K : ((Nat → Int32) × (Nat → Nat → Int32)) → Prop) : Prop :=
  (¬ f 38 = 0) ∧ (¬ ((jrem x1 (f 38)) = ((f 38) - (1 : Int32))) →
    wpX11_plainWalls_b48 B2 f g k1 k2 (0 : Int32) x1 K) ∧
  (((jrem x1 (f 38)) = ((f 38) - (1 : Int32))) →
    wpX11_plainWalls_b48 B2 f g k1 k2 (2 : Int32) x1 K)
set_option maxHeartbeats 4000000 in
set_option maxRecDepth 100000 in
theorem tX11_plainWalls_b28 {B2 : (Nat → Int32) → (Nat → Nat → Int32) → Int32 → Prop} {K : ((Nat → Int32) × (Nat → Nat → Int32)) → Prop} (C : CallFix p m c cX11_plainWalls 2 s args wsX11_plainWalls RX11) (hR : Rtv p l e rmX11_plainWalls s m args below meth c cX11_plainWalls D A (mT cI cZ) (mWu o h cI cZ) K Q) (hB2 : ∀ (f : Nat → Int32) (g : Nat → Nat → Int32) (x1 : Int32) (H : Heap) (locs : List Loc) (ls : Array Slot), B2 f g x1 → Wd D A s (mT cI cZ) (mW o h cI cZ f g) H locs → lv_has ls 2 [(0, .ref o), (1, .int x1)] → W p l e rmX11_plainWalls s m args below meth c H locs 0 0 Q (F0 m 2 ls [])) {f : Nat → Int32} {g : Nat → Nat → Int32} {k1 : Int32} {k2 : Int32} {x1 : Int32} (hh : wpX11_plainWalls_b28 B2 f g k1 k2 x1 K) {H : Heap} {locs : List Loc} {ls : Array Slot} (hw : Wd D A s (mT cI cZ) (mW o h cI cZ f g) H locs) (hl : lv_has ls 2 [(0, .ref o), (1, .int x1)]) : W p l e rmX11_plainWalls s m args below meth c H locs 0 0 Q (F0 m 28 ls [.int k2, .int k1, .ref (h 46)]) := by
  unfold wpX11_plainWalls_b28 at hh
  refine lv_iload_n C.1 C.2.1 dX11_plainWalls_28 rfl (lv_at hl 1 rfl) ?_
  refine lv_aload_n C.1 C.2.1 dX11_plainWalls_29 rfl (lv_at hl 0 rfl) ?_
  refine m_gi C hw (inC inW11) 38 (by decide) (wc w_1500) mg_38 (x := f 38) rfl dX11_plainWalls_30 ?_
  obtain ⟨hz33, hh⟩ := hh
  refine g_irem C dX11_plainWalls_33 hz33 ?_
  refine lv_aload_n C.1 C.2.1 dX11_plainWalls_34 rfl (lv_at hl 0 rfl) ?_
  refine m_gi C hw (inC inW11) 38 (by decide) (wc w_1500) mg_38 (x := f 38) rfl dX11_plainWalls_35 ?_
  refine lv_iconst (v := (1 : Int32)) C.1 C.2.1 dX11_plainWalls_38 (by decide) ?_
  refine lv_isub C.1 C.2.1 dX11_plainWalls_39 ?_
  refine lv_icmp_ne (tgt := 47) C.1 C.2.1 dX11_plainWalls_40 (by decide) (fun c40 => ?_) (fun c40 => ?_)
  · replace hh := hh.1 c40
    refine lv_iconst (v := (0 : Int32)) C.1 C.2.1 dX11_plainWalls_47 (by decide) ?_
    exact tX11_plainWalls_b48 C hR hB2 hh hw hl
  · replace hh := hh.2 c40
    refine lv_iconst (v := (2 : Int32)) C.1 C.2.1 dX11_plainWalls_43 (by decide) ?_
    refine lv_goto (tgt := 48) C.1 C.2.1 dX11_plainWalls_44 (by decide) ?_
    exact tX11_plainWalls_b48 C hR hB2 hh hw hl
def wpX11_plainWalls_b2_body (B2 : (Nat → Int32) → (Nat → Nat → Int32) → Int32 → Prop) (f : Nat → Int32) (g : Nat → Nat → Int32) (x1 : Int32) (K : ((Nat → Int32) × (Nat → Nat → Int32)) → Prop) : Prop :=
  wpX11_squares f g  (fun r4 u4 =>
    ((r4 ≤ x1) →
    K (u4.1, u4.2)) ∧
  (¬ (r4 ≤ x1) →
    (((u4.1 38) ≤ x1) →
      wpX11_plainWalls_b28 B2 u4.1 u4.2 x1 (0 : Int32) x1 K) ∧
    (¬ ((u4.1 38) ≤ x1) →
      wpX11_plainWalls_b28 B2 u4.1 u4.2 x1 (1 : Int32) x1 K)))
set_option maxHeartbeats 4000000 in
set_option maxRecDepth 100000 in
theorem tX11_plainWalls_b2_body {B2 : (Nat → Int32) → (Nat → Nat → Int32) → Int32 → Prop} {K : ((Nat → Int32) × (Nat → Nat → Int32)) → Prop} (C : CallFix p m c cX11_plainWalls 2 s args wsX11_plainWalls RX11) (hR : Rtv p l e rmX11_plainWalls s m args below meth c cX11_plainWalls D A (mT cI cZ) (mWu o h cI cZ) K Q) (hB2 : ∀ (f : Nat → Int32) (g : Nat → Nat → Int32) (x1 : Int32) (H : Heap) (locs : List Loc) (ls : Array Slot), B2 f g x1 → Wd D A s (mT cI cZ) (mW o h cI cZ f g) H locs → lv_has ls 2 [(0, .ref o), (1, .int x1)] → W p l e rmX11_plainWalls s m args below meth c H locs 0 0 Q (F0 m 2 ls [])) {f : Nat → Int32} {g : Nat → Nat → Int32} {x1 : Int32} (hh : wpX11_plainWalls_b2_body B2 f g x1 K) {H : Heap} {locs : List Loc} {ls : Array Slot} (hw : Wd D A s (mT cI cZ) (mW o h cI cZ f g) H locs) (hl : lv_has ls 2 [(0, .ref o), (1, .int x1)]) : W p l e rmX11_plainWalls s m args below meth c H locs 0 0 Q (F0 m 2 ls []) := by
  unfold wpX11_plainWalls_b2_body at hh
  refine lv_iload_n C.1 C.2.1 dX11_plainWalls_2 rfl (lv_at hl 1 rfl) ?_
  refine lv_aload_n C.1 C.2.1 dX11_plainWalls_3 rfl (lv_at hl 0 rfl) ?_
  refine m_Vi C hw (ctX11_squares l D o h cI cZ f g  hh) (cwV 0 C.2.2.2.2 (gd_V w_1454 w_1456 w_54 w_125 w_1457) rfl rfl rfl cdX11_squares ⟨Nat.le_of_ble_eq_true rfl, Nat.le_of_ble_eq_true rfl⟩) rfl hl.1 (Nat.le_of_ble_eq_true rfl) dX11_plainWalls_4 ⟨Nat.zero_le _, Nat.zero_le _⟩ (fun r4 u4 H locs hh hw => ?_) rfl
  refine lv_icmp_ge (tgt := 91) C.1 C.2.1 dX11_plainWalls_7 (by decide) (fun c7 => ?_) (fun c7 => ?_)
  · replace hh := hh.1 c7
    exact hR _ _ (u4.1, u4.2) _ _ dX11_plainWalls_91 hh hw
  · replace hh := hh.2 c7
    refine lv_aload_n C.1 C.2.1 dX11_plainWalls_10 rfl (lv_at hl 0 rfl) ?_
    refine m_ga C hw (inC inW11) 46 (by decide) (wc w_1508) mg_46 dX11_plainWalls_11 ?_
    refine lv_iload_n C.1 C.2.1 dX11_plainWalls_14 rfl (lv_at hl 1 rfl) ?_
    refine lv_iload_n C.1 C.2.1 dX11_plainWalls_15 rfl (lv_at hl 1 rfl) ?_
    refine lv_aload_n C.1 C.2.1 dX11_plainWalls_16 rfl (lv_at hl 0 rfl) ?_
    refine m_gi C hw (inC inW11) 38 (by decide) (wc w_1500) mg_38 (x := u4.1 38) rfl dX11_plainWalls_17 ?_
    refine lv_icmp_ge (tgt := 27) C.1 C.2.1 dX11_plainWalls_20 (by decide) (fun c20 => ?_) (fun c20 => ?_)
    · replace hh := hh.1 c20
      refine lv_iconst (v := (0 : Int32)) C.1 C.2.1 dX11_plainWalls_27 (by decide) ?_
      exact tX11_plainWalls_b28 C hR hB2 hh hw hl
    · replace hh := hh.2 c20
      refine lv_iconst (v := (1 : Int32)) C.1 C.2.1 dX11_plainWalls_23 (by decide) ?_
      refine lv_goto (tgt := 28) C.1 C.2.1 dX11_plainWalls_24 (by decide) ?_
      exact tX11_plainWalls_b28 C hR hB2 hh hw hl
def wpX11_plainWalls_b2 (n_ : Nat) (f : Nat → Int32) (g : Nat → Nat → Int32) (x1 : Int32) (K : ((Nat → Int32) × (Nat → Nat → Int32)) → Prop) : Prop := match n_ with
  | 0 => False
  | n + 1 => wpX11_plainWalls_b2_body (fun f g x1 => wpX11_plainWalls_b2 n f g x1 K) f g x1 K
theorem tX11_plainWalls_b2 {K : ((Nat → Int32) × (Nat → Nat → Int32)) → Prop} (C : CallFix p m c cX11_plainWalls 2 s args wsX11_plainWalls RX11) (hR : Rtv p l e rmX11_plainWalls s m args below meth c cX11_plainWalls D A (mT cI cZ) (mWu o h cI cZ) K Q) (n : Nat) : ∀ (f : Nat → Int32) (g : Nat → Nat → Int32) (x1 : Int32) (H : Heap) (locs : List Loc) (ls : Array Slot), wpX11_plainWalls_b2 n f g x1 K → Wd D A s (mT cI cZ) (mW o h cI cZ f g) H locs → lv_has ls 2 [(0, .ref o), (1, .int x1)] → W p l e rmX11_plainWalls s m args below meth c H locs 0 0 Q (F0 m 2 ls []) := by
  induction n with
  | zero => intro f g x1 H locs ls hh; exact hh.elim
  | succ n ih => intro f g x1 H locs ls hh hw hl; exact tX11_plainWalls_b2_body C hR ih hh hw hl
def wpX11_plainWalls_b0 (f : Nat → Int32) (g : Nat → Nat → Int32) (K : ((Nat → Int32) × (Nat → Nat → Int32)) → Prop) : Prop :=
  ∃ n, wpX11_plainWalls_b2 n f g (0 : Int32) K
set_option maxHeartbeats 4000000 in
set_option maxRecDepth 100000 in
theorem tX11_plainWalls_b0 {K : ((Nat → Int32) × (Nat → Nat → Int32)) → Prop} (C : CallFix p m c cX11_plainWalls 2 s args wsX11_plainWalls RX11) (hR : Rtv p l e rmX11_plainWalls s m args below meth c cX11_plainWalls D A (mT cI cZ) (mWu o h cI cZ) K Q) {f : Nat → Int32} {g : Nat → Nat → Int32} (hh : wpX11_plainWalls_b0 f g K) {H : Heap} {locs : List Loc} {ls : Array Slot} (hw : Wd D A s (mT cI cZ) (mW o h cI cZ f g) H locs) (hl : lv_has ls 2 [(0, .ref o)]) : W p l e rmX11_plainWalls s m args below meth c H locs 0 0 Q (F0 m 0 ls []) := by
  unfold wpX11_plainWalls_b0 at hh
  refine lv_iconst (v := (0 : Int32)) C.1 C.2.1 dX11_plainWalls_0 (by decide) ?_
  refine lv_istore_n (lv' := [(1, .int (0 : Int32)), (0, .ref o)]) C.1 C.2.1 dX11_plainWalls_1 rfl hl (by decide) rfl (fun ls hl => ?_)
  obtain ⟨n, hh⟩ := hh
  exact tX11_plainWalls_b2 C hR n _ _ _ _ _ _ hh hw (lv_sub hl [1, 0] rfl)
def wpX11_plainWalls (f : Nat → Int32) (g : Nat → Nat → Int32) (K : ((Nat → Int32) × (Nat → Nat → Int32)) → Prop) : Prop := wpX11_plainWalls_b0 f g K
theorem ctX11_plainWalls (l : Launch) (D : va_G) (o : Nat) (h : Nat → Nat) (cI cZ : ClassId) (f : Nat → Int32) (g : Nat → Nat → Int32) {K : ((Nat → Int32) × (Nat → Nat → Int32)) → Prop} (hh : wpX11_plainWalls f g K) : Cv l yX11_plainWalls wsX11_plainWalls rmX11_plainWalls [.ref o] D (mT cI cZ) (mWu o h cI cZ) (f, g) K := by
  refine Cv_of (cc := cX11_plainWalls) (maxL := 2) (by decide) rfl (Nat.le_of_ble_eq_true rfl) ?_
  intro p e s m below meth c A Q C hw hR ls hl
  exact tX11_plainWalls_b0 C hR hh hw hl
theorem cdX11_plainWalls : yX11_plainWalls.cls = RX11 ∧ yX11_plainWalls.cls ≠ "java/lang/invoke/MethodHandle" ∧ yX11_plainWalls.cls ≠ "java/lang/invoke/VarHandle" ∧ (parseMethodDescriptor yX11_plainWalls.desc).map (fun d => d.parameters.length) = some 0 := by decide +kernel
end
