section
variable {p : Program} {l : Launch} {e : Env} {s : State} {m : MethodId} {args : Array Value} {below : List Frame} {meth : Method} {c : Code} {D : va_G} {A : Nat → Prop} {o : Nat} {h : Nat → Nat} {cI cZ : ClassId} {Q : State → Prop}
abbrev rmX11_feed : Room := { frames := 0, cells := 0, slots := 0, locals := 0 }
set_option maxHeartbeats 4000000 in
set_option maxRecDepth 100000 in
theorem tX11_feed_b76 {B23 : (Nat → Int32) → (Nat → Nat → Int32) → Int32 → Int32 → Int32 → Int32 → Int32 → Int32 → Prop} {K : Int32 → ((Nat → Int32) × (Nat → Nat → Int32)) → Prop} (C : CallFix p m c cX11_feed 8 s args wsX11_feed RX11) (hR : Rti .int p l e rmX11_feed s m args below meth c cX11_feed D A (mT cI cZ) (mWu o h cI cZ) K Q) (hB23 : ∀ (f : Nat → Int32) (g : Nat → Nat → Int32) (x1 : Int32) (x2 : Int32) (x3 : Int32) (x4 : Int32) (x5 : Int32) (x6 : Int32) (H : Heap) (locs : List Loc) (ls : Array Slot), B23 f g x1 x2 x3 x4 x5 x6 → Wd D A s (mT cI cZ) (mW o h cI cZ f g) H locs → lv_has ls 8 [(0, .ref o), (1, .int x1), (2, .int x2), (3, .int x3), (4, .int x4), (5, .int x5), (6, .int x6)] → W p l e rmX11_feed s m args below meth c H locs 0 0 Q (F0 m 23 ls [])) {f : Nat → Int32} {g : Nat → Nat → Int32} {k0 : Int32} {x1 : Int32} {x2 : Int32} {x3 : Int32} {x4 : Int32} {x5 : Int32} {x6 : Int32} (hh : wpX11_feed_b76 B23 f g k0 x1 x2 x3 x4 x5 x6 K) {H : Heap} {locs : List Loc} {ls : Array Slot} (hw : Wd D A s (mT cI cZ) (mW o h cI cZ f g) H locs) (hl : lv_has ls 8 [(0, .ref o), (1, .int x1), (2, .int x2), (3, .int x3), (4, .int x4), (5, .int x5), (6, .int x6)]) : W p l e rmX11_feed s m args below meth c H locs 0 0 Q (F0 m 76 ls [.int k0]) := by
  unfold wpX11_feed_b76 at hh
  refine lv_istore (lv' := [(7, .int k0), (0, .ref o), (1, .int x1), (2, .int x2), (3, .int x3), (4, .int x4), (5, .int x5), (6, .int x6)]) C.1 C.2.1 dX11_feed_76 hl (by decide) rfl (fun ls hl => ?_)
  refine lv_aload_n C.1 C.2.1 dX11_feed_78 rfl (lv_at hl 1 rfl) ?_
  refine m_ga C hw (inC inW11) 0 (by decide) (wc w_1462) mg_0 dX11_feed_79 ?_
  refine lv_aload_n C.1 C.2.1 dX11_feed_82 rfl (lv_at hl 1 rfl) ?_
  refine m_gi C hw (inC inW11) 1 (by decide) (wc w_1463) mg_1 (x := f 1) rfl dX11_feed_83 ?_
  refine lv_iload C.1 C.2.1 dX11_feed_86 (lv_at hl 7 rfl) ?_
  refine lv_iadd C.1 C.2.1 dX11_feed_88 ?_
  refine lv_iload C.1 C.2.1 dX11_feed_89 (lv_at hl 0 rfl) ?_
  refine lv_bipush (v := (24 : Int32)) C.1 C.2.1 dX11_feed_91 (by decide) ?_
  refine lv_bipush (v := (8 : Int32)) C.1 C.2.1 dX11_feed_93 (by decide) ?_
  refine lv_iload C.1 C.2.1 dX11_feed_95 (lv_at hl 7 rfl) ?_
  refine lv_iconst (v := (4 : Int32)) C.1 C.2.1 dX11_feed_97 (by decide) ?_
  refine g_irem C dX11_feed_98 (by decide) ?_
  refine lv_imul C.1 C.2.1 dX11_feed_99 ?_
  refine lv_isub C.1 C.2.1 dX11_feed_100 ?_
  refine g_ishr C dX11_feed_101 ?_
  refine lv_sipush (v := (255 : Int32)) C.1 C.2.1 dX11_feed_102 (by decide) ?_
  refine lv_iand C.1 C.2.1 dX11_feed_105 ?_
  obtain ⟨hi106, hh⟩ := hh
  refine m_ias C hw mp_0 mq_0 hi106 dX11_feed_106 (fun H locs hw => ?_)
  refine lv_iinc (v := x6 + (1 : Int32)) (lv' := [(6, .int (x6 + (1 : Int32))), (7, .int k0), (0, .ref o), (1, .int x1), (2, .int x2), (3, .int x3), (4, .int x4), (5, .int x5)]) C.1 C.2.1 dX11_feed_107 hl (k := 7) rfl rfl (by decide) rfl (fun ls hl => ?_)
  refine lv_goto (tgt := 23) C.1 C.2.1 dX11_feed_110 (by decide) ?_
  exact hB23 _ _ _ _ _ _ _ _ _ _ _ hh hw (lv_sub hl [2, 3, 4, 5, 6, 7, 0] rfl)
set_option maxHeartbeats 4000000 in
set_option maxRecDepth 100000 in
theorem tX11_feed_b23_body {B23 : (Nat → Int32) → (Nat → Nat → Int32) → Int32 → Int32 → Int32 → Int32 → Int32 → Int32 → Prop} {K : Int32 → ((Nat → Int32) × (Nat → Nat → Int32)) → Prop} (C : CallFix p m c cX11_feed 8 s args wsX11_feed RX11) (hR : Rti .int p l e rmX11_feed s m args below meth c cX11_feed D A (mT cI cZ) (mWu o h cI cZ) K Q) (hB23 : ∀ (f : Nat → Int32) (g : Nat → Nat → Int32) (x1 : Int32) (x2 : Int32) (x3 : Int32) (x4 : Int32) (x5 : Int32) (x6 : Int32) (H : Heap) (locs : List Loc) (ls : Array Slot), B23 f g x1 x2 x3 x4 x5 x6 → Wd D A s (mT cI cZ) (mW o h cI cZ f g) H locs → lv_has ls 8 [(0, .ref o), (1, .int x1), (2, .int x2), (3, .int x3), (4, .int x4), (5, .int x5), (6, .int x6)] → W p l e rmX11_feed s m args below meth c H locs 0 0 Q (F0 m 23 ls [])) {f : Nat → Int32} {g : Nat → Nat → Int32} {x1 : Int32} {x2 : Int32} {x3 : Int32} {x4 : Int32} {x5 : Int32} {x6 : Int32} (hh : wpX11_feed_b23_body B23 f g x1 x2 x3 x4 x5 x6 K) {H : Heap} {locs : List Loc} {ls : Array Slot} (hw : Wd D A s (mT cI cZ) (mW o h cI cZ f g) H locs) (hl : lv_has ls 8 [(0, .ref o), (1, .int x1), (2, .int x2), (3, .int x3), (4, .int x4), (5, .int x5), (6, .int x6)]) : W p l e rmX11_feed s m args below meth c H locs 0 0 Q (F0 m 23 ls []) := by
  unfold wpX11_feed_b23_body at hh
  refine lv_iload C.1 C.2.1 dX11_feed_23 (lv_at hl 6 rfl) ?_
  refine lv_bipush (v := (20 : Int32)) C.1 C.2.1 dX11_feed_25 (by decide) ?_
  refine lv_icmp_ge (tgt := 113) C.1 C.2.1 dX11_feed_27 (by decide) (fun c27 => ?_) (fun c27 => ?_)
  · replace hh := hh.1 c27
    refine lv_aload_n C.1 C.2.1 dX11_feed_113 rfl (lv_at hl 0 rfl) ?_
    refine lv_dup C.1 C.2.1 dX11_feed_114 rfl ?_
    refine m_gi C hw (inC inW11) 1 (by decide) (wc w_1463) mg_1 (x := f 1) rfl dX11_feed_115 ?_
    refine lv_bipush (v := (20 : Int32)) C.1 C.2.1 dX11_feed_118 (by decide) ?_
    refine lv_iadd C.1 C.2.1 dX11_feed_120 ?_
    refine m_pi C hw (inC inW11) 1 (by decide) (wc w_1463) rfl (ty := .int) (by decide +kernel) rfl rfl (Nat.le_of_ble_eq_true rfl) ms_1 dX11_feed_121 (fun H locs hw => ?_)
    refine lv_aload_n C.1 C.2.1 dX11_feed_124 rfl (lv_at hl 0 rfl) ?_
    refine m_gi C hw (inC inW11) 1 (by decide) (wc w_1463) mg_1 (x := (f 1) + (20 : Int32)) rfl dX11_feed_125 ?_
    exact hR _ _ _ (upd f 1 ((f 1) + (20 : Int32)), g) _ _ dX11_feed_128 rfl hh hw
  · replace hh := hh.2 c27
    refine lv_iload C.1 C.2.1 dX11_feed_30 (lv_at hl 6 rfl) ?_
    refine lv_iconst (v := (4 : Int32)) C.1 C.2.1 dX11_feed_32 (by decide) ?_
    refine lv_icmp_ge (tgt := 40) C.1 C.2.1 dX11_feed_33 (by decide) (fun c33 => ?_) (fun c33 => ?_)
    · replace hh := hh.1 c33
      refine lv_iload C.1 C.2.1 dX11_feed_40 (lv_at hl 6 rfl) ?_
      refine lv_bipush (v := (8 : Int32)) C.1 C.2.1 dX11_feed_42 (by decide) ?_
      refine lv_icmp_ge (tgt := 51) C.1 C.2.1 dX11_feed_44 (by decide) (fun c44 => ?_) (fun c44 => ?_)
      · replace hh := hh.1 c44
        refine lv_iload C.1 C.2.1 dX11_feed_51 (lv_at hl 6 rfl) ?_
        refine lv_bipush (v := (12 : Int32)) C.1 C.2.1 dX11_feed_53 (by decide) ?_
        refine lv_icmp_ge (tgt := 62) C.1 C.2.1 dX11_feed_55 (by decide) (fun c55 => ?_) (fun c55 => ?_)
        · replace hh := hh.1 c55
          refine lv_iload C.1 C.2.1 dX11_feed_62 (lv_at hl 6 rfl) ?_
          refine lv_bipush (v := (16 : Int32)) C.1 C.2.1 dX11_feed_64 (by decide) ?_
          refine lv_icmp_ge (tgt := 74) C.1 C.2.1 dX11_feed_66 (by decide) (fun c66 => ?_) (fun c66 => ?_)
          · replace hh := hh.1 c66
            refine lv_iload C.1 C.2.1 dX11_feed_74 (lv_at hl 5 rfl) ?_
            exact tX11_feed_b76 C hR hB23 hh hw hl
          · replace hh := hh.2 c66
            refine lv_iload C.1 C.2.1 dX11_feed_69 (lv_at hl 4 rfl) ?_
            refine lv_goto (tgt := 76) C.1 C.2.1 dX11_feed_71 (by decide) ?_
            exact tX11_feed_b76 C hR hB23 hh hw hl
        · replace hh := hh.2 c55
          refine lv_iload_n C.1 C.2.1 dX11_feed_58 rfl (lv_at hl 3 rfl) ?_
          refine lv_goto (tgt := 76) C.1 C.2.1 dX11_feed_59 (by decide) ?_
          exact tX11_feed_b76 C hR hB23 hh hw hl
      · replace hh := hh.2 c44
        refine lv_iload_n C.1 C.2.1 dX11_feed_47 rfl (lv_at hl 2 rfl) ?_
        refine lv_goto (tgt := 76) C.1 C.2.1 dX11_feed_48 (by decide) ?_
        exact tX11_feed_b76 C hR hB23 hh hw hl
    · replace hh := hh.2 c33
      refine lv_iload_n C.1 C.2.1 dX11_feed_36 rfl (lv_at hl 1 rfl) ?_
      refine lv_goto (tgt := 76) C.1 C.2.1 dX11_feed_37 (by decide) ?_
      exact tX11_feed_b76 C hR hB23 hh hw hl
theorem tX11_feed_b23 {K : Int32 → ((Nat → Int32) × (Nat → Nat → Int32)) → Prop} (C : CallFix p m c cX11_feed 8 s args wsX11_feed RX11) (hR : Rti .int p l e rmX11_feed s m args below meth c cX11_feed D A (mT cI cZ) (mWu o h cI cZ) K Q) (n : Nat) : ∀ (f : Nat → Int32) (g : Nat → Nat → Int32) (x1 : Int32) (x2 : Int32) (x3 : Int32) (x4 : Int32) (x5 : Int32) (x6 : Int32) (H : Heap) (locs : List Loc) (ls : Array Slot), wpX11_feed_b23 n f g x1 x2 x3 x4 x5 x6 K → Wd D A s (mT cI cZ) (mW o h cI cZ f g) H locs → lv_has ls 8 [(0, .ref o), (1, .int x1), (2, .int x2), (3, .int x3), (4, .int x4), (5, .int x5), (6, .int x6)] → W p l e rmX11_feed s m args below meth c H locs 0 0 Q (F0 m 23 ls []) := by
  induction n with
  | zero => intro f g x1 x2 x3 x4 x5 x6 H locs ls hh; exact hh.elim
  | succ n ih => intro f g x1 x2 x3 x4 x5 x6 H locs ls hh hw hl; exact tX11_feed_b23_body C hR ih hh hw hl
set_option maxHeartbeats 4000000 in
set_option maxRecDepth 100000 in
theorem tX11_feed_b0 {K : Int32 → ((Nat → Int32) × (Nat → Nat → Int32)) → Prop} (C : CallFix p m c cX11_feed 8 s args wsX11_feed RX11) (hR : Rti .int p l e rmX11_feed s m args below meth c cX11_feed D A (mT cI cZ) (mWu o h cI cZ) K Q) {f : Nat → Int32} {g : Nat → Nat → Int32} {x1 : Int32} {x2 : Int32} {x3 : Int32} {x4 : Int32} {x5 : Int32} (hh : wpX11_feed_b0 f g x1 x2 x3 x4 x5 K) {H : Heap} {locs : List Loc} {ls : Array Slot} (hw : Wd D A s (mT cI cZ) (mW o h cI cZ f g) H locs) (hl : lv_has ls 8 [(0, .ref o), (1, .int x1), (2, .int x2), (3, .int x3), (4, .int x4), (5, .int x5)]) : W p l e rmX11_feed s m args below meth c H locs 0 0 Q (F0 m 0 ls []) := by
  unfold wpX11_feed_b0 at hh
  refine lv_aload_n C.1 C.2.1 dX11_feed_0 rfl (lv_at hl 0 rfl) ?_
  refine lv_iconst (v := (0 : Int32)) C.1 C.2.1 dX11_feed_1 (by decide) ?_
  refine m_pi C hw (inC inW11) 2 (by decide) (wc w_1464) rfl (ty := .int) (by decide +kernel) rfl rfl (Nat.le_of_ble_eq_true rfl) ms_2 dX11_feed_2 (fun H locs hw => ?_)
  refine lv_aload_n C.1 C.2.1 dX11_feed_5 rfl (lv_at hl 0 rfl) ?_
  refine m_gi C hw (inC inW11) 1 (by decide) (wc w_1463) mg_1 (x := f 1) rfl dX11_feed_6 ?_
  refine lv_bipush (v := (20 : Int32)) C.1 C.2.1 dX11_feed_9 (by decide) ?_
  refine lv_iadd C.1 C.2.1 dX11_feed_11 ?_
  refine lv_sipush (v := (500 : Int32)) C.1 C.2.1 dX11_feed_12 (by decide) ?_
  refine lv_icmp_le (tgt := 20) C.1 C.2.1 dX11_feed_15 (by decide) (fun c15 => ?_) (fun c15 => ?_)
  · replace hh := hh.1 c15
    refine lv_iconst (v := (0 : Int32)) C.1 C.2.1 dX11_feed_20 (by decide) ?_
    refine lv_istore (lv' := [(6, .int (0 : Int32)), (0, .ref o), (1, .int x1), (2, .int x2), (3, .int x3), (4, .int x4), (5, .int x5)]) C.1 C.2.1 dX11_feed_21 hl (by decide) rfl (fun ls hl => ?_)
    obtain ⟨n, hh⟩ := hh
    exact tX11_feed_b23 C hR n _ _ _ _ _ _ _ _ _ _ _ hh hw (lv_sub hl [1, 2, 3, 4, 5, 6, 0] rfl)
  · replace hh := hh.2 c15
    refine lv_iconst (v := (-1 : Int32)) C.1 C.2.1 dX11_feed_18 (by decide) ?_
    exact hR _ _ _ (upd f 2 (0 : Int32), g) _ _ dX11_feed_19 rfl hh hw
theorem ctX11_feed (l : Launch) (D : va_G) (o : Nat) (h : Nat → Nat) (cI cZ : ClassId) (f : Nat → Int32) (g : Nat → Nat → Int32) (x1 : Int32) (x2 : Int32) (x3 : Int32) (x4 : Int32) (x5 : Int32) {K : Int32 → ((Nat → Int32) × (Nat → Nat → Int32)) → Prop} (hh : wpX11_feed f g x1 x2 x3 x4 x5 K) : Ci l yX11_feed wsX11_feed rmX11_feed [.ref o, .int x1, .int x2, .int x3, .int x4, .int x5] D (mT cI cZ) (mWu o h cI cZ) (f, g) K := by
  refine Ci_of (cc := cX11_feed) (maxL := 8) (by decide) rfl (Nat.le_of_ble_eq_true rfl) ?_
  intro p e s m below meth c A Q C hw hR ls hl
  exact tX11_feed_b0 C hR hh hw hl
theorem cdX11_feed : yX11_feed.cls = RX11 ∧ yX11_feed.cls ≠ "java/lang/invoke/MethodHandle" ∧ yX11_feed.cls ≠ "java/lang/invoke/VarHandle" ∧ (parseMethodDescriptor yX11_feed.desc).map (fun d => d.parameters.length) = some 5 := by decide +kernel
abbrev rmX11_isIn : Room := { frames := 0, cells := 0, slots := 0, locals := 0 }
set_option maxHeartbeats 4000000 in
set_option maxRecDepth 100000 in
theorem tX11_isIn_b15 {K : Int32 → Unit → Prop} (C : CallFix p m c cX11_isIn 3 s args wsX11_isIn RX11) (hR : Rti .boolean p l e rmX11_isIn s m args below meth c cX11_isIn D A [] (fun _ : Unit => []) K Q) {k0 : Int32} (hh : wpX11_isIn_b15 k0 K) {H : Heap} {locs : List Loc} {ls : Array Slot} (hw : Wd D A s [] [] H locs) (hl : lv_has ls 3 []) : W p l e rmX11_isIn s m args below meth c H locs 0 0 Q (F0 m 15 ls [.int k0]) := by
  unfold wpX11_isIn_b15 at hh
  obtain ⟨hb15, hh⟩ := hh
  exact hR _ _ _ () _ _ dX11_isIn_15 (isB_nar hb15) hh hw
set_option maxHeartbeats 4000000 in
set_option maxRecDepth 100000 in
theorem tX11_isIn_b14 {K : Int32 → Unit → Prop} (C : CallFix p m c cX11_isIn 3 s args wsX11_isIn RX11) (hR : Rti .boolean p l e rmX11_isIn s m args below meth c cX11_isIn D A [] (fun _ : Unit => []) K Q) (hh : wpX11_isIn_b14  K) {H : Heap} {locs : List Loc} {ls : Array Slot} (hw : Wd D A s [] [] H locs) (hl : lv_has ls 3 []) : W p l e rmX11_isIn s m args below meth c H locs 0 0 Q (F0 m 14 ls []) := by
  unfold wpX11_isIn_b14 at hh
  refine lv_iconst (v := (0 : Int32)) C.1 C.2.1 dX11_isIn_14 (by decide) ?_
  exact tX11_isIn_b15 C hR hh hw hl
set_option maxHeartbeats 4000000 in
set_option maxRecDepth 100000 in
theorem tX11_isIn_b0 {K : Int32 → Unit → Prop} (C : CallFix p m c cX11_isIn 3 s args wsX11_isIn RX11) (hR : Rti .boolean p l e rmX11_isIn s m args below meth c cX11_isIn D A [] (fun _ : Unit => []) K Q) {x0 : Int32} {x1 : Int32} {x2 : Int32} (hh : wpX11_isIn_b0 x0 x1 x2 K) {H : Heap} {locs : List Loc} {ls : Array Slot} (hw : Wd D A s [] [] H locs) (hl : lv_has ls 3 [(0, .int x0), (1, .int x1), (2, .int x2)]) : W p l e rmX11_isIn s m args below meth c H locs 0 0 Q (F0 m 0 ls []) := by
  unfold wpX11_isIn_b0 at hh
  refine lv_iload_n C.1 C.2.1 dX11_isIn_0 rfl (lv_at hl 0 rfl) ?_
  refine lv_iload_n C.1 C.2.1 dX11_isIn_1 rfl (lv_at hl 1 rfl) ?_
  refine lv_icmp_lt (tgt := 14) C.1 C.2.1 dX11_isIn_2 (by decide) (fun c2 => ?_) (fun c2 => ?_)
  · replace hh := hh.1 c2
    exact tX11_isIn_b14 C hR hh hw (lv_sub hl [] rfl)
  · replace hh := hh.2 c2
    refine lv_iload_n C.1 C.2.1 dX11_isIn_5 rfl (lv_at hl 0 rfl) ?_
    refine lv_iload_n C.1 C.2.1 dX11_isIn_6 rfl (lv_at hl 2 rfl) ?_
    refine lv_icmp_gt (tgt := 14) C.1 C.2.1 dX11_isIn_7 (by decide) (fun c7 => ?_) (fun c7 => ?_)
    · replace hh := hh.1 c7
      exact tX11_isIn_b14 C hR hh hw (lv_sub hl [] rfl)
    · replace hh := hh.2 c7
      refine lv_iconst (v := (1 : Int32)) C.1 C.2.1 dX11_isIn_10 (by decide) ?_
      refine lv_goto (tgt := 15) C.1 C.2.1 dX11_isIn_11 (by decide) ?_
      exact tX11_isIn_b15 C hR hh hw (lv_sub hl [] rfl)
theorem ctX11_isIn (l : Launch) (D : va_G) (x0 : Int32) (x1 : Int32) (x2 : Int32) {K : Int32 → Unit → Prop} (hh : wpX11_isIn x0 x1 x2 K) : Ci l yX11_isIn wsX11_isIn rmX11_isIn [.int x0, .int x1, .int x2] D [] (fun _ : Unit => []) () K := by
  refine Ci_of (cc := cX11_isIn) (maxL := 3) (by decide) rfl (Nat.le_of_ble_eq_true rfl) ?_
  intro p e s m below meth c A Q C hw hR ls hl
  exact tX11_isIn_b0 C hR hh hw hl
theorem cdX11_isIn : yX11_isIn.cls ≠ "java/lang/invoke/MethodHandle" ∧ yX11_isIn.cls ≠ "java/lang/invoke/VarHandle" ∧ (parseMethodDescriptor yX11_isIn.desc).map (fun d => d.parameters.length) = some 3 := by decide +kernel
abbrev rmX11_isOf : Room := { frames := 0, cells := 0, slots := 0, locals := 0 }
set_option maxHeartbeats 4000000 in
set_option maxRecDepth 100000 in
theorem tX11_isOf_b14 {K : Int32 → Unit → Prop} (C : CallFix p m c cX11_isOf 2 s args wsX11_isOf RX11) (hR : Rti .boolean p l e rmX11_isOf s m args below meth c cX11_isOf D A [] (fun _ : Unit => []) K Q) {k0 : Int32} (hh : wpX11_isOf_b14 k0 K) {H : Heap} {locs : List Loc} {ls : Array Slot} (hw : Wd D A s [] [] H locs) (hl : lv_has ls 2 []) : W p l e rmX11_isOf s m args below meth c H locs 0 0 Q (F0 m 14 ls [.int k0]) := by
  unfold wpX11_isOf_b14 at hh
  obtain ⟨hb14, hh⟩ := hh
  exact hR _ _ _ () _ _ dX11_isOf_14 (isB_nar hb14) hh hw
set_option maxHeartbeats 4000000 in
set_option maxRecDepth 100000 in
theorem tX11_isOf_b0 {K : Int32 → Unit → Prop} (C : CallFix p m c cX11_isOf 2 s args wsX11_isOf RX11) (hR : Rti .boolean p l e rmX11_isOf s m args below meth c cX11_isOf D A [] (fun _ : Unit => []) K Q) {x0 : Int32} {x1 : Int32} (hh : wpX11_isOf_b0 x0 x1 K) {H : Heap} {locs : List Loc} {ls : Array Slot} (hw : Wd D A s [] [] H locs) (hl : lv_has ls 2 [(0, .int x0), (1, .int x1)]) : W p l e rmX11_isOf s m args below meth c H locs 0 0 Q (F0 m 0 ls []) := by
  unfold wpX11_isOf_b0 at hh
  refine lv_iload_n C.1 C.2.1 dX11_isOf_0 rfl (lv_at hl 0 rfl) ?_
  refine lv_iload_n C.1 C.2.1 dX11_isOf_1 rfl (lv_at hl 1 rfl) ?_
  refine g_ishr C dX11_isOf_2 ?_
  refine lv_iconst (v := (1 : Int32)) C.1 C.2.1 dX11_isOf_3 (by decide) ?_
  refine lv_iand C.1 C.2.1 dX11_isOf_4 ?_
  refine lv_iconst (v := (1 : Int32)) C.1 C.2.1 dX11_isOf_5 (by decide) ?_
  refine lv_icmp_ne (tgt := 13) C.1 C.2.1 dX11_isOf_6 (by decide) (fun c6 => ?_) (fun c6 => ?_)
  · replace hh := hh.1 c6
    refine lv_iconst (v := (0 : Int32)) C.1 C.2.1 dX11_isOf_13 (by decide) ?_
    exact tX11_isOf_b14 C hR hh hw (lv_sub hl [] rfl)
  · replace hh := hh.2 c6
    refine lv_iconst (v := (1 : Int32)) C.1 C.2.1 dX11_isOf_9 (by decide) ?_
    refine lv_goto (tgt := 14) C.1 C.2.1 dX11_isOf_10 (by decide) ?_
    exact tX11_isOf_b14 C hR hh hw (lv_sub hl [] rfl)
theorem ctX11_isOf (l : Launch) (D : va_G) (x0 : Int32) (x1 : Int32) {K : Int32 → Unit → Prop} (hh : wpX11_isOf x0 x1 K) : Ci l yX11_isOf wsX11_isOf rmX11_isOf [.int x0, .int x1] D [] (fun _ : Unit => []) () K := by
  refine Ci_of (cc := cX11_isOf) (maxL := 2) (by decide) rfl (Nat.le_of_ble_eq_true rfl) ?_
  intro p e s m below meth c A Q C hw hR ls hl
  exact tX11_isOf_b0 C hR hh hw hl
theorem cdX11_isOf : yX11_isOf.cls ≠ "java/lang/invoke/MethodHandle" ∧ yX11_isOf.cls ≠ "java/lang/invoke/VarHandle" ∧ (parseMethodDescriptor yX11_isOf.desc).map (fun d => d.parameters.length) = some 2 := by decide +kernel
abbrev rmX11_wrong : Room := { frames := 0, cells := 0, slots := 0, locals := 0 }
set_option maxHeartbeats 4000000 in
set_option maxRecDepth 100000 in
theorem tX11_wrong_b0 {K : Int32 → ((Nat → Int32) × (Nat → Nat → Int32)) → Prop} (C : CallFix p m c cX11_wrong 2 s args wsX11_wrong RX11) (hR : Rti .boolean p l e rmX11_wrong s m args below meth c cX11_wrong D A (mT cI cZ) (mWu o h cI cZ) K Q) {f : Nat → Int32} {g : Nat → Nat → Int32} {x1 : Int32} (hh : wpX11_wrong_b0 f g x1 K) {H : Heap} {locs : List Loc} {ls : Array Slot} (hw : Wd D A s (mT cI cZ) (mW o h cI cZ f g) H locs) (hl : lv_has ls 2 [(0, .ref o), (1, .int x1)]) : W p l e rmX11_wrong s m args below meth c H locs 0 0 Q (F0 m 0 ls []) := by
  unfold wpX11_wrong_b0 at hh
  refine lv_aload_n C.1 C.2.1 dX11_wrong_0 rfl (lv_at hl 0 rfl) ?_
  refine lv_iload_n C.1 C.2.1 dX11_wrong_1 rfl (lv_at hl 1 rfl) ?_
  refine m_pi C hw (inC inW11) 4 (by decide) (wc w_1466) rfl (ty := .int) (by decide +kernel) rfl rfl (Nat.le_of_ble_eq_true rfl) ms_4 dX11_wrong_2 (fun H locs hw => ?_)
  refine lv_aload_n C.1 C.2.1 dX11_wrong_5 rfl (lv_at hl 0 rfl) ?_
  refine lv_aload_n C.1 C.2.1 dX11_wrong_6 rfl (lv_at hl 0 rfl) ?_
  refine m_gi C hw (inC inW11) 10 (by decide) (wc w_1472) mg_10 (x := f 10) rfl dX11_wrong_7 ?_
  refine m_pi C hw (inC inW11) 5 (by decide) (wc w_1467) rfl (ty := .int) (by decide +kernel) rfl rfl (Nat.le_of_ble_eq_true rfl) ms_5 dX11_wrong_10 (fun H locs hw => ?_)
  refine lv_iconst (v := (0 : Int32)) C.1 C.2.1 dX11_wrong_13 (by decide) ?_
  exact hR _ _ _ (upd (upd f 4 x1) 5 (f 10), g) _ _ dX11_wrong_14 rfl hh hw
theorem ctX11_wrong (l : Launch) (D : va_G) (o : Nat) (h : Nat → Nat) (cI cZ : ClassId) (f : Nat → Int32) (g : Nat → Nat → Int32) (x1 : Int32) {K : Int32 → ((Nat → Int32) × (Nat → Nat → Int32)) → Prop} (hh : wpX11_wrong f g x1 K) : Ci l yX11_wrong wsX11_wrong rmX11_wrong [.ref o, .int x1] D (mT cI cZ) (mWu o h cI cZ) (f, g) K := by
  refine Ci_of (cc := cX11_wrong) (maxL := 2) (by decide) rfl (Nat.le_of_ble_eq_true rfl) ?_
  intro p e s m below meth c A Q C hw hR ls hl
  exact tX11_wrong_b0 C hR hh hw hl
theorem cdX11_wrong : yX11_wrong.cls = RX11 ∧ yX11_wrong.cls ≠ "java/lang/invoke/MethodHandle" ∧ yX11_wrong.cls ≠ "java/lang/invoke/VarHandle" ∧ (parseMethodDescriptor yX11_wrong.desc).map (fun d => d.parameters.length) = some 1 := by decide +kernel
abbrev rmX11_wordAt : Room := { frames := 0, cells := 0, slots := 0, locals := 0 }
set_option maxHeartbeats 4000000 in
set_option maxRecDepth 100000 in
theorem tX11_wordAt_b104 {B5 : (Nat → Int32) → (Nat → Nat → Int32) → Int32 → Int32 → Int32 → Int32 → Prop} {K : Int32 → ((Nat → Int32) × (Nat → Nat → Int32)) → Prop} (C : CallFix p m c cX11_wordAt 8 s args wsX11_wordAt RX11) (hR : Rti .int p l e rmX11_wordAt s m args below meth c cX11_wordAt D A (mT cI cZ) (mWu o h cI cZ) K Q) (hB5 : ∀ (f : Nat → Int32) (g : Nat → Nat → Int32) (x1 : Int32) (x2 : Int32) (x3 : Int32) (x4 : Int32) (H : Heap) (locs : List Loc) (ls : Array Slot), B5 f g x1 x2 x3 x4 → Wd D A s (mT cI cZ) (mW o h cI cZ f g) H locs → lv_has ls 8 [(0, .ref o), (1, .int x1), (2, .int x2), (3, .int x3), (4, .int x4)] → W p l e rmX11_wordAt s m args below meth c H locs 0 0 Q (F0 m 5 ls [])) {f : Nat → Int32} {g : Nat → Nat → Int32} {x1 : Int32} {x2 : Int32} {x3 : Int32} {x4 : Int32} {x5 : Int32} {x6 : Int32} (hh : wpX11_wordAt_b104 B5 f g x1 x2 x3 x4 x5 x6 K) {H : Heap} {locs : List Loc} {ls : Array Slot} (hw : Wd D A s (mT cI cZ) (mW o h cI cZ f g) H locs) (hl : lv_has ls 8 [(0, .ref o), (1, .int x1), (2, .int x2), (3, .int x3), (4, .int x4), (5, .int x5), (6, .int x6)]) : W p l e rmX11_wordAt s m args below meth c H locs 0 0 Q (F0 m 104 ls []) := by
  unfold wpX11_wordAt_b104 at hh
  refine lv_iload C.1 C.2.1 dX11_wordAt_104 (lv_at hl 6 rfl) ?_
  refine lv_if_eq (tgt := 111) C.1 C.2.1 dX11_wordAt_106 (by decide) (fun c106 => ?_) (fun c106 => ?_)
  · replace hh := hh.1 c106
    refine lv_iload C.1 C.2.1 dX11_wordAt_111 (lv_at hl 4 rfl) ?_
    refine lv_iload C.1 C.2.1 dX11_wordAt_113 (lv_at hl 5 rfl) ?_
    refine lv_iconst (v := (1 : Int32)) C.1 C.2.1 dX11_wordAt_115 (by decide) ?_
    refine lv_iadd C.1 C.2.1 dX11_wordAt_116 ?_
    refine lv_iadd C.1 C.2.1 dX11_wordAt_117 ?_
    refine lv_istore (lv' := [(4, .int (x4 + (x5 + (1 : Int32)))), (0, .ref o), (1, .int x1), (2, .int x2), (3, .int x3), (5, .int x5), (6, .int x6)]) C.1 C.2.1 dX11_wordAt_118 hl (by decide) rfl (fun ls hl => ?_)
    refine lv_iinc (v := x3 + (1 : Int32)) (lv' := [(3, .int (x3 + (1 : Int32))), (4, .int (x4 + (x5 + (1 : Int32)))), (0, .ref o), (1, .int x1), (2, .int x2), (5, .int x5), (6, .int x6)]) C.1 C.2.1 dX11_wordAt_120 hl (k := 4) rfl rfl (by decide) rfl (fun ls hl => ?_)
    refine lv_goto (tgt := 5) C.1 C.2.1 dX11_wordAt_123 (by decide) ?_
    exact hB5 _ _ _ _ _ _ _ _ _ hh hw (lv_sub hl [2, 3, 4, 0, 1] rfl)
  · replace hh := hh.2 c106
    refine lv_iload_n C.1 C.2.1 dX11_wordAt_109 rfl (lv_at hl 3 rfl) ?_
    exact hR _ _ _ (f, g) _ _ dX11_wordAt_110 rfl hh hw
set_option maxHeartbeats 4000000 in
set_option maxRecDepth 100000 in
theorem tX11_wordAt_b96 {B5 : (Nat → Int32) → (Nat → Nat → Int32) → Int32 → Int32 → Int32 → Int32 → Prop} {B57 : (Nat → Int32) → (Nat → Nat → Int32) → Int32 → Int32 → Int32 → Int32 → Int32 → Int32 → Int32 → Prop} {K : Int32 → ((Nat → Int32) × (Nat → Nat → Int32)) → Prop} (C : CallFix p m c cX11_wordAt 8 s args wsX11_wordAt RX11) (hR : Rti .int p l e rmX11_wordAt s m args below meth c cX11_wordAt D A (mT cI cZ) (mWu o h cI cZ) K Q) (hB5 : ∀ (f : Nat → Int32) (g : Nat → Nat → Int32) (x1 : Int32) (x2 : Int32) (x3 : Int32) (x4 : Int32) (H : Heap) (locs : List Loc) (ls : Array Slot), B5 f g x1 x2 x3 x4 → Wd D A s (mT cI cZ) (mW o h cI cZ f g) H locs → lv_has ls 8 [(0, .ref o), (1, .int x1), (2, .int x2), (3, .int x3), (4, .int x4)] → W p l e rmX11_wordAt s m args below meth c H locs 0 0 Q (F0 m 5 ls [])) (hB57 : ∀ (f : Nat → Int32) (g : Nat → Nat → Int32) (x1 : Int32) (x2 : Int32) (x3 : Int32) (x4 : Int32) (x5 : Int32) (x6 : Int32) (x7 : Int32) (H : Heap) (locs : List Loc) (ls : Array Slot), B57 f g x1 x2 x3 x4 x5 x6 x7 → Wd D A s (mT cI cZ) (mW o h cI cZ f g) H locs → lv_has ls 8 [(0, .ref o), (1, .int x1), (2, .int x2), (3, .int x3), (4, .int x4), (5, .int x5), (6, .int x6), (7, .int x7)] → W p l e rmX11_wordAt s m args below meth c H locs 0 0 Q (F0 m 57 ls [])) {f : Nat → Int32} {g : Nat → Nat → Int32} {k0 : Int32} {x1 : Int32} {x2 : Int32} {x3 : Int32} {x4 : Int32} {x5 : Int32} {x7 : Int32} (hh : wpX11_wordAt_b96 B5 B57 f g k0 x1 x2 x3 x4 x5 x7 K) {H : Heap} {locs : List Loc} {ls : Array Slot} (hw : Wd D A s (mT cI cZ) (mW o h cI cZ f g) H locs) (hl : lv_has ls 8 [(0, .ref o), (1, .int x1), (2, .int x2), (3, .int x3), (4, .int x4), (5, .int x5), (7, .int x7)]) : W p l e rmX11_wordAt s m args below meth c H locs 0 0 Q (F0 m 96 ls [.int k0]) := by
  unfold wpX11_wordAt_b96 at hh
  refine lv_istore (lv' := [(6, .int k0), (0, .ref o), (1, .int x1), (2, .int x2), (3, .int x3), (4, .int x4), (5, .int x5), (7, .int x7)]) C.1 C.2.1 dX11_wordAt_96 hl (by decide) rfl (fun ls hl => ?_)
  refine lv_iinc (v := x7 + (1 : Int32)) (lv' := [(7, .int (x7 + (1 : Int32))), (6, .int k0), (0, .ref o), (1, .int x1), (2, .int x2), (3, .int x3), (4, .int x4), (5, .int x5)]) C.1 C.2.1 dX11_wordAt_98 hl (k := 7) rfl rfl (by decide) rfl (fun ls hl => ?_)
  refine lv_goto (tgt := 57) C.1 C.2.1 dX11_wordAt_101 (by decide) ?_
  exact hB57 _ _ _ _ _ _ _ _ _ _ _ _ hh hw (lv_sub hl [2, 3, 4, 5, 6, 7, 1, 0] rfl)
set_option maxHeartbeats 4000000 in
set_option maxRecDepth 100000 in
theorem tX11_wordAt_b57_body {B5 : (Nat → Int32) → (Nat → Nat → Int32) → Int32 → Int32 → Int32 → Int32 → Prop} {B57 : (Nat → Int32) → (Nat → Nat → Int32) → Int32 → Int32 → Int32 → Int32 → Int32 → Int32 → Int32 → Prop} {K : Int32 → ((Nat → Int32) × (Nat → Nat → Int32)) → Prop} (C : CallFix p m c cX11_wordAt 8 s args wsX11_wordAt RX11) (hR : Rti .int p l e rmX11_wordAt s m args below meth c cX11_wordAt D A (mT cI cZ) (mWu o h cI cZ) K Q) (hB5 : ∀ (f : Nat → Int32) (g : Nat → Nat → Int32) (x1 : Int32) (x2 : Int32) (x3 : Int32) (x4 : Int32) (H : Heap) (locs : List Loc) (ls : Array Slot), B5 f g x1 x2 x3 x4 → Wd D A s (mT cI cZ) (mW o h cI cZ f g) H locs → lv_has ls 8 [(0, .ref o), (1, .int x1), (2, .int x2), (3, .int x3), (4, .int x4)] → W p l e rmX11_wordAt s m args below meth c H locs 0 0 Q (F0 m 5 ls [])) (hB57 : ∀ (f : Nat → Int32) (g : Nat → Nat → Int32) (x1 : Int32) (x2 : Int32) (x3 : Int32) (x4 : Int32) (x5 : Int32) (x6 : Int32) (x7 : Int32) (H : Heap) (locs : List Loc) (ls : Array Slot), B57 f g x1 x2 x3 x4 x5 x6 x7 → Wd D A s (mT cI cZ) (mW o h cI cZ f g) H locs → lv_has ls 8 [(0, .ref o), (1, .int x1), (2, .int x2), (3, .int x3), (4, .int x4), (5, .int x5), (6, .int x6), (7, .int x7)] → W p l e rmX11_wordAt s m args below meth c H locs 0 0 Q (F0 m 57 ls [])) {f : Nat → Int32} {g : Nat → Nat → Int32} {x1 : Int32} {x2 : Int32} {x3 : Int32} {x4 : Int32} {x5 : Int32} {x6 : Int32} {x7 : Int32} (hh : wpX11_wordAt_b57_body B5 B57 f g x1 x2 x3 x4 x5 x6 x7 K) {H : Heap} {locs : List Loc} {ls : Array Slot} (hw : Wd D A s (mT cI cZ) (mW o h cI cZ f g) H locs) (hl : lv_has ls 8 [(0, .ref o), (1, .int x1), (2, .int x2), (3, .int x3), (4, .int x4), (5, .int x5), (6, .int x6), (7, .int x7)]) : W p l e rmX11_wordAt s m args below meth c H locs 0 0 Q (F0 m 57 ls []) := by
  unfold wpX11_wordAt_b57_body at hh
  refine lv_iload C.1 C.2.1 dX11_wordAt_57 (lv_at hl 7 rfl) ?_
  refine lv_iload C.1 C.2.1 dX11_wordAt_59 (lv_at hl 5 rfl) ?_
  refine lv_icmp_ge (tgt := 104) C.1 C.2.1 dX11_wordAt_61 (by decide) (fun c61 => ?_) (fun c61 => ?_)
  · replace hh := hh.1 c61
    exact tX11_wordAt_b104 C hR hB5 hh hw (lv_sub hl [0, 1, 2, 3, 4, 5, 6] rfl)
  · replace hh := hh.2 c61
    refine lv_iload C.1 C.2.1 dX11_wordAt_64 (lv_at hl 6 rfl) ?_
    refine lv_if_eq (tgt := 104) C.1 C.2.1 dX11_wordAt_66 (by decide) (fun c66 => ?_) (fun c66 => ?_)
    · replace hh := hh.1 c66
      exact tX11_wordAt_b104 C hR hB5 hh hw (lv_sub hl [0, 1, 2, 3, 4, 5, 6] rfl)
    · replace hh := hh.2 c66
      refine lv_aload_n C.1 C.2.1 dX11_wordAt_69 rfl (lv_at hl 0 rfl) ?_
      refine m_ga C hw (inC inW11) 3 (by decide) (wc w_1465) mg_3 dX11_wordAt_70 ?_
      refine lv_iload C.1 C.2.1 dX11_wordAt_73 (lv_at hl 4 rfl) ?_
      refine lv_iload C.1 C.2.1 dX11_wordAt_75 (lv_at hl 7 rfl) ?_
      refine lv_iadd C.1 C.2.1 dX11_wordAt_77 ?_
      obtain ⟨hi78, hh⟩ := hh
      refine m_ial C hw mp_3 (x := g 3 (ix (x4 + x7))) hi78 rfl dX11_wordAt_78 ?_
      refine lv_aload_n C.1 C.2.1 dX11_wordAt_79 rfl (lv_at hl 0 rfl) ?_
      refine m_ga C hw (inC inW11) 0 (by decide) (wc w_1462) mg_0 dX11_wordAt_80 ?_
      refine lv_iload_n C.1 C.2.1 dX11_wordAt_83 rfl (lv_at hl 1 rfl) ?_
      refine lv_iload C.1 C.2.1 dX11_wordAt_84 (lv_at hl 7 rfl) ?_
      refine lv_iadd C.1 C.2.1 dX11_wordAt_86 ?_
      obtain ⟨hi87, hh⟩ := hh
      refine m_ial C hw mp_0 (x := g 0 (ix (x1 + x7))) hi87 rfl dX11_wordAt_87 ?_
      refine lv_icmp_ne (tgt := 95) C.1 C.2.1 dX11_wordAt_88 (by decide) (fun c88 => ?_) (fun c88 => ?_)
      · replace hh := hh.1 c88
        refine lv_iconst (v := (0 : Int32)) C.1 C.2.1 dX11_wordAt_95 (by decide) ?_
        exact tX11_wordAt_b96 C hR hB5 hB57 hh hw (lv_sub hl [0, 1, 2, 3, 4, 5, 7] rfl)
      · replace hh := hh.2 c88
        refine lv_iconst (v := (1 : Int32)) C.1 C.2.1 dX11_wordAt_91 (by decide) ?_
        refine lv_goto (tgt := 96) C.1 C.2.1 dX11_wordAt_92 (by decide) ?_
        exact tX11_wordAt_b96 C hR hB5 hB57 hh hw (lv_sub hl [0, 1, 2, 3, 4, 5, 7] rfl)
theorem tX11_wordAt_b57 {B5 : (Nat → Int32) → (Nat → Nat → Int32) → Int32 → Int32 → Int32 → Int32 → Prop} {K : Int32 → ((Nat → Int32) × (Nat → Nat → Int32)) → Prop} (C : CallFix p m c cX11_wordAt 8 s args wsX11_wordAt RX11) (hR : Rti .int p l e rmX11_wordAt s m args below meth c cX11_wordAt D A (mT cI cZ) (mWu o h cI cZ) K Q) (hB5 : ∀ (f : Nat → Int32) (g : Nat → Nat → Int32) (x1 : Int32) (x2 : Int32) (x3 : Int32) (x4 : Int32) (H : Heap) (locs : List Loc) (ls : Array Slot), B5 f g x1 x2 x3 x4 → Wd D A s (mT cI cZ) (mW o h cI cZ f g) H locs → lv_has ls 8 [(0, .ref o), (1, .int x1), (2, .int x2), (3, .int x3), (4, .int x4)] → W p l e rmX11_wordAt s m args below meth c H locs 0 0 Q (F0 m 5 ls [])) (n : Nat) : ∀ (f : Nat → Int32) (g : Nat → Nat → Int32) (x1 : Int32) (x2 : Int32) (x3 : Int32) (x4 : Int32) (x5 : Int32) (x6 : Int32) (x7 : Int32) (H : Heap) (locs : List Loc) (ls : Array Slot), wpX11_wordAt_b57 B5 n f g x1 x2 x3 x4 x5 x6 x7 K → Wd D A s (mT cI cZ) (mW o h cI cZ f g) H locs → lv_has ls 8 [(0, .ref o), (1, .int x1), (2, .int x2), (3, .int x3), (4, .int x4), (5, .int x5), (6, .int x6), (7, .int x7)] → W p l e rmX11_wordAt s m args below meth c H locs 0 0 Q (F0 m 57 ls []) := by
  induction n with
  | zero => intro f g x1 x2 x3 x4 x5 x6 x7 H locs ls hh; exact hh.elim
  | succ n ih => intro f g x1 x2 x3 x4 x5 x6 x7 H locs ls hh hw hl; exact tX11_wordAt_b57_body C hR hB5 ih hh hw hl
set_option maxHeartbeats 4000000 in
set_option maxRecDepth 100000 in
theorem tX11_wordAt_b52 {B5 : (Nat → Int32) → (Nat → Nat → Int32) → Int32 → Int32 → Int32 → Int32 → Prop} {K : Int32 → ((Nat → Int32) × (Nat → Nat → Int32)) → Prop} (C : CallFix p m c cX11_wordAt 8 s args wsX11_wordAt RX11) (hR : Rti .int p l e rmX11_wordAt s m args below meth c cX11_wordAt D A (mT cI cZ) (mWu o h cI cZ) K Q) (hB5 : ∀ (f : Nat → Int32) (g : Nat → Nat → Int32) (x1 : Int32) (x2 : Int32) (x3 : Int32) (x4 : Int32) (H : Heap) (locs : List Loc) (ls : Array Slot), B5 f g x1 x2 x3 x4 → Wd D A s (mT cI cZ) (mW o h cI cZ f g) H locs → lv_has ls 8 [(0, .ref o), (1, .int x1), (2, .int x2), (3, .int x3), (4, .int x4)] → W p l e rmX11_wordAt s m args below meth c H locs 0 0 Q (F0 m 5 ls [])) {f : Nat → Int32} {g : Nat → Nat → Int32} {k0 : Int32} {x1 : Int32} {x2 : Int32} {x3 : Int32} {x4 : Int32} {x5 : Int32} (hh : wpX11_wordAt_b52 B5 f g k0 x1 x2 x3 x4 x5 K) {H : Heap} {locs : List Loc} {ls : Array Slot} (hw : Wd D A s (mT cI cZ) (mW o h cI cZ f g) H locs) (hl : lv_has ls 8 [(0, .ref o), (1, .int x1), (2, .int x2), (3, .int x3), (4, .int x4), (5, .int x5)]) : W p l e rmX11_wordAt s m args below meth c H locs 0 0 Q (F0 m 52 ls [.int k0]) := by
  unfold wpX11_wordAt_b52 at hh
  refine lv_istore (lv' := [(6, .int k0), (0, .ref o), (1, .int x1), (2, .int x2), (3, .int x3), (4, .int x4), (5, .int x5)]) C.1 C.2.1 dX11_wordAt_52 hl (by decide) rfl (fun ls hl => ?_)
  refine lv_iconst (v := (0 : Int32)) C.1 C.2.1 dX11_wordAt_54 (by decide) ?_
  refine lv_istore (lv' := [(7, .int (0 : Int32)), (6, .int k0), (0, .ref o), (1, .int x1), (2, .int x2), (3, .int x3), (4, .int x4), (5, .int x5)]) C.1 C.2.1 dX11_wordAt_55 hl (by decide) rfl (fun ls hl => ?_)
  obtain ⟨n, hh⟩ := hh
  exact tX11_wordAt_b57 C hR hB5 n _ _ _ _ _ _ _ _ _ _ _ _ hh hw (lv_sub hl [2, 3, 4, 5, 6, 7, 1, 0] rfl)
set_option maxHeartbeats 4000000 in
set_option maxRecDepth 100000 in
theorem tX11_wordAt_b18_body {B5 : (Nat → Int32) → (Nat → Nat → Int32) → Int32 → Int32 → Int32 → Int32 → Prop} {B18 : (Nat → Int32) → (Nat → Nat → Int32) → Int32 → Int32 → Int32 → Int32 → Int32 → Prop} {K : Int32 → ((Nat → Int32) × (Nat → Nat → Int32)) → Prop} (C : CallFix p m c cX11_wordAt 8 s args wsX11_wordAt RX11) (hR : Rti .int p l e rmX11_wordAt s m args below meth c cX11_wordAt D A (mT cI cZ) (mWu o h cI cZ) K Q) (hB5 : ∀ (f : Nat → Int32) (g : Nat → Nat → Int32) (x1 : Int32) (x2 : Int32) (x3 : Int32) (x4 : Int32) (H : Heap) (locs : List Loc) (ls : Array Slot), B5 f g x1 x2 x3 x4 → Wd D A s (mT cI cZ) (mW o h cI cZ f g) H locs → lv_has ls 8 [(0, .ref o), (1, .int x1), (2, .int x2), (3, .int x3), (4, .int x4)] → W p l e rmX11_wordAt s m args below meth c H locs 0 0 Q (F0 m 5 ls [])) (hB18 : ∀ (f : Nat → Int32) (g : Nat → Nat → Int32) (x1 : Int32) (x2 : Int32) (x3 : Int32) (x4 : Int32) (x5 : Int32) (H : Heap) (locs : List Loc) (ls : Array Slot), B18 f g x1 x2 x3 x4 x5 → Wd D A s (mT cI cZ) (mW o h cI cZ f g) H locs → lv_has ls 8 [(0, .ref o), (1, .int x1), (2, .int x2), (3, .int x3), (4, .int x4), (5, .int x5)] → W p l e rmX11_wordAt s m args below meth c H locs 0 0 Q (F0 m 18 ls [])) {f : Nat → Int32} {g : Nat → Nat → Int32} {x1 : Int32} {x2 : Int32} {x3 : Int32} {x4 : Int32} {x5 : Int32} (hh : wpX11_wordAt_b18_body B5 B18 f g x1 x2 x3 x4 x5 K) {H : Heap} {locs : List Loc} {ls : Array Slot} (hw : Wd D A s (mT cI cZ) (mW o h cI cZ f g) H locs) (hl : lv_has ls 8 [(0, .ref o), (1, .int x1), (2, .int x2), (3, .int x3), (4, .int x4), (5, .int x5)]) : W p l e rmX11_wordAt s m args below meth c H locs 0 0 Q (F0 m 18 ls []) := by
  unfold wpX11_wordAt_b18_body at hh
  refine lv_aload_n C.1 C.2.1 dX11_wordAt_18 rfl (lv_at hl 0 rfl) ?_
  refine m_ga C hw (inC inW11) 3 (by decide) (wc w_1465) mg_3 dX11_wordAt_19 ?_
  refine lv_iload C.1 C.2.1 dX11_wordAt_22 (lv_at hl 4 rfl) ?_
  refine lv_iload C.1 C.2.1 dX11_wordAt_24 (lv_at hl 5 rfl) ?_
  refine lv_iadd C.1 C.2.1 dX11_wordAt_26 ?_
  obtain ⟨hi27, hh⟩ := hh
  refine m_ial C hw mp_3 (x := g 3 (ix (x4 + x5))) hi27 rfl dX11_wordAt_27 ?_
  refine lv_bipush (v := (32 : Int32)) C.1 C.2.1 dX11_wordAt_28 (by decide) ?_
  refine lv_icmp_eq (tgt := 39) C.1 C.2.1 dX11_wordAt_30 (by decide) (fun c30 => ?_) (fun c30 => ?_)
  · replace hh := hh.1 c30
    refine lv_iload C.1 C.2.1 dX11_wordAt_39 (lv_at hl 5 rfl) ?_
    refine lv_iload_n C.1 C.2.1 dX11_wordAt_41 rfl (lv_at hl 2 rfl) ?_
    refine lv_iload_n C.1 C.2.1 dX11_wordAt_42 rfl (lv_at hl 1 rfl) ?_
    refine lv_isub C.1 C.2.1 dX11_wordAt_43 ?_
    refine lv_icmp_ne (tgt := 51) C.1 C.2.1 dX11_wordAt_44 (by decide) (fun c44 => ?_) (fun c44 => ?_)
    · replace hh := hh.1 c44
      refine lv_iconst (v := (0 : Int32)) C.1 C.2.1 dX11_wordAt_51 (by decide) ?_
      exact tX11_wordAt_b52 C hR hB5 hh hw hl
    · replace hh := hh.2 c44
      refine lv_iconst (v := (1 : Int32)) C.1 C.2.1 dX11_wordAt_47 (by decide) ?_
      refine lv_goto (tgt := 52) C.1 C.2.1 dX11_wordAt_48 (by decide) ?_
      exact tX11_wordAt_b52 C hR hB5 hh hw hl
  · replace hh := hh.2 c30
    refine lv_iinc (v := x5 + (1 : Int32)) (lv' := [(5, .int (x5 + (1 : Int32))), (0, .ref o), (1, .int x1), (2, .int x2), (3, .int x3), (4, .int x4)]) C.1 C.2.1 dX11_wordAt_33 hl (k := 5) rfl rfl (by decide) rfl (fun ls hl => ?_)
    refine lv_goto (tgt := 18) C.1 C.2.1 dX11_wordAt_36 (by decide) ?_
    exact hB18 _ _ _ _ _ _ _ _ _ _ hh hw (lv_sub hl [1, 2, 3, 4, 5, 0] rfl)
theorem tX11_wordAt_b18 {B5 : (Nat → Int32) → (Nat → Nat → Int32) → Int32 → Int32 → Int32 → Int32 → Prop} {K : Int32 → ((Nat → Int32) × (Nat → Nat → Int32)) → Prop} (C : CallFix p m c cX11_wordAt 8 s args wsX11_wordAt RX11) (hR : Rti .int p l e rmX11_wordAt s m args below meth c cX11_wordAt D A (mT cI cZ) (mWu o h cI cZ) K Q) (hB5 : ∀ (f : Nat → Int32) (g : Nat → Nat → Int32) (x1 : Int32) (x2 : Int32) (x3 : Int32) (x4 : Int32) (H : Heap) (locs : List Loc) (ls : Array Slot), B5 f g x1 x2 x3 x4 → Wd D A s (mT cI cZ) (mW o h cI cZ f g) H locs → lv_has ls 8 [(0, .ref o), (1, .int x1), (2, .int x2), (3, .int x3), (4, .int x4)] → W p l e rmX11_wordAt s m args below meth c H locs 0 0 Q (F0 m 5 ls [])) (n : Nat) : ∀ (f : Nat → Int32) (g : Nat → Nat → Int32) (x1 : Int32) (x2 : Int32) (x3 : Int32) (x4 : Int32) (x5 : Int32) (H : Heap) (locs : List Loc) (ls : Array Slot), wpX11_wordAt_b18 B5 n f g x1 x2 x3 x4 x5 K → Wd D A s (mT cI cZ) (mW o h cI cZ f g) H locs → lv_has ls 8 [(0, .ref o), (1, .int x1), (2, .int x2), (3, .int x3), (4, .int x4), (5, .int x5)] → W p l e rmX11_wordAt s m args below meth c H locs 0 0 Q (F0 m 18 ls []) := by
  induction n with
  | zero => intro f g x1 x2 x3 x4 x5 H locs ls hh; exact hh.elim
  | succ n ih => intro f g x1 x2 x3 x4 x5 H locs ls hh hw hl; exact tX11_wordAt_b18_body C hR hB5 ih hh hw hl
set_option maxHeartbeats 4000000 in
set_option maxRecDepth 100000 in
theorem tX11_wordAt_b5_body {B5 : (Nat → Int32) → (Nat → Nat → Int32) → Int32 → Int32 → Int32 → Int32 → Prop} {K : Int32 → ((Nat → Int32) × (Nat → Nat → Int32)) → Prop} (C : CallFix p m c cX11_wordAt 8 s args wsX11_wordAt RX11) (hR : Rti .int p l e rmX11_wordAt s m args below meth c cX11_wordAt D A (mT cI cZ) (mWu o h cI cZ) K Q) (hB5 : ∀ (f : Nat → Int32) (g : Nat → Nat → Int32) (x1 : Int32) (x2 : Int32) (x3 : Int32) (x4 : Int32) (H : Heap) (locs : List Loc) (ls : Array Slot), B5 f g x1 x2 x3 x4 → Wd D A s (mT cI cZ) (mW o h cI cZ f g) H locs → lv_has ls 8 [(0, .ref o), (1, .int x1), (2, .int x2), (3, .int x3), (4, .int x4)] → W p l e rmX11_wordAt s m args below meth c H locs 0 0 Q (F0 m 5 ls [])) {f : Nat → Int32} {g : Nat → Nat → Int32} {x1 : Int32} {x2 : Int32} {x3 : Int32} {x4 : Int32} (hh : wpX11_wordAt_b5_body B5 f g x1 x2 x3 x4 K) {H : Heap} {locs : List Loc} {ls : Array Slot} (hw : Wd D A s (mT cI cZ) (mW o h cI cZ f g) H locs) (hl : lv_has ls 8 [(0, .ref o), (1, .int x1), (2, .int x2), (3, .int x3), (4, .int x4)]) : W p l e rmX11_wordAt s m args below meth c H locs 0 0 Q (F0 m 5 ls []) := by
  unfold wpX11_wordAt_b5_body at hh
  refine lv_iload C.1 C.2.1 dX11_wordAt_5 (lv_at hl 4 rfl) ?_
  refine lv_aload_n C.1 C.2.1 dX11_wordAt_7 rfl (lv_at hl 0 rfl) ?_
  refine m_ga C hw (inC inW11) 3 (by decide) (wc w_1465) mg_3 dX11_wordAt_8 ?_
  refine m_len C hw mp_3 (t0 := 0) rfl (v := (112 : Int32)) (by decide) dX11_wordAt_11 ?_
  refine lv_icmp_ge (tgt := 126) C.1 C.2.1 dX11_wordAt_12 (by decide) (fun c12 => ?_) (fun c12 => ?_)
  · replace hh := hh.1 c12
    refine lv_iconst (v := (-1 : Int32)) C.1 C.2.1 dX11_wordAt_126 (by decide) ?_
    exact hR _ _ _ (f, g) _ _ dX11_wordAt_127 rfl hh hw
  · replace hh := hh.2 c12
    refine lv_iconst (v := (0 : Int32)) C.1 C.2.1 dX11_wordAt_15 (by decide) ?_
    refine lv_istore (lv' := [(5, .int (0 : Int32)), (0, .ref o), (1, .int x1), (2, .int x2), (3, .int x3), (4, .int x4)]) C.1 C.2.1 dX11_wordAt_16 hl (by decide) rfl (fun ls hl => ?_)
    obtain ⟨n, hh⟩ := hh
    exact tX11_wordAt_b18 C hR hB5 n _ _ _ _ _ _ _ _ _ _ hh hw (lv_sub hl [1, 2, 3, 4, 5, 0] rfl)
theorem tX11_wordAt_b5 {K : Int32 → ((Nat → Int32) × (Nat → Nat → Int32)) → Prop} (C : CallFix p m c cX11_wordAt 8 s args wsX11_wordAt RX11) (hR : Rti .int p l e rmX11_wordAt s m args below meth c cX11_wordAt D A (mT cI cZ) (mWu o h cI cZ) K Q) (n : Nat) : ∀ (f : Nat → Int32) (g : Nat → Nat → Int32) (x1 : Int32) (x2 : Int32) (x3 : Int32) (x4 : Int32) (H : Heap) (locs : List Loc) (ls : Array Slot), wpX11_wordAt_b5 n f g x1 x2 x3 x4 K → Wd D A s (mT cI cZ) (mW o h cI cZ f g) H locs → lv_has ls 8 [(0, .ref o), (1, .int x1), (2, .int x2), (3, .int x3), (4, .int x4)] → W p l e rmX11_wordAt s m args below meth c H locs 0 0 Q (F0 m 5 ls []) := by
  induction n with
  | zero => intro f g x1 x2 x3 x4 H locs ls hh; exact hh.elim
  | succ n ih => intro f g x1 x2 x3 x4 H locs ls hh hw hl; exact tX11_wordAt_b5_body C hR ih hh hw hl
set_option maxHeartbeats 4000000 in
set_option maxRecDepth 100000 in
theorem tX11_wordAt_b0 {K : Int32 → ((Nat → Int32) × (Nat → Nat → Int32)) → Prop} (C : CallFix p m c cX11_wordAt 8 s args wsX11_wordAt RX11) (hR : Rti .int p l e rmX11_wordAt s m args below meth c cX11_wordAt D A (mT cI cZ) (mWu o h cI cZ) K Q) {f : Nat → Int32} {g : Nat → Nat → Int32} {x1 : Int32} {x2 : Int32} (hh : wpX11_wordAt_b0 f g x1 x2 K) {H : Heap} {locs : List Loc} {ls : Array Slot} (hw : Wd D A s (mT cI cZ) (mW o h cI cZ f g) H locs) (hl : lv_has ls 8 [(0, .ref o), (1, .int x1), (2, .int x2)]) : W p l e rmX11_wordAt s m args below meth c H locs 0 0 Q (F0 m 0 ls []) := by
  unfold wpX11_wordAt_b0 at hh
  refine lv_iconst (v := (0 : Int32)) C.1 C.2.1 dX11_wordAt_0 (by decide) ?_
  refine lv_istore_n (lv' := [(3, .int (0 : Int32)), (0, .ref o), (1, .int x1), (2, .int x2)]) C.1 C.2.1 dX11_wordAt_1 rfl hl (by decide) rfl (fun ls hl => ?_)
  refine lv_iconst (v := (0 : Int32)) C.1 C.2.1 dX11_wordAt_2 (by decide) ?_
  refine lv_istore (lv' := [(4, .int (0 : Int32)), (3, .int (0 : Int32)), (0, .ref o), (1, .int x1), (2, .int x2)]) C.1 C.2.1 dX11_wordAt_3 hl (by decide) rfl (fun ls hl => ?_)
  obtain ⟨n, hh⟩ := hh
  exact tX11_wordAt_b5 C hR n _ _ _ _ _ _ _ _ _ hh hw (lv_sub hl [2, 3, 4, 1, 0] rfl)
theorem ctX11_wordAt (l : Launch) (D : va_G) (o : Nat) (h : Nat → Nat) (cI cZ : ClassId) (f : Nat → Int32) (g : Nat → Nat → Int32) (x1 : Int32) (x2 : Int32) {K : Int32 → ((Nat → Int32) × (Nat → Nat → Int32)) → Prop} (hh : wpX11_wordAt f g x1 x2 K) : Ci l yX11_wordAt wsX11_wordAt rmX11_wordAt [.ref o, .int x1, .int x2] D (mT cI cZ) (mWu o h cI cZ) (f, g) K := by
  refine Ci_of (cc := cX11_wordAt) (maxL := 8) (by decide) rfl (Nat.le_of_ble_eq_true rfl) ?_
  intro p e s m below meth c A Q C hw hR ls hl
  exact tX11_wordAt_b0 C hR hh hw hl
theorem cdX11_wordAt : yX11_wordAt.cls = RX11 ∧ yX11_wordAt.cls ≠ "java/lang/invoke/MethodHandle" ∧ yX11_wordAt.cls ≠ "java/lang/invoke/VarHandle" ∧ (parseMethodDescriptor yX11_wordAt.desc).map (fun d => d.parameters.length) = some 2 := by decide +kernel
abbrev rmX11_isSmall : Room := { frames := 0, cells := 0, slots := 0, locals := 0 }
set_option maxHeartbeats 4000000 in
set_option maxRecDepth 100000 in
theorem tX11_isSmall_b35 {K : Int32 → ((Nat → Int32) × (Nat → Nat → Int32)) → Prop} (C : CallFix p m c cX11_isSmall 2 s args wsX11_isSmall RX11) (hR : Rti .boolean p l e rmX11_isSmall s m args below meth c cX11_isSmall D A (mT cI cZ) (mWu o h cI cZ) K Q) {f : Nat → Int32} {g : Nat → Nat → Int32} {k0 : Int32} (hh : wpX11_isSmall_b35 f g k0 K) {H : Heap} {locs : List Loc} {ls : Array Slot} (hw : Wd D A s (mT cI cZ) (mW o h cI cZ f g) H locs) (hl : lv_has ls 2 [(0, .ref o)]) : W p l e rmX11_isSmall s m args below meth c H locs 0 0 Q (F0 m 35 ls [.int k0]) := by
  unfold wpX11_isSmall_b35 at hh
  obtain ⟨hb35, hh⟩ := hh
  exact hR _ _ _ (f, g) _ _ dX11_isSmall_35 (isB_nar hb35) hh hw
set_option maxHeartbeats 4000000 in
set_option maxRecDepth 100000 in
theorem tX11_isSmall_b34 {K : Int32 → ((Nat → Int32) × (Nat → Nat → Int32)) → Prop} (C : CallFix p m c cX11_isSmall 2 s args wsX11_isSmall RX11) (hR : Rti .boolean p l e rmX11_isSmall s m args below meth c cX11_isSmall D A (mT cI cZ) (mWu o h cI cZ) K Q) {f : Nat → Int32} {g : Nat → Nat → Int32} (hh : wpX11_isSmall_b34 f g K) {H : Heap} {locs : List Loc} {ls : Array Slot} (hw : Wd D A s (mT cI cZ) (mW o h cI cZ f g) H locs) (hl : lv_has ls 2 [(0, .ref o)]) : W p l e rmX11_isSmall s m args below meth c H locs 0 0 Q (F0 m 34 ls []) := by
  unfold wpX11_isSmall_b34 at hh
  refine lv_iconst (v := (0 : Int32)) C.1 C.2.1 dX11_isSmall_34 (by decide) ?_
  exact tX11_isSmall_b35 C hR hh hw hl
set_option maxHeartbeats 4000000 in
set_option maxRecDepth 100000 in
theorem tX11_isSmall_b0 {K : Int32 → ((Nat → Int32) × (Nat → Nat → Int32)) → Prop} (C : CallFix p m c cX11_isSmall 2 s args wsX11_isSmall RX11) (hR : Rti .boolean p l e rmX11_isSmall s m args below meth c cX11_isSmall D A (mT cI cZ) (mWu o h cI cZ) K Q) {f : Nat → Int32} {g : Nat → Nat → Int32} {x1 : Int32} (hh : wpX11_isSmall_b0 f g x1 K) {H : Heap} {locs : List Loc} {ls : Array Slot} (hw : Wd D A s (mT cI cZ) (mW o h cI cZ f g) H locs) (hl : lv_has ls 2 [(0, .ref o), (1, .int x1)]) : W p l e rmX11_isSmall s m args below meth c H locs 0 0 Q (F0 m 0 ls []) := by
  unfold wpX11_isSmall_b0 at hh
  refine lv_iload_n C.1 C.2.1 dX11_isSmall_0 rfl (lv_at hl 1 rfl) ?_
  refine lv_aload_n C.1 C.2.1 dX11_isSmall_1 rfl (lv_at hl 0 rfl) ?_
  refine m_gi C hw (inC inW11) 6 (by decide) (wc w_1468) mg_6 (x := f 6) rfl dX11_isSmall_2 ?_
  refine lv_icmp_ge (tgt := 34) C.1 C.2.1 dX11_isSmall_5 (by decide) (fun c5 => ?_) (fun c5 => ?_)
  · replace hh := hh.1 c5
    exact tX11_isSmall_b34 C hR hh hw (lv_sub hl [0] rfl)
  · replace hh := hh.2 c5
    refine lv_aload_n C.1 C.2.1 dX11_isSmall_8 rfl (lv_at hl 0 rfl) ?_
    refine m_ga C hw (inC inW11) 0 (by decide) (wc w_1462) mg_0 dX11_isSmall_9 ?_
    refine lv_iload_n C.1 C.2.1 dX11_isSmall_12 rfl (lv_at hl 1 rfl) ?_
    obtain ⟨hi13, hh⟩ := hh
    refine m_ial C hw mp_0 (x := g 0 (ix x1)) hi13 rfl dX11_isSmall_13 ?_
    refine lv_bipush (v := (97 : Int32)) C.1 C.2.1 dX11_isSmall_14 (by decide) ?_
    refine lv_icmp_lt (tgt := 34) C.1 C.2.1 dX11_isSmall_16 (by decide) (fun c16 => ?_) (fun c16 => ?_)
    · replace hh := hh.1 c16
      exact tX11_isSmall_b34 C hR hh hw (lv_sub hl [0] rfl)
    · replace hh := hh.2 c16
      refine lv_aload_n C.1 C.2.1 dX11_isSmall_19 rfl (lv_at hl 0 rfl) ?_
      refine m_ga C hw (inC inW11) 0 (by decide) (wc w_1462) mg_0 dX11_isSmall_20 ?_
      refine lv_iload_n C.1 C.2.1 dX11_isSmall_23 rfl (lv_at hl 1 rfl) ?_
      obtain ⟨hi24, hh⟩ := hh
      refine m_ial C hw mp_0 (x := g 0 (ix x1)) hi24 rfl dX11_isSmall_24 ?_
      refine lv_bipush (v := (122 : Int32)) C.1 C.2.1 dX11_isSmall_25 (by decide) ?_
      refine lv_icmp_gt (tgt := 34) C.1 C.2.1 dX11_isSmall_27 (by decide) (fun c27 => ?_) (fun c27 => ?_)
      · replace hh := hh.1 c27
        exact tX11_isSmall_b34 C hR hh hw (lv_sub hl [0] rfl)
      · replace hh := hh.2 c27
        refine lv_iconst (v := (1 : Int32)) C.1 C.2.1 dX11_isSmall_30 (by decide) ?_
        refine lv_goto (tgt := 35) C.1 C.2.1 dX11_isSmall_31 (by decide) ?_
        exact tX11_isSmall_b35 C hR hh hw (lv_sub hl [0] rfl)
theorem ctX11_isSmall (l : Launch) (D : va_G) (o : Nat) (h : Nat → Nat) (cI cZ : ClassId) (f : Nat → Int32) (g : Nat → Nat → Int32) (x1 : Int32) {K : Int32 → ((Nat → Int32) × (Nat → Nat → Int32)) → Prop} (hh : wpX11_isSmall f g x1 K) : Ci l yX11_isSmall wsX11_isSmall rmX11_isSmall [.ref o, .int x1] D (mT cI cZ) (mWu o h cI cZ) (f, g) K := by
  refine Ci_of (cc := cX11_isSmall) (maxL := 2) (by decide) rfl (Nat.le_of_ble_eq_true rfl) ?_
  intro p e s m below meth c A Q C hw hR ls hl
  exact tX11_isSmall_b0 C hR hh hw hl
theorem cdX11_isSmall : yX11_isSmall.cls = RX11 ∧ yX11_isSmall.cls ≠ "java/lang/invoke/MethodHandle" ∧ yX11_isSmall.cls ≠ "java/lang/invoke/VarHandle" ∧ (parseMethodDescriptor yX11_isSmall.desc).map (fun d => d.parameters.length) = some 1 := by decide +kernel
abbrev rmX11_isDigit : Room := { frames := 0, cells := 0, slots := 0, locals := 0 }
set_option maxHeartbeats 4000000 in
set_option maxRecDepth 100000 in
theorem tX11_isDigit_b35 {K : Int32 → ((Nat → Int32) × (Nat → Nat → Int32)) → Prop} (C : CallFix p m c cX11_isDigit 2 s args wsX11_isDigit RX11) (hR : Rti .boolean p l e rmX11_isDigit s m args below meth c cX11_isDigit D A (mT cI cZ) (mWu o h cI cZ) K Q) {f : Nat → Int32} {g : Nat → Nat → Int32} {k0 : Int32} (hh : wpX11_isDigit_b35 f g k0 K) {H : Heap} {locs : List Loc} {ls : Array Slot} (hw : Wd D A s (mT cI cZ) (mW o h cI cZ f g) H locs) (hl : lv_has ls 2 [(0, .ref o)]) : W p l e rmX11_isDigit s m args below meth c H locs 0 0 Q (F0 m 35 ls [.int k0]) := by
  unfold wpX11_isDigit_b35 at hh
  obtain ⟨hb35, hh⟩ := hh
  exact hR _ _ _ (f, g) _ _ dX11_isDigit_35 (isB_nar hb35) hh hw
set_option maxHeartbeats 4000000 in
set_option maxRecDepth 100000 in
theorem tX11_isDigit_b34 {K : Int32 → ((Nat → Int32) × (Nat → Nat → Int32)) → Prop} (C : CallFix p m c cX11_isDigit 2 s args wsX11_isDigit RX11) (hR : Rti .boolean p l e rmX11_isDigit s m args below meth c cX11_isDigit D A (mT cI cZ) (mWu o h cI cZ) K Q) {f : Nat → Int32} {g : Nat → Nat → Int32} (hh : wpX11_isDigit_b34 f g K) {H : Heap} {locs : List Loc} {ls : Array Slot} (hw : Wd D A s (mT cI cZ) (mW o h cI cZ f g) H locs) (hl : lv_has ls 2 [(0, .ref o)]) : W p l e rmX11_isDigit s m args below meth c H locs 0 0 Q (F0 m 34 ls []) := by
  unfold wpX11_isDigit_b34 at hh
  refine lv_iconst (v := (0 : Int32)) C.1 C.2.1 dX11_isDigit_34 (by decide) ?_
  exact tX11_isDigit_b35 C hR hh hw hl
set_option maxHeartbeats 4000000 in
set_option maxRecDepth 100000 in
theorem tX11_isDigit_b0 {K : Int32 → ((Nat → Int32) × (Nat → Nat → Int32)) → Prop} (C : CallFix p m c cX11_isDigit 2 s args wsX11_isDigit RX11) (hR : Rti .boolean p l e rmX11_isDigit s m args below meth c cX11_isDigit D A (mT cI cZ) (mWu o h cI cZ) K Q) {f : Nat → Int32} {g : Nat → Nat → Int32} {x1 : Int32} (hh : wpX11_isDigit_b0 f g x1 K) {H : Heap} {locs : List Loc} {ls : Array Slot} (hw : Wd D A s (mT cI cZ) (mW o h cI cZ f g) H locs) (hl : lv_has ls 2 [(0, .ref o), (1, .int x1)]) : W p l e rmX11_isDigit s m args below meth c H locs 0 0 Q (F0 m 0 ls []) := by
  unfold wpX11_isDigit_b0 at hh
  refine lv_iload_n C.1 C.2.1 dX11_isDigit_0 rfl (lv_at hl 1 rfl) ?_
  refine lv_aload_n C.1 C.2.1 dX11_isDigit_1 rfl (lv_at hl 0 rfl) ?_
  refine m_gi C hw (inC inW11) 6 (by decide) (wc w_1468) mg_6 (x := f 6) rfl dX11_isDigit_2 ?_
  refine lv_icmp_ge (tgt := 34) C.1 C.2.1 dX11_isDigit_5 (by decide) (fun c5 => ?_) (fun c5 => ?_)
  · replace hh := hh.1 c5
    exact tX11_isDigit_b34 C hR hh hw (lv_sub hl [0] rfl)
  · replace hh := hh.2 c5
    refine lv_aload_n C.1 C.2.1 dX11_isDigit_8 rfl (lv_at hl 0 rfl) ?_
    refine m_ga C hw (inC inW11) 0 (by decide) (wc w_1462) mg_0 dX11_isDigit_9 ?_
    refine lv_iload_n C.1 C.2.1 dX11_isDigit_12 rfl (lv_at hl 1 rfl) ?_
    obtain ⟨hi13, hh⟩ := hh
    refine m_ial C hw mp_0 (x := g 0 (ix x1)) hi13 rfl dX11_isDigit_13 ?_
    refine lv_bipush (v := (48 : Int32)) C.1 C.2.1 dX11_isDigit_14 (by decide) ?_
    refine lv_icmp_lt (tgt := 34) C.1 C.2.1 dX11_isDigit_16 (by decide) (fun c16 => ?_) (fun c16 => ?_)
    · replace hh := hh.1 c16
      exact tX11_isDigit_b34 C hR hh hw (lv_sub hl [0] rfl)
    · replace hh := hh.2 c16
      refine lv_aload_n C.1 C.2.1 dX11_isDigit_19 rfl (lv_at hl 0 rfl) ?_
      refine m_ga C hw (inC inW11) 0 (by decide) (wc w_1462) mg_0 dX11_isDigit_20 ?_
      refine lv_iload_n C.1 C.2.1 dX11_isDigit_23 rfl (lv_at hl 1 rfl) ?_
      obtain ⟨hi24, hh⟩ := hh
      refine m_ial C hw mp_0 (x := g 0 (ix x1)) hi24 rfl dX11_isDigit_24 ?_
      refine lv_bipush (v := (57 : Int32)) C.1 C.2.1 dX11_isDigit_25 (by decide) ?_
      refine lv_icmp_gt (tgt := 34) C.1 C.2.1 dX11_isDigit_27 (by decide) (fun c27 => ?_) (fun c27 => ?_)
      · replace hh := hh.1 c27
        exact tX11_isDigit_b34 C hR hh hw (lv_sub hl [0] rfl)
      · replace hh := hh.2 c27
        refine lv_iconst (v := (1 : Int32)) C.1 C.2.1 dX11_isDigit_30 (by decide) ?_
        refine lv_goto (tgt := 35) C.1 C.2.1 dX11_isDigit_31 (by decide) ?_
        exact tX11_isDigit_b35 C hR hh hw (lv_sub hl [0] rfl)
theorem ctX11_isDigit (l : Launch) (D : va_G) (o : Nat) (h : Nat → Nat) (cI cZ : ClassId) (f : Nat → Int32) (g : Nat → Nat → Int32) (x1 : Int32) {K : Int32 → ((Nat → Int32) × (Nat → Nat → Int32)) → Prop} (hh : wpX11_isDigit f g x1 K) : Ci l yX11_isDigit wsX11_isDigit rmX11_isDigit [.ref o, .int x1] D (mT cI cZ) (mWu o h cI cZ) (f, g) K := by
  refine Ci_of (cc := cX11_isDigit) (maxL := 2) (by decide) rfl (Nat.le_of_ble_eq_true rfl) ?_
  intro p e s m below meth c A Q C hw hR ls hl
  exact tX11_isDigit_b0 C hR hh hw hl
theorem cdX11_isDigit : yX11_isDigit.cls = RX11 ∧ yX11_isDigit.cls ≠ "java/lang/invoke/MethodHandle" ∧ yX11_isDigit.cls ≠ "java/lang/invoke/VarHandle" ∧ (parseMethodDescriptor yX11_isDigit.desc).map (fun d => d.parameters.length) = some 1 := by decide +kernel
abbrev rmX11_isOfNet : Room := { frames := 0, cells := 0, slots := 0, locals := 0 }
set_option maxHeartbeats 4000000 in
set_option maxRecDepth 100000 in
theorem tX11_isOfNet_b50 {K : Int32 → Unit → Prop} (C : CallFix p m c cX11_isOfNet 1 s args wsX11_isOfNet RX11) (hR : Rti .boolean p l e rmX11_isOfNet s m args below meth c cX11_isOfNet D A [] (fun _ : Unit => []) K Q) {k0 : Int32} (hh : wpX11_isOfNet_b50 k0 K) {H : Heap} {locs : List Loc} {ls : Array Slot} (hw : Wd D A s [] [] H locs) (hl : lv_has ls 1 []) : W p l e rmX11_isOfNet s m args below meth c H locs 0 0 Q (F0 m 50 ls [.int k0]) := by
  unfold wpX11_isOfNet_b50 at hh
  obtain ⟨hb50, hh⟩ := hh
  exact hR _ _ _ () _ _ dX11_isOfNet_50 (isB_nar hb50) hh hw
set_option maxHeartbeats 4000000 in
set_option maxRecDepth 100000 in
theorem tX11_isOfNet_b45 {K : Int32 → Unit → Prop} (C : CallFix p m c cX11_isOfNet 1 s args wsX11_isOfNet RX11) (hR : Rti .boolean p l e rmX11_isOfNet s m args below meth c cX11_isOfNet D A [] (fun _ : Unit => []) K Q) (hh : wpX11_isOfNet_b45  K) {H : Heap} {locs : List Loc} {ls : Array Slot} (hw : Wd D A s [] [] H locs) (hl : lv_has ls 1 []) : W p l e rmX11_isOfNet s m args below meth c H locs 0 0 Q (F0 m 45 ls []) := by
  unfold wpX11_isOfNet_b45 at hh
  refine lv_iconst (v := (1 : Int32)) C.1 C.2.1 dX11_isOfNet_45 (by decide) ?_
  refine lv_goto (tgt := 50) C.1 C.2.1 dX11_isOfNet_46 (by decide) ?_
  exact tX11_isOfNet_b50 C hR hh hw hl
set_option maxHeartbeats 4000000 in
set_option maxRecDepth 100000 in
theorem tX11_isOfNet_b0 {K : Int32 → Unit → Prop} (C : CallFix p m c cX11_isOfNet 1 s args wsX11_isOfNet RX11) (hR : Rti .boolean p l e rmX11_isOfNet s m args below meth c cX11_isOfNet D A [] (fun _ : Unit => []) K Q) {x0 : Int32} (hh : wpX11_isOfNet_b0 x0 K) {H : Heap} {locs : List Loc} {ls : Array Slot} (hw : Wd D A s [] [] H locs) (hl : lv_has ls 1 [(0, .int x0)]) : W p l e rmX11_isOfNet s m args below meth c H locs 0 0 Q (F0 m 0 ls []) := by
  unfold wpX11_isOfNet_b0 at hh
  refine lv_iload_n C.1 C.2.1 dX11_isOfNet_0 rfl (lv_at hl 0 rfl) ?_
  refine lv_iconst (v := (2 : Int32)) C.1 C.2.1 dX11_isOfNet_1 (by decide) ?_
  refine lv_icmp_eq (tgt := 45) C.1 C.2.1 dX11_isOfNet_2 (by decide) (fun c2 => ?_) (fun c2 => ?_)
  · replace hh := hh.1 c2
    exact tX11_isOfNet_b45 C hR hh hw (lv_sub hl [] rfl)
  · replace hh := hh.2 c2
    refine lv_iload_n C.1 C.2.1 dX11_isOfNet_5 rfl (lv_at hl 0 rfl) ?_
    refine lv_iconst (v := (3 : Int32)) C.1 C.2.1 dX11_isOfNet_6 (by decide) ?_
    refine lv_icmp_eq (tgt := 45) C.1 C.2.1 dX11_isOfNet_7 (by decide) (fun c7 => ?_) (fun c7 => ?_)
    · replace hh := hh.1 c7
      exact tX11_isOfNet_b45 C hR hh hw (lv_sub hl [] rfl)
    · replace hh := hh.2 c7
      refine lv_iload_n C.1 C.2.1 dX11_isOfNet_10 rfl (lv_at hl 0 rfl) ?_
      refine lv_iconst (v := (4 : Int32)) C.1 C.2.1 dX11_isOfNet_11 (by decide) ?_
      refine lv_icmp_eq (tgt := 45) C.1 C.2.1 dX11_isOfNet_12 (by decide) (fun c12 => ?_) (fun c12 => ?_)
      · replace hh := hh.1 c12
        exact tX11_isOfNet_b45 C hR hh hw (lv_sub hl [] rfl)
      · replace hh := hh.2 c12
        refine lv_iload_n C.1 C.2.1 dX11_isOfNet_15 rfl (lv_at hl 0 rfl) ?_
        refine lv_bipush (v := (9 : Int32)) C.1 C.2.1 dX11_isOfNet_16 (by decide) ?_
        refine lv_icmp_eq (tgt := 45) C.1 C.2.1 dX11_isOfNet_18 (by decide) (fun c18 => ?_) (fun c18 => ?_)
        · replace hh := hh.1 c18
          exact tX11_isOfNet_b45 C hR hh hw (lv_sub hl [] rfl)
        · replace hh := hh.2 c18
          refine lv_iload_n C.1 C.2.1 dX11_isOfNet_21 rfl (lv_at hl 0 rfl) ?_
          refine lv_bipush (v := (10 : Int32)) C.1 C.2.1 dX11_isOfNet_22 (by decide) ?_
          refine lv_icmp_eq (tgt := 45) C.1 C.2.1 dX11_isOfNet_24 (by decide) (fun c24 => ?_) (fun c24 => ?_)
          · replace hh := hh.1 c24
            exact tX11_isOfNet_b45 C hR hh hw (lv_sub hl [] rfl)
          · replace hh := hh.2 c24
            refine lv_iload_n C.1 C.2.1 dX11_isOfNet_27 rfl (lv_at hl 0 rfl) ?_
            refine lv_bipush (v := (13 : Int32)) C.1 C.2.1 dX11_isOfNet_28 (by decide) ?_
            refine lv_icmp_eq (tgt := 45) C.1 C.2.1 dX11_isOfNet_30 (by decide) (fun c30 => ?_) (fun c30 => ?_)
            · replace hh := hh.1 c30
              exact tX11_isOfNet_b45 C hR hh hw (lv_sub hl [] rfl)
            · replace hh := hh.2 c30
              refine lv_iload_n C.1 C.2.1 dX11_isOfNet_33 rfl (lv_at hl 0 rfl) ?_
              refine lv_bipush (v := (14 : Int32)) C.1 C.2.1 dX11_isOfNet_34 (by decide) ?_
              refine lv_icmp_eq (tgt := 45) C.1 C.2.1 dX11_isOfNet_36 (by decide) (fun c36 => ?_) (fun c36 => ?_)
              · replace hh := hh.1 c36
                exact tX11_isOfNet_b45 C hR hh hw (lv_sub hl [] rfl)
              · replace hh := hh.2 c36
                refine lv_iload_n C.1 C.2.1 dX11_isOfNet_39 rfl (lv_at hl 0 rfl) ?_
                refine lv_bipush (v := (20 : Int32)) C.1 C.2.1 dX11_isOfNet_40 (by decide) ?_
                refine lv_icmp_lt (tgt := 49) C.1 C.2.1 dX11_isOfNet_42 (by decide) (fun c42 => ?_) (fun c42 => ?_)
                · replace hh := hh.1 c42
                  refine lv_iconst (v := (0 : Int32)) C.1 C.2.1 dX11_isOfNet_49 (by decide) ?_
                  exact tX11_isOfNet_b50 C hR hh hw (lv_sub hl [] rfl)
                · replace hh := hh.2 c42
                  exact tX11_isOfNet_b45 C hR hh hw (lv_sub hl [] rfl)
theorem ctX11_isOfNet (l : Launch) (D : va_G) (x0 : Int32) {K : Int32 → Unit → Prop} (hh : wpX11_isOfNet x0 K) : Ci l yX11_isOfNet wsX11_isOfNet rmX11_isOfNet [.int x0] D [] (fun _ : Unit => []) () K := by
  refine Ci_of (cc := cX11_isOfNet) (maxL := 1) (by decide) rfl (Nat.le_of_ble_eq_true rfl) ?_
  intro p e s m below meth c A Q C hw hR ls hl
  exact tX11_isOfNet_b0 C hR hh hw hl
theorem cdX11_isOfNet : yX11_isOfNet.cls ≠ "java/lang/invoke/MethodHandle" ∧ yX11_isOfNet.cls ≠ "java/lang/invoke/VarHandle" ∧ (parseMethodDescriptor yX11_isOfNet.desc).map (fun d => d.parameters.length) = some 1 := by decide +kernel
abbrev rmX11_packed : Room := { frames := 0, cells := 0, slots := 0, locals := 0 }
set_option maxHeartbeats 4000000 in
set_option maxRecDepth 100000 in
theorem tX11_packed_b37 {B5 : (Nat → Int32) → (Nat → Nat → Int32) → Int32 → Int32 → Int32 → Int32 → Prop} {K : Int32 → ((Nat → Int32) × (Nat → Nat → Int32)) → Prop} (C : CallFix p m c cX11_packed 5 s args wsX11_packed RX11) (hR : Rti .int p l e rmX11_packed s m args below meth c cX11_packed D A (mT cI cZ) (mWu o h cI cZ) K Q) (hB5 : ∀ (f : Nat → Int32) (g : Nat → Nat → Int32) (x1 : Int32) (x2 : Int32) (x3 : Int32) (x4 : Int32) (H : Heap) (locs : List Loc) (ls : Array Slot), B5 f g x1 x2 x3 x4 → Wd D A s (mT cI cZ) (mW o h cI cZ f g) H locs → lv_has ls 5 [(0, .ref o), (1, .int x1), (2, .int x2), (3, .int x3), (4, .int x4)] → W p l e rmX11_packed s m args below meth c H locs 0 0 Q (F0 m 5 ls [])) {f : Nat → Int32} {g : Nat → Nat → Int32} {k0 : Int32} {k1 : Int32} {x1 : Int32} {x2 : Int32} {x4 : Int32} (hh : wpX11_packed_b37 B5 f g k0 k1 x1 x2 x4 K) {H : Heap} {locs : List Loc} {ls : Array Slot} (hw : Wd D A s (mT cI cZ) (mW o h cI cZ f g) H locs) (hl : lv_has ls 5 [(0, .ref o), (1, .int x1), (2, .int x2), (4, .int x4)]) : W p l e rmX11_packed s m args below meth c H locs 0 0 Q (F0 m 37 ls [.int k1, .int k0]) := by
  unfold wpX11_packed_b37 at hh
  refine lv_ior C.1 C.2.1 dX11_packed_37 ?_
  refine lv_istore_n (lv' := [(3, .int (k0 ||| k1)), (0, .ref o), (1, .int x1), (2, .int x2), (4, .int x4)]) C.1 C.2.1 dX11_packed_38 rfl hl (by decide) rfl (fun ls hl => ?_)
  refine lv_iinc (v := x4 + (1 : Int32)) (lv' := [(4, .int (x4 + (1 : Int32))), (3, .int (k0 ||| k1)), (0, .ref o), (1, .int x1), (2, .int x2)]) C.1 C.2.1 dX11_packed_39 hl (k := 4) rfl rfl (by decide) rfl (fun ls hl => ?_)
  refine lv_goto (tgt := 5) C.1 C.2.1 dX11_packed_42 (by decide) ?_
  exact hB5 _ _ _ _ _ _ _ _ _ hh hw (lv_sub hl [2, 3, 4, 1, 0] rfl)
set_option maxHeartbeats 4000000 in
set_option maxRecDepth 100000 in
theorem tX11_packed_b5_body {B5 : (Nat → Int32) → (Nat → Nat → Int32) → Int32 → Int32 → Int32 → Int32 → Prop} {K : Int32 → ((Nat → Int32) × (Nat → Nat → Int32)) → Prop} (C : CallFix p m c cX11_packed 5 s args wsX11_packed RX11) (hR : Rti .int p l e rmX11_packed s m args below meth c cX11_packed D A (mT cI cZ) (mWu o h cI cZ) K Q) (hB5 : ∀ (f : Nat → Int32) (g : Nat → Nat → Int32) (x1 : Int32) (x2 : Int32) (x3 : Int32) (x4 : Int32) (H : Heap) (locs : List Loc) (ls : Array Slot), B5 f g x1 x2 x3 x4 → Wd D A s (mT cI cZ) (mW o h cI cZ f g) H locs → lv_has ls 5 [(0, .ref o), (1, .int x1), (2, .int x2), (3, .int x3), (4, .int x4)] → W p l e rmX11_packed s m args below meth c H locs 0 0 Q (F0 m 5 ls [])) {f : Nat → Int32} {g : Nat → Nat → Int32} {x1 : Int32} {x2 : Int32} {x3 : Int32} {x4 : Int32} (hh : wpX11_packed_b5_body B5 f g x1 x2 x3 x4 K) {H : Heap} {locs : List Loc} {ls : Array Slot} (hw : Wd D A s (mT cI cZ) (mW o h cI cZ f g) H locs) (hl : lv_has ls 5 [(0, .ref o), (1, .int x1), (2, .int x2), (3, .int x3), (4, .int x4)]) : W p l e rmX11_packed s m args below meth c H locs 0 0 Q (F0 m 5 ls []) := by
  unfold wpX11_packed_b5_body at hh
  refine lv_iload C.1 C.2.1 dX11_packed_5 (lv_at hl 4 rfl) ?_
  refine lv_iload_n C.1 C.2.1 dX11_packed_7 rfl (lv_at hl 1 rfl) ?_
  refine lv_bipush (v := (6 : Int32)) C.1 C.2.1 dX11_packed_8 (by decide) ?_
  refine lv_iadd C.1 C.2.1 dX11_packed_10 ?_
  refine lv_icmp_ge (tgt := 45) C.1 C.2.1 dX11_packed_11 (by decide) (fun c11 => ?_) (fun c11 => ?_)
  · replace hh := hh.1 c11
    refine lv_iload_n C.1 C.2.1 dX11_packed_45 rfl (lv_at hl 3 rfl) ?_
    exact hR _ _ _ (f, g) _ _ dX11_packed_46 rfl hh hw
  · replace hh := hh.2 c11
    refine lv_iload_n C.1 C.2.1 dX11_packed_14 rfl (lv_at hl 3 rfl) ?_
    refine lv_iconst (v := (5 : Int32)) C.1 C.2.1 dX11_packed_15 (by decide) ?_
    refine g_ishl C dX11_packed_16 ?_
    refine lv_iload C.1 C.2.1 dX11_packed_17 (lv_at hl 4 rfl) ?_
    refine lv_iload_n C.1 C.2.1 dX11_packed_19 rfl (lv_at hl 2 rfl) ?_
    refine lv_icmp_ge (tgt := 36) C.1 C.2.1 dX11_packed_20 (by decide) (fun c20 => ?_) (fun c20 => ?_)
    · replace hh := hh.1 c20
      refine lv_iconst (v := (0 : Int32)) C.1 C.2.1 dX11_packed_36 (by decide) ?_
      exact tX11_packed_b37 C hR hB5 hh hw (lv_sub hl [0, 1, 2, 4] rfl)
    · replace hh := hh.2 c20
      refine lv_aload_n C.1 C.2.1 dX11_packed_23 rfl (lv_at hl 0 rfl) ?_
      refine m_ga C hw (inC inW11) 0 (by decide) (wc w_1462) mg_0 dX11_packed_24 ?_
      refine lv_iload C.1 C.2.1 dX11_packed_27 (lv_at hl 4 rfl) ?_
      obtain ⟨hi29, hh⟩ := hh
      refine m_ial C hw mp_0 (x := g 0 (ix x4)) hi29 rfl dX11_packed_29 ?_
      refine lv_bipush (v := (96 : Int32)) C.1 C.2.1 dX11_packed_30 (by decide) ?_
      refine lv_isub C.1 C.2.1 dX11_packed_32 ?_
      refine lv_goto (tgt := 37) C.1 C.2.1 dX11_packed_33 (by decide) ?_
      exact tX11_packed_b37 C hR hB5 hh hw (lv_sub hl [0, 1, 2, 4] rfl)
theorem tX11_packed_b5 {K : Int32 → ((Nat → Int32) × (Nat → Nat → Int32)) → Prop} (C : CallFix p m c cX11_packed 5 s args wsX11_packed RX11) (hR : Rti .int p l e rmX11_packed s m args below meth c cX11_packed D A (mT cI cZ) (mWu o h cI cZ) K Q) (n : Nat) : ∀ (f : Nat → Int32) (g : Nat → Nat → Int32) (x1 : Int32) (x2 : Int32) (x3 : Int32) (x4 : Int32) (H : Heap) (locs : List Loc) (ls : Array Slot), wpX11_packed_b5 n f g x1 x2 x3 x4 K → Wd D A s (mT cI cZ) (mW o h cI cZ f g) H locs → lv_has ls 5 [(0, .ref o), (1, .int x1), (2, .int x2), (3, .int x3), (4, .int x4)] → W p l e rmX11_packed s m args below meth c H locs 0 0 Q (F0 m 5 ls []) := by
  induction n with
  | zero => intro f g x1 x2 x3 x4 H locs ls hh; exact hh.elim
  | succ n ih => intro f g x1 x2 x3 x4 H locs ls hh hw hl; exact tX11_packed_b5_body C hR ih hh hw hl
set_option maxHeartbeats 4000000 in
set_option maxRecDepth 100000 in
theorem tX11_packed_b0 {K : Int32 → ((Nat → Int32) × (Nat → Nat → Int32)) → Prop} (C : CallFix p m c cX11_packed 5 s args wsX11_packed RX11) (hR : Rti .int p l e rmX11_packed s m args below meth c cX11_packed D A (mT cI cZ) (mWu o h cI cZ) K Q) {f : Nat → Int32} {g : Nat → Nat → Int32} {x1 : Int32} {x2 : Int32} (hh : wpX11_packed_b0 f g x1 x2 K) {H : Heap} {locs : List Loc} {ls : Array Slot} (hw : Wd D A s (mT cI cZ) (mW o h cI cZ f g) H locs) (hl : lv_has ls 5 [(0, .ref o), (1, .int x1), (2, .int x2)]) : W p l e rmX11_packed s m args below meth c H locs 0 0 Q (F0 m 0 ls []) := by
  unfold wpX11_packed_b0 at hh
  refine lv_iconst (v := (0 : Int32)) C.1 C.2.1 dX11_packed_0 (by decide) ?_
  refine lv_istore_n (lv' := [(3, .int (0 : Int32)), (0, .ref o), (1, .int x1), (2, .int x2)]) C.1 C.2.1 dX11_packed_1 rfl hl (by decide) rfl (fun ls hl => ?_)
  refine lv_iload_n C.1 C.2.1 dX11_packed_2 rfl (lv_at hl 2 rfl) ?_
  refine lv_istore (lv' := [(4, .int x1), (3, .int (0 : Int32)), (0, .ref o), (1, .int x1), (2, .int x2)]) C.1 C.2.1 dX11_packed_3 hl (by decide) rfl (fun ls hl => ?_)
  obtain ⟨n, hh⟩ := hh
  exact tX11_packed_b5 C hR n _ _ _ _ _ _ _ _ _ hh hw (lv_sub hl [2, 3, 4, 1, 0] rfl)
theorem ctX11_packed (l : Launch) (D : va_G) (o : Nat) (h : Nat → Nat) (cI cZ : ClassId) (f : Nat → Int32) (g : Nat → Nat → Int32) (x1 : Int32) (x2 : Int32) {K : Int32 → ((Nat → Int32) × (Nat → Nat → Int32)) → Prop} (hh : wpX11_packed f g x1 x2 K) : Ci l yX11_packed wsX11_packed rmX11_packed [.ref o, .int x1, .int x2] D (mT cI cZ) (mWu o h cI cZ) (f, g) K := by
  refine Ci_of (cc := cX11_packed) (maxL := 5) (by decide) rfl (Nat.le_of_ble_eq_true rfl) ?_
  intro p e s m below meth c A Q C hw hR ls hl
  exact tX11_packed_b0 C hR hh hw hl
theorem cdX11_packed : yX11_packed.cls = RX11 ∧ yX11_packed.cls ≠ "java/lang/invoke/MethodHandle" ∧ yX11_packed.cls ≠ "java/lang/invoke/VarHandle" ∧ (parseMethodDescriptor yX11_packed.desc).map (fun d => d.parameters.length) = some 2 := by decide +kernel
abbrev rmX11_take : Room := { frames := 1, cells := 0, slots := 0, locals := 27 }
set_option maxHeartbeats 4000000 in
set_option maxRecDepth 100000 in
theorem tX11_take_b407 {K : ((Nat → Int32) × (Nat → Nat → Int32)) → Prop} (C : CallFix p m c cX11_take 2 s args wsX11_take RX11) (hR : Rtv p l e rmX11_take s m args below meth c cX11_take D A (mT cI cZ) (mWu o h cI cZ) K Q) {f : Nat → Int32} {g : Nat → Nat → Int32} (hh : wpX11_take_b407 f g K) {H : Heap} {locs : List Loc} {ls : Array Slot} (hw : Wd D A s (mT cI cZ) (mW o h cI cZ f g) H locs) (hl : lv_has ls 2 [(0, .ref o)]) : W p l e rmX11_take s m args below meth c H locs 0 0 Q (F0 m 407 ls []) := by
  unfold wpX11_take_b407 at hh
  exact hR _ _ (f, g) _ _ dX11_take_407 hh hw
set_option maxHeartbeats 4000000 in
set_option maxRecDepth 100000 in
theorem tX11_take_b394 {K : ((Nat → Int32) × (Nat → Nat → Int32)) → Prop} (C : CallFix p m c cX11_take 2 s args wsX11_take RX11) (hR : Rtv p l e rmX11_take s m args below meth c cX11_take D A (mT cI cZ) (mWu o h cI cZ) K Q) {f : Nat → Int32} {g : Nat → Nat → Int32} {k1 : Int32} (hh : wpX11_take_b394 f g k1 K) {H : Heap} {locs : List Loc} {ls : Array Slot} (hw : Wd D A s (mT cI cZ) (mW o h cI cZ f g) H locs) (hl : lv_has ls 2 [(0, .ref o)]) : W p l e rmX11_take s m args below meth c H locs 0 0 Q (F0 m 394 ls [.int k1, .ref o]) := by
  unfold wpX11_take_b394 at hh
  refine m_pi C hw (inC inW11) 8 (by decide) (wc w_1470) rfl (ty := .int) (by decide +kernel) rfl rfl (Nat.le_of_ble_eq_true rfl) ms_8 dX11_take_394 (fun H locs hw => ?_)
  refine lv_aload_n C.1 C.2.1 dX11_take_397 rfl (lv_at hl 0 rfl) ?_
  refine lv_dup C.1 C.2.1 dX11_take_398 rfl ?_
  refine m_gi C hw (inC inW11) 7 (by decide) (wc w_1469) mg_7 (x := f 7) rfl dX11_take_399 ?_
  refine lv_iconst (v := (1 : Int32)) C.1 C.2.1 dX11_take_402 (by decide) ?_
  refine lv_iadd C.1 C.2.1 dX11_take_403 ?_
  refine m_pi C hw (inC inW11) 7 (by decide) (wc w_1469) rfl (ty := .int) (by decide +kernel) rfl rfl (Nat.le_of_ble_eq_true rfl) ms_7 dX11_take_404 (fun H locs hw => ?_)
  exact tX11_take_b407 C hR hh hw hl
set_option maxHeartbeats 4000000 in
set_option maxRecDepth 100000 in
theorem tX11_take_b389 {K : ((Nat → Int32) × (Nat → Nat → Int32)) → Prop} (C : CallFix p m c cX11_take 2 s args wsX11_take RX11) (hR : Rtv p l e rmX11_take s m args below meth c cX11_take D A (mT cI cZ) (mWu o h cI cZ) K Q) {f : Nat → Int32} {g : Nat → Nat → Int32} (hh : wpX11_take_b389 f g K) {H : Heap} {locs : List Loc} {ls : Array Slot} (hw : Wd D A s (mT cI cZ) (mW o h cI cZ f g) H locs) (hl : lv_has ls 2 [(0, .ref o)]) : W p l e rmX11_take s m args below meth c H locs 0 0 Q (F0 m 389 ls [.ref o]) := by
  unfold wpX11_take_b389 at hh
  refine lv_iconst (v := (4 : Int32)) C.1 C.2.1 dX11_take_389 (by decide) ?_
  refine lv_goto (tgt := 394) C.1 C.2.1 dX11_take_390 (by decide) ?_
  exact tX11_take_b394 C hR hh hw hl
set_option maxHeartbeats 4000000 in
set_option maxRecDepth 100000 in
theorem tX11_take_b374 {K : ((Nat → Int32) × (Nat → Nat → Int32)) → Prop} (C : CallFix p m c cX11_take 2 s args wsX11_take RX11) (hR : Rtv p l e rmX11_take s m args below meth c cX11_take D A (mT cI cZ) (mWu o h cI cZ) K Q) {f : Nat → Int32} {g : Nat → Nat → Int32} {k0 : Int32} (hh : wpX11_take_b374 f g k0 K) {H : Heap} {locs : List Loc} {ls : Array Slot} (hw : Wd D A s (mT cI cZ) (mW o h cI cZ f g) H locs) (hl : lv_has ls 2 [(0, .ref o)]) : W p l e rmX11_take s m args below meth c H locs 0 0 Q (F0 m 374 ls [.int k0]) := by
  unfold wpX11_take_b374 at hh
  refine lv_istore_n (lv' := [(1, .int k0), (0, .ref o)]) C.1 C.2.1 dX11_take_374 rfl hl (by decide) rfl (fun ls hl => ?_)
  refine lv_aload_n C.1 C.2.1 dX11_take_375 rfl (lv_at hl 1 rfl) ?_
  refine lv_aload_n C.1 C.2.1 dX11_take_376 rfl (lv_at hl 1 rfl) ?_
  refine m_gi C hw (inC inW11) 9 (by decide) (wc w_1471) mg_9 (x := f 9) rfl dX11_take_377 ?_
  refine lv_bipush (v := (59 : Int32)) C.1 C.2.1 dX11_take_380 (by decide) ?_
  refine lv_icmp_eq (tgt := 389) C.1 C.2.1 dX11_take_382 (by decide) (fun c382 => ?_) (fun c382 => ?_)
  · replace hh := hh.1 c382
    exact tX11_take_b389 C hR hh hw (lv_sub hl [1] rfl)
  · replace hh := hh.2 c382
    refine lv_iload_n C.1 C.2.1 dX11_take_385 rfl (lv_at hl 0 rfl) ?_
    refine lv_if_eq (tgt := 393) C.1 C.2.1 dX11_take_386 (by decide) (fun c386 => ?_) (fun c386 => ?_)
    · replace hh := hh.1 c386
      refine lv_iconst (v := (5 : Int32)) C.1 C.2.1 dX11_take_393 (by decide) ?_
      exact tX11_take_b394 C hR hh hw (lv_sub hl [1] rfl)
    · replace hh := hh.2 c386
      exact tX11_take_b389 C hR hh hw (lv_sub hl [1] rfl)
set_option maxHeartbeats 4000000 in
set_option maxRecDepth 100000 in
theorem tX11_take_b373 {K : ((Nat → Int32) × (Nat → Nat → Int32)) → Prop} (C : CallFix p m c cX11_take 2 s args wsX11_take RX11) (hR : Rtv p l e rmX11_take s m args below meth c cX11_take D A (mT cI cZ) (mWu o h cI cZ) K Q) {f : Nat → Int32} {g : Nat → Nat → Int32} (hh : wpX11_take_b373 f g K) {H : Heap} {locs : List Loc} {ls : Array Slot} (hw : Wd D A s (mT cI cZ) (mW o h cI cZ f g) H locs) (hl : lv_has ls 2 [(0, .ref o)]) : W p l e rmX11_take s m args below meth c H locs 0 0 Q (F0 m 373 ls []) := by
  unfold wpX11_take_b373 at hh
  refine lv_iconst (v := (0 : Int32)) C.1 C.2.1 dX11_take_373 (by decide) ?_
  exact tX11_take_b374 C hR hh hw hl
set_option maxHeartbeats 4000000 in
set_option maxRecDepth 100000 in
theorem tX11_take_b369 {K : ((Nat → Int32) × (Nat → Nat → Int32)) → Prop} (C : CallFix p m c cX11_take 2 s args wsX11_take RX11) (hR : Rtv p l e rmX11_take s m args below meth c cX11_take D A (mT cI cZ) (mWu o h cI cZ) K Q) {f : Nat → Int32} {g : Nat → Nat → Int32} (hh : wpX11_take_b369 f g K) {H : Heap} {locs : List Loc} {ls : Array Slot} (hw : Wd D A s (mT cI cZ) (mW o h cI cZ f g) H locs) (hl : lv_has ls 2 [(0, .ref o)]) : W p l e rmX11_take s m args below meth c H locs 0 0 Q (F0 m 369 ls []) := by
  unfold wpX11_take_b369 at hh
  refine lv_iconst (v := (1 : Int32)) C.1 C.2.1 dX11_take_369 (by decide) ?_
  refine lv_goto (tgt := 374) C.1 C.2.1 dX11_take_370 (by decide) ?_
  exact tX11_take_b374 C hR hh hw hl
set_option maxHeartbeats 4000000 in
set_option maxRecDepth 100000 in
theorem tX11_take_b306 {B258 : (Nat → Int32) → (Nat → Nat → Int32) → Prop} {K : ((Nat → Int32) × (Nat → Nat → Int32)) → Prop} (C : CallFix p m c cX11_take 2 s args wsX11_take RX11) (hR : Rtv p l e rmX11_take s m args below meth c cX11_take D A (mT cI cZ) (mWu o h cI cZ) K Q) (hB258 : ∀ (f : Nat → Int32) (g : Nat → Nat → Int32) (H : Heap) (locs : List Loc) (ls : Array Slot), B258 f g → Wd D A s (mT cI cZ) (mW o h cI cZ f g) H locs → lv_has ls 2 [(0, .ref o)] → W p l e rmX11_take s m args below meth c H locs 0 0 Q (F0 m 258 ls [])) {f : Nat → Int32} {g : Nat → Nat → Int32} {k1 : Int32} (hh : wpX11_take_b306 B258 f g k1 K) {H : Heap} {locs : List Loc} {ls : Array Slot} (hw : Wd D A s (mT cI cZ) (mW o h cI cZ f g) H locs) (hl : lv_has ls 2 [(0, .ref o)]) : W p l e rmX11_take s m args below meth c H locs 0 0 Q (F0 m 306 ls [.int k1, .ref o]) := by
  unfold wpX11_take_b306 at hh
  refine m_pi C hw (inC inW11) 9 (by decide) (wc w_1471) rfl (ty := .int) (by decide +kernel) rfl rfl (Nat.le_of_ble_eq_true rfl) ms_9 dX11_take_306 (fun H locs hw => ?_)
  refine lv_aload_n C.1 C.2.1 dX11_take_309 rfl (lv_at hl 0 rfl) ?_
  refine lv_dup C.1 C.2.1 dX11_take_310 rfl ?_
  refine m_gi C hw (inC inW11) 7 (by decide) (wc w_1469) mg_7 (x := f 7) rfl dX11_take_311 ?_
  refine lv_iconst (v := (1 : Int32)) C.1 C.2.1 dX11_take_314 (by decide) ?_
  refine lv_iadd C.1 C.2.1 dX11_take_315 ?_
  refine m_pi C hw (inC inW11) 7 (by decide) (wc w_1469) rfl (ty := .int) (by decide +kernel) rfl rfl (Nat.le_of_ble_eq_true rfl) ms_7 dX11_take_316 (fun H locs hw => ?_)
  refine lv_goto (tgt := 258) C.1 C.2.1 dX11_take_319 (by decide) ?_
  exact hB258 _ _ _ _ _ hh hw hl
set_option maxHeartbeats 4000000 in
set_option maxRecDepth 100000 in
theorem tX11_take_b258_body {B258 : (Nat → Int32) → (Nat → Nat → Int32) → Prop} {K : ((Nat → Int32) × (Nat → Nat → Int32)) → Prop} (C : CallFix p m c cX11_take 2 s args wsX11_take RX11) (hR : Rtv p l e rmX11_take s m args below meth c cX11_take D A (mT cI cZ) (mWu o h cI cZ) K Q) (hB258 : ∀ (f : Nat → Int32) (g : Nat → Nat → Int32) (H : Heap) (locs : List Loc) (ls : Array Slot), B258 f g → Wd D A s (mT cI cZ) (mW o h cI cZ f g) H locs → lv_has ls 2 [(0, .ref o)] → W p l e rmX11_take s m args below meth c H locs 0 0 Q (F0 m 258 ls [])) {f : Nat → Int32} {g : Nat → Nat → Int32} (hh : wpX11_take_b258_body B258 f g K) {H : Heap} {locs : List Loc} {ls : Array Slot} (hw : Wd D A s (mT cI cZ) (mW o h cI cZ f g) H locs) (hl : lv_has ls 2 [(0, .ref o)]) : W p l e rmX11_take s m args below meth c H locs 0 0 Q (F0 m 258 ls []) := by
  unfold wpX11_take_b258_body at hh
  refine lv_aload_n C.1 C.2.1 dX11_take_258 rfl (lv_at hl 0 rfl) ?_
  refine lv_aload_n C.1 C.2.1 dX11_take_259 rfl (lv_at hl 0 rfl) ?_
  refine m_gi C hw (inC inW11) 7 (by decide) (wc w_1469) mg_7 (x := f 7) rfl dX11_take_260 ?_
  refine m_Vi C hw (ctX11_isDigit l D o h cI cZ f g (f 7) hh) (cwV 1 C.2.2.2.2 (gd_V w_1717 w_1719 w_61 w_125 w_1720) rfl rfl rfl cdX11_isDigit ⟨Nat.le_of_ble_eq_true rfl, Nat.le_of_ble_eq_true rfl⟩) rfl hl.1 (Nat.le_of_ble_eq_true rfl) dX11_take_263 ⟨Nat.zero_le _, Nat.zero_le _⟩ (fun r263 u263 H locs hh hw => ?_) rfl
  refine lv_if_eq (tgt := 407) C.1 C.2.1 dX11_take_266 (by decide) (fun c266 => ?_) (fun c266 => ?_)
  · replace hh := hh.1 c266
    exact tX11_take_b407 C hR hh hw hl
  · replace hh := hh.2 c266
    refine lv_aload_n C.1 C.2.1 dX11_take_269 rfl (lv_at hl 0 rfl) ?_
    refine lv_aload_n C.1 C.2.1 dX11_take_270 rfl (lv_at hl 0 rfl) ?_
    refine m_gi C hw (inC inW11) 9 (by decide) (wc w_1471) mg_9 (x := u263.1 9) rfl dX11_take_271 ?_
    refine lv_bipush (v := (99 : Int32)) C.1 C.2.1 dX11_take_274 (by decide) ?_
    refine lv_icmp_le (tgt := 286) C.1 C.2.1 dX11_take_276 (by decide) (fun c276 => ?_) (fun c276 => ?_)
    · replace hh := hh.1 c276
      refine lv_bipush (v := (10 : Int32)) C.1 C.2.1 dX11_take_286 (by decide) ?_
      refine lv_aload_n C.1 C.2.1 dX11_take_288 rfl (lv_at hl 0 rfl) ?_
      refine m_gi C hw (inC inW11) 9 (by decide) (wc w_1471) mg_9 (x := u263.1 9) rfl dX11_take_289 ?_
      refine lv_imul C.1 C.2.1 dX11_take_292 ?_
      refine lv_aload_n C.1 C.2.1 dX11_take_293 rfl (lv_at hl 0 rfl) ?_
      refine m_ga C hw (inC inW11) 0 (by decide) (wc w_1462) mg_0 dX11_take_294 ?_
      refine lv_aload_n C.1 C.2.1 dX11_take_297 rfl (lv_at hl 0 rfl) ?_
      refine m_gi C hw (inC inW11) 7 (by decide) (wc w_1469) mg_7 (x := u263.1 7) rfl dX11_take_298 ?_
      obtain ⟨hi301, hh⟩ := hh
      refine m_ial C hw mp_0 (x := u263.2 0 (ix (u263.1 7))) hi301 rfl dX11_take_301 ?_
      refine lv_iadd C.1 C.2.1 dX11_take_302 ?_
      refine lv_bipush (v := (48 : Int32)) C.1 C.2.1 dX11_take_303 (by decide) ?_
      refine lv_isub C.1 C.2.1 dX11_take_305 ?_
      exact tX11_take_b306 C hR hB258 hh hw hl
    · replace hh := hh.2 c276
      refine lv_aload_n C.1 C.2.1 dX11_take_279 rfl (lv_at hl 0 rfl) ?_
      refine m_gi C hw (inC inW11) 9 (by decide) (wc w_1471) mg_9 (x := u263.1 9) rfl dX11_take_280 ?_
      refine lv_goto (tgt := 306) C.1 C.2.1 dX11_take_283 (by decide) ?_
      exact tX11_take_b306 C hR hB258 hh hw hl
theorem tX11_take_b258 {K : ((Nat → Int32) × (Nat → Nat → Int32)) → Prop} (C : CallFix p m c cX11_take 2 s args wsX11_take RX11) (hR : Rtv p l e rmX11_take s m args below meth c cX11_take D A (mT cI cZ) (mWu o h cI cZ) K Q) (n : Nat) : ∀ (f : Nat → Int32) (g : Nat → Nat → Int32) (H : Heap) (locs : List Loc) (ls : Array Slot), wpX11_take_b258 n f g K → Wd D A s (mT cI cZ) (mW o h cI cZ f g) H locs → lv_has ls 2 [(0, .ref o)] → W p l e rmX11_take s m args below meth c H locs 0 0 Q (F0 m 258 ls []) := by
  induction n with
  | zero => intro f g H locs ls hh; exact hh.elim
  | succ n ih => intro f g H locs ls hh hw hl; exact tX11_take_b258_body C hR ih hh hw hl
set_option maxHeartbeats 4000000 in
set_option maxRecDepth 100000 in
theorem tX11_take_b234 {K : ((Nat → Int32) × (Nat → Nat → Int32)) → Prop} (C : CallFix p m c cX11_take 2 s args wsX11_take RX11) (hR : Rtv p l e rmX11_take s m args below meth c cX11_take D A (mT cI cZ) (mWu o h cI cZ) K Q) {f : Nat → Int32} {g : Nat → Nat → Int32} (hh : wpX11_take_b234 f g K) {H : Heap} {locs : List Loc} {ls : Array Slot} (hw : Wd D A s (mT cI cZ) (mW o h cI cZ f g) H locs) (hl : lv_has ls 2 [(0, .ref o)]) : W p l e rmX11_take s m args below meth c H locs 0 0 Q (F0 m 234 ls []) := by
  unfold wpX11_take_b234 at hh
  refine lv_goto (tgt := 407) C.1 C.2.1 dX11_take_234 (by decide) ?_
  exact tX11_take_b407 C hR hh hw hl
set_option maxHeartbeats 4000000 in
set_option maxRecDepth 100000 in
theorem tX11_take_b207 {K : ((Nat → Int32) × (Nat → Nat → Int32)) → Prop} (C : CallFix p m c cX11_take 2 s args wsX11_take RX11) (hR : Rtv p l e rmX11_take s m args below meth c cX11_take D A (mT cI cZ) (mWu o h cI cZ) K Q) {f : Nat → Int32} {g : Nat → Nat → Int32} {k1 : Int32} (hh : wpX11_take_b207 f g k1 K) {H : Heap} {locs : List Loc} {ls : Array Slot} (hw : Wd D A s (mT cI cZ) (mW o h cI cZ f g) H locs) (hl : lv_has ls 2 [(0, .ref o)]) : W p l e rmX11_take s m args below meth c H locs 0 0 Q (F0 m 207 ls [.int k1, .ref o]) := by
  unfold wpX11_take_b207 at hh
  refine m_pi C hw (inC inW11) 8 (by decide) (wc w_1470) rfl (ty := .int) (by decide +kernel) rfl rfl (Nat.le_of_ble_eq_true rfl) ms_8 dX11_take_207 (fun H locs hw => ?_)
  refine lv_aload_n C.1 C.2.1 dX11_take_210 rfl (lv_at hl 0 rfl) ?_
  refine m_gi C hw (inC inW11) 8 (by decide) (wc w_1470) mg_8 (x := k1) rfl dX11_take_211 ?_
  refine lv_iconst (v := (2 : Int32)) C.1 C.2.1 dX11_take_214 (by decide) ?_
  refine lv_icmp_ne (tgt := 234) C.1 C.2.1 dX11_take_215 (by decide) (fun c215 => ?_) (fun c215 => ?_)
  · replace hh := hh.1 c215
    exact tX11_take_b234 C hR hh hw hl
  · replace hh := hh.2 c215
    refine lv_aload_n C.1 C.2.1 dX11_take_218 rfl (lv_at hl 0 rfl) ?_
    refine lv_aload_n C.1 C.2.1 dX11_take_219 rfl (lv_at hl 0 rfl) ?_
    refine lv_aload_n C.1 C.2.1 dX11_take_220 rfl (lv_at hl 0 rfl) ?_
    refine m_gi C hw (inC inW11) 10 (by decide) (wc w_1472) mg_10 (x := f 10) rfl dX11_take_221 ?_
    refine lv_aload_n C.1 C.2.1 dX11_take_224 rfl (lv_at hl 0 rfl) ?_
    refine m_gi C hw (inC inW11) 7 (by decide) (wc w_1469) mg_7 (x := f 7) rfl dX11_take_225 ?_
    refine m_Vi C hw (ctX11_packed l D o h cI cZ (upd f 8 k1) g (f 10) (f 7) hh) (cwV 2 C.2.2.2.2 (gd_V w_1713 w_1715 w_60 w_125 w_1716) rfl rfl rfl cdX11_packed ⟨Nat.le_of_ble_eq_true rfl, Nat.le_of_ble_eq_true rfl⟩) rfl hl.1 (Nat.le_of_ble_eq_true rfl) dX11_take_228 ⟨Nat.zero_le _, Nat.zero_le _⟩ (fun r228 u228 H locs hh hw => ?_) rfl
    refine m_pi C hw (inC inW11) 9 (by decide) (wc w_1471) rfl (ty := .int) (by decide +kernel) rfl rfl (Nat.le_of_ble_eq_true rfl) ms_9 dX11_take_231 (fun H locs hw => ?_)
    exact tX11_take_b234 C hR hh hw hl
set_option maxHeartbeats 4000000 in
set_option maxRecDepth 100000 in
theorem tX11_take_b206 {K : ((Nat → Int32) × (Nat → Nat → Int32)) → Prop} (C : CallFix p m c cX11_take 2 s args wsX11_take RX11) (hR : Rtv p l e rmX11_take s m args below meth c cX11_take D A (mT cI cZ) (mWu o h cI cZ) K Q) {f : Nat → Int32} {g : Nat → Nat → Int32} (hh : wpX11_take_b206 f g K) {H : Heap} {locs : List Loc} {ls : Array Slot} (hw : Wd D A s (mT cI cZ) (mW o h cI cZ f g) H locs) (hl : lv_has ls 2 [(0, .ref o)]) : W p l e rmX11_take s m args below meth c H locs 0 0 Q (F0 m 206 ls [.ref o]) := by
  unfold wpX11_take_b206 at hh
  refine lv_iconst (v := (5 : Int32)) C.1 C.2.1 dX11_take_206 (by decide) ?_
  exact tX11_take_b207 C hR hh hw hl
set_option maxHeartbeats 4000000 in
set_option maxRecDepth 100000 in
theorem tX11_take_b171 {K : ((Nat → Int32) × (Nat → Nat → Int32)) → Prop} (C : CallFix p m c cX11_take 2 s args wsX11_take RX11) (hR : Rtv p l e rmX11_take s m args below meth c cX11_take D A (mT cI cZ) (mWu o h cI cZ) K Q) {f : Nat → Int32} {g : Nat → Nat → Int32} {k0 : Int32} (hh : wpX11_take_b171 f g k0 K) {H : Heap} {locs : List Loc} {ls : Array Slot} (hw : Wd D A s (mT cI cZ) (mW o h cI cZ f g) H locs) (hl : lv_has ls 2 [(0, .ref o)]) : W p l e rmX11_take s m args below meth c H locs 0 0 Q (F0 m 171 ls [.int k0]) := by
  unfold wpX11_take_b171 at hh
  refine lv_istore_n (lv' := [(1, .int k0), (0, .ref o)]) C.1 C.2.1 dX11_take_171 rfl hl (by decide) rfl (fun ls hl => ?_)
  refine lv_aload_n C.1 C.2.1 dX11_take_172 rfl (lv_at hl 1 rfl) ?_
  refine lv_iload_n C.1 C.2.1 dX11_take_173 rfl (lv_at hl 0 rfl) ?_
  refine lv_if_eq (tgt := 181) C.1 C.2.1 dX11_take_174 (by decide) (fun c174 => ?_) (fun c174 => ?_)
  · replace hh := hh.1 c174
    refine lv_aload_n C.1 C.2.1 dX11_take_181 rfl (lv_at hl 1 rfl) ?_
    refine m_gi C hw (inC inW11) 11 (by decide) (wc w_1473) mg_11 (x := f 11) rfl dX11_take_182 ?_
    refine lv_if_eq (tgt := 206) C.1 C.2.1 dX11_take_185 (by decide) (fun c185 => ?_) (fun c185 => ?_)
    · replace hh := hh.1 c185
      exact tX11_take_b206 C hR hh hw (lv_sub hl [1] rfl)
    · replace hh := hh.2 c185
      refine lv_aload_n C.1 C.2.1 dX11_take_188 rfl (lv_at hl 1 rfl) ?_
      refine m_gi C hw (inC inW11) 7 (by decide) (wc w_1469) mg_7 (x := f 7) rfl dX11_take_189 ?_
      refine lv_aload_n C.1 C.2.1 dX11_take_192 rfl (lv_at hl 1 rfl) ?_
      refine m_gi C hw (inC inW11) 10 (by decide) (wc w_1472) mg_10 (x := f 10) rfl dX11_take_193 ?_
      refine lv_isub C.1 C.2.1 dX11_take_196 ?_
      refine lv_bipush (v := (7 : Int32)) C.1 C.2.1 dX11_take_197 (by decide) ?_
      refine lv_icmp_ge (tgt := 206) C.1 C.2.1 dX11_take_199 (by decide) (fun c199 => ?_) (fun c199 => ?_)
      · replace hh := hh.1 c199
        exact tX11_take_b206 C hR hh hw (lv_sub hl [1] rfl)
      · replace hh := hh.2 c199
        refine lv_iconst (v := (2 : Int32)) C.1 C.2.1 dX11_take_202 (by decide) ?_
        refine lv_goto (tgt := 207) C.1 C.2.1 dX11_take_203 (by decide) ?_
        exact tX11_take_b207 C hR hh hw (lv_sub hl [1] rfl)
  · replace hh := hh.2 c174
    refine lv_iconst (v := (1 : Int32)) C.1 C.2.1 dX11_take_177 (by decide) ?_
    refine lv_goto (tgt := 207) C.1 C.2.1 dX11_take_178 (by decide) ?_
    exact tX11_take_b207 C hR hh hw (lv_sub hl [1] rfl)
set_option maxHeartbeats 4000000 in
set_option maxRecDepth 100000 in
theorem tX11_take_b170 {K : ((Nat → Int32) × (Nat → Nat → Int32)) → Prop} (C : CallFix p m c cX11_take 2 s args wsX11_take RX11) (hR : Rtv p l e rmX11_take s m args below meth c cX11_take D A (mT cI cZ) (mWu o h cI cZ) K Q) {f : Nat → Int32} {g : Nat → Nat → Int32} (hh : wpX11_take_b170 f g K) {H : Heap} {locs : List Loc} {ls : Array Slot} (hw : Wd D A s (mT cI cZ) (mW o h cI cZ f g) H locs) (hl : lv_has ls 2 [(0, .ref o)]) : W p l e rmX11_take s m args below meth c H locs 0 0 Q (F0 m 170 ls []) := by
  unfold wpX11_take_b170 at hh
  refine lv_iconst (v := (0 : Int32)) C.1 C.2.1 dX11_take_170 (by decide) ?_
  exact tX11_take_b171 C hR hh hw hl
set_option maxHeartbeats 4000000 in
set_option maxRecDepth 100000 in
theorem tX11_take_b166 {K : ((Nat → Int32) × (Nat → Nat → Int32)) → Prop} (C : CallFix p m c cX11_take 2 s args wsX11_take RX11) (hR : Rtv p l e rmX11_take s m args below meth c cX11_take D A (mT cI cZ) (mWu o h cI cZ) K Q) {f : Nat → Int32} {g : Nat → Nat → Int32} (hh : wpX11_take_b166 f g K) {H : Heap} {locs : List Loc} {ls : Array Slot} (hw : Wd D A s (mT cI cZ) (mW o h cI cZ f g) H locs) (hl : lv_has ls 2 [(0, .ref o)]) : W p l e rmX11_take s m args below meth c H locs 0 0 Q (F0 m 166 ls []) := by
  unfold wpX11_take_b166 at hh
  refine lv_iconst (v := (1 : Int32)) C.1 C.2.1 dX11_take_166 (by decide) ?_
  refine lv_goto (tgt := 171) C.1 C.2.1 dX11_take_167 (by decide) ?_
  exact tX11_take_b171 C hR hh hw hl
set_option maxHeartbeats 4000000 in
set_option maxRecDepth 100000 in
theorem tX11_take_b90_body {B90 : (Nat → Int32) → (Nat → Nat → Int32) → Prop} {K : ((Nat → Int32) × (Nat → Nat → Int32)) → Prop} (C : CallFix p m c cX11_take 2 s args wsX11_take RX11) (hR : Rtv p l e rmX11_take s m args below meth c cX11_take D A (mT cI cZ) (mWu o h cI cZ) K Q) (hB90 : ∀ (f : Nat → Int32) (g : Nat → Nat → Int32) (H : Heap) (locs : List Loc) (ls : Array Slot), B90 f g → Wd D A s (mT cI cZ) (mW o h cI cZ f g) H locs → lv_has ls 2 [(0, .ref o)] → W p l e rmX11_take s m args below meth c H locs 0 0 Q (F0 m 90 ls [])) {f : Nat → Int32} {g : Nat → Nat → Int32} (hh : wpX11_take_b90_body B90 f g K) {H : Heap} {locs : List Loc} {ls : Array Slot} (hw : Wd D A s (mT cI cZ) (mW o h cI cZ f g) H locs) (hl : lv_has ls 2 [(0, .ref o)]) : W p l e rmX11_take s m args below meth c H locs 0 0 Q (F0 m 90 ls []) := by
  unfold wpX11_take_b90_body at hh
  refine lv_aload_n C.1 C.2.1 dX11_take_90 rfl (lv_at hl 0 rfl) ?_
  refine lv_aload_n C.1 C.2.1 dX11_take_91 rfl (lv_at hl 0 rfl) ?_
  refine m_gi C hw (inC inW11) 7 (by decide) (wc w_1469) mg_7 (x := f 7) rfl dX11_take_92 ?_
  refine m_Vi C hw (ctX11_isSmall l D o h cI cZ f g (f 7) hh) (cwV 1 C.2.2.2.2 (gd_V w_1702 w_1704 w_58 w_125 w_1705) rfl rfl rfl cdX11_isSmall ⟨Nat.le_of_ble_eq_true rfl, Nat.le_of_ble_eq_true rfl⟩) rfl hl.1 (Nat.le_of_ble_eq_true rfl) dX11_take_95 ⟨Nat.zero_le _, Nat.zero_le _⟩ (fun r95 u95 H locs hh hw => ?_) rfl
  refine lv_if_eq (tgt := 114) C.1 C.2.1 dX11_take_98 (by decide) (fun c98 => ?_) (fun c98 => ?_)
  · replace hh := hh.1 c98
    refine lv_aload_n C.1 C.2.1 dX11_take_114 rfl (lv_at hl 0 rfl) ?_
    refine lv_aload_n C.1 C.2.1 dX11_take_115 rfl (lv_at hl 0 rfl) ?_
    refine lv_aload_n C.1 C.2.1 dX11_take_116 rfl (lv_at hl 0 rfl) ?_
    refine m_gi C hw (inC inW11) 10 (by decide) (wc w_1472) mg_10 (x := u95.1 10) rfl dX11_take_117 ?_
    refine lv_aload_n C.1 C.2.1 dX11_take_120 rfl (lv_at hl 0 rfl) ?_
    refine m_gi C hw (inC inW11) 7 (by decide) (wc w_1469) mg_7 (x := u95.1 7) rfl dX11_take_121 ?_
    refine m_Vi C hw (ctX11_wordAt l D o h cI cZ u95.1 u95.2 (u95.1 10) (u95.1 7) hh) (cwV 2 C.2.2.2.2 (gd_V w_1706 w_1708 w_59 w_125 w_1709) rfl rfl rfl cdX11_wordAt ⟨Nat.le_of_ble_eq_true rfl, Nat.le_of_ble_eq_true rfl⟩) rfl hl.1 (Nat.le_of_ble_eq_true rfl) dX11_take_124 ⟨Nat.zero_le _, Nat.zero_le _⟩ (fun r124 u124 H locs hh hw => ?_) rfl
    refine m_pi C hw (inC inW11) 9 (by decide) (wc w_1471) rfl (ty := .int) (by decide +kernel) rfl rfl (Nat.le_of_ble_eq_true rfl) ms_9 dX11_take_127 (fun H locs hw => ?_)
    refine lv_aload_n C.1 C.2.1 dX11_take_130 rfl (lv_at hl 0 rfl) ?_
    refine m_gi C hw (inC inW11) 9 (by decide) (wc w_1471) mg_9 (x := r124) rfl dX11_take_131 ?_
    refine lv_if_lt (tgt := 170) C.1 C.2.1 dX11_take_134 (by decide) (fun c134 => ?_) (fun c134 => ?_)
    · replace hh := hh.1 c134
      exact tX11_take_b170 C hR hh hw hl
    · replace hh := hh.2 c134
      refine lv_aload_n C.1 C.2.1 dX11_take_137 rfl (lv_at hl 0 rfl) ?_
      refine m_gi C hw (inC inW11) 11 (by decide) (wc w_1473) mg_11 (x := u124.1 11) rfl dX11_take_138 ?_
      refine lv_if_eq (tgt := 157) C.1 C.2.1 dX11_take_141 (by decide) (fun c141 => ?_) (fun c141 => ?_)
      · replace hh := hh.1 c141
        refine lv_aload_n C.1 C.2.1 dX11_take_157 rfl (lv_at hl 0 rfl) ?_
        refine m_gi C hw (inC inW11) 9 (by decide) (wc w_1471) mg_9 (x := r124) rfl dX11_take_158 ?_
        refine lv_bipush (v := (20 : Int32)) C.1 C.2.1 dX11_take_161 (by decide) ?_
        refine lv_icmp_ge (tgt := 170) C.1 C.2.1 dX11_take_163 (by decide) (fun c163 => ?_) (fun c163 => ?_)
        · replace hh := hh.1 c163
          exact tX11_take_b170 C hR hh hw hl
        · replace hh := hh.2 c163
          exact tX11_take_b166 C hR hh hw hl
      · replace hh := hh.2 c141
        refine lv_aload_n C.1 C.2.1 dX11_take_144 rfl (lv_at hl 0 rfl) ?_
        refine m_gi C hw (inC inW11) 9 (by decide) (wc w_1471) mg_9 (x := r124) rfl dX11_take_145 ?_
        refine wd_Si C hw (ctX11_isOfNet l D r124 hh) (va_cwS 1 C.2.2.2.2 (gd_S w_1710 w_1711 (ini_cls rfl w_125) w_1712) rfl rfl rfl cdX11_isOfNet ⟨Nat.le_of_ble_eq_true rfl, Nat.le_of_ble_eq_true rfl⟩) rfl hl.1 (Nat.le_of_ble_eq_true rfl) dX11_take_148 ⟨Nat.zero_le _, Nat.zero_le _⟩ (fun r148 H locs hh hw => ?_) rfl
        refine lv_if_eq (tgt := 170) C.1 C.2.1 dX11_take_151 (by decide) (fun c151 => ?_) (fun c151 => ?_)
        · replace hh := hh.1 c151
          exact tX11_take_b170 C hR hh hw hl
        · replace hh := hh.2 c151
          refine lv_goto (tgt := 166) C.1 C.2.1 dX11_take_154 (by decide) ?_
          exact tX11_take_b166 C hR hh hw hl
  · replace hh := hh.2 c98
    refine lv_aload_n C.1 C.2.1 dX11_take_101 rfl (lv_at hl 0 rfl) ?_
    refine lv_dup C.1 C.2.1 dX11_take_102 rfl ?_
    refine m_gi C hw (inC inW11) 7 (by decide) (wc w_1469) mg_7 (x := u95.1 7) rfl dX11_take_103 ?_
    refine lv_iconst (v := (1 : Int32)) C.1 C.2.1 dX11_take_106 (by decide) ?_
    refine lv_iadd C.1 C.2.1 dX11_take_107 ?_
    refine m_pi C hw (inC inW11) 7 (by decide) (wc w_1469) rfl (ty := .int) (by decide +kernel) rfl rfl (Nat.le_of_ble_eq_true rfl) ms_7 dX11_take_108 (fun H locs hw => ?_)
    refine lv_goto (tgt := 90) C.1 C.2.1 dX11_take_111 (by decide) ?_
    exact hB90 _ _ _ _ _ hh hw hl
theorem tX11_take_b90 {K : ((Nat → Int32) × (Nat → Nat → Int32)) → Prop} (C : CallFix p m c cX11_take 2 s args wsX11_take RX11) (hR : Rtv p l e rmX11_take s m args below meth c cX11_take D A (mT cI cZ) (mWu o h cI cZ) K Q) (n : Nat) : ∀ (f : Nat → Int32) (g : Nat → Nat → Int32) (H : Heap) (locs : List Loc) (ls : Array Slot), wpX11_take_b90 n f g K → Wd D A s (mT cI cZ) (mW o h cI cZ f g) H locs → lv_has ls 2 [(0, .ref o)] → W p l e rmX11_take s m args below meth c H locs 0 0 Q (F0 m 90 ls []) := by
  induction n with
  | zero => intro f g H locs ls hh; exact hh.elim
  | succ n ih => intro f g H locs ls hh hw hl; exact tX11_take_b90_body C hR ih hh hw hl
set_option maxHeartbeats 4000000 in
set_option maxRecDepth 100000 in
theorem tX11_take_b52 {K : ((Nat → Int32) × (Nat → Nat → Int32)) → Prop} (C : CallFix p m c cX11_take 2 s args wsX11_take RX11) (hR : Rtv p l e rmX11_take s m args below meth c cX11_take D A (mT cI cZ) (mWu o h cI cZ) K Q) {f : Nat → Int32} {g : Nat → Nat → Int32} (hh : wpX11_take_b52 f g K) {H : Heap} {locs : List Loc} {ls : Array Slot} (hw : Wd D A s (mT cI cZ) (mW o h cI cZ f g) H locs) (hl : lv_has ls 2 [(0, .ref o)]) : W p l e rmX11_take s m args below meth c H locs 0 0 Q (F0 m 52 ls []) := by
  unfold wpX11_take_b52 at hh
  refine lv_aload_n C.1 C.2.1 dX11_take_52 rfl (lv_at hl 0 rfl) ?_
  refine lv_aload_n C.1 C.2.1 dX11_take_53 rfl (lv_at hl 0 rfl) ?_
  refine m_gi C hw (inC inW11) 7 (by decide) (wc w_1469) mg_7 (x := f 7) rfl dX11_take_54 ?_
  refine m_pi C hw (inC inW11) 10 (by decide) (wc w_1472) rfl (ty := .int) (by decide +kernel) rfl rfl (Nat.le_of_ble_eq_true rfl) ms_10 dX11_take_57 (fun H locs hw => ?_)
  refine lv_aload_n C.1 C.2.1 dX11_take_60 rfl (lv_at hl 0 rfl) ?_
  refine m_gi C hw (inC inW11) 7 (by decide) (wc w_1469) mg_7 (x := f 7) rfl dX11_take_61 ?_
  refine lv_aload_n C.1 C.2.1 dX11_take_64 rfl (lv_at hl 0 rfl) ?_
  refine m_gi C hw (inC inW11) 6 (by decide) (wc w_1468) mg_6 (x := f 6) rfl dX11_take_65 ?_
  refine lv_icmp_ne (tgt := 79) C.1 C.2.1 dX11_take_68 (by decide) (fun c68 => ?_) (fun c68 => ?_)
  · replace hh := hh.1 c68
    refine lv_aload_n C.1 C.2.1 dX11_take_79 rfl (lv_at hl 0 rfl) ?_
    refine lv_aload_n C.1 C.2.1 dX11_take_80 rfl (lv_at hl 0 rfl) ?_
    refine m_gi C hw (inC inW11) 7 (by decide) (wc w_1469) mg_7 (x := f 7) rfl dX11_take_81 ?_
    refine m_Vi C hw (ctX11_isSmall l D o h cI cZ (upd f 10 (f 7)) g (f 7) hh) (cwV 1 C.2.2.2.2 (gd_V w_1702 w_1704 w_58 w_125 w_1705) rfl rfl rfl cdX11_isSmall ⟨Nat.le_of_ble_eq_true rfl, Nat.le_of_ble_eq_true rfl⟩) rfl hl.1 (Nat.le_of_ble_eq_true rfl) dX11_take_84 ⟨Nat.zero_le _, Nat.zero_le _⟩ (fun r84 u84 H locs hh hw => ?_) rfl
    refine lv_if_eq (tgt := 237) C.1 C.2.1 dX11_take_87 (by decide) (fun c87 => ?_) (fun c87 => ?_)
    · replace hh := hh.1 c87
      refine lv_aload_n C.1 C.2.1 dX11_take_237 rfl (lv_at hl 0 rfl) ?_
      refine lv_aload_n C.1 C.2.1 dX11_take_238 rfl (lv_at hl 0 rfl) ?_
      refine m_gi C hw (inC inW11) 7 (by decide) (wc w_1469) mg_7 (x := u84.1 7) rfl dX11_take_239 ?_
      refine m_Vi C hw (ctX11_isDigit l D o h cI cZ u84.1 u84.2 (u84.1 7) hh) (cwV 1 C.2.2.2.2 (gd_V w_1717 w_1719 w_61 w_125 w_1720) rfl rfl rfl cdX11_isDigit ⟨Nat.le_of_ble_eq_true rfl, Nat.le_of_ble_eq_true rfl⟩) rfl hl.1 (Nat.le_of_ble_eq_true rfl) dX11_take_242 ⟨Nat.zero_le _, Nat.zero_le _⟩ (fun r242 u242 H locs hh hw => ?_) rfl
      refine lv_if_eq (tgt := 322) C.1 C.2.1 dX11_take_245 (by decide) (fun c245 => ?_) (fun c245 => ?_)
      · replace hh := hh.1 c245
        refine lv_aload_n C.1 C.2.1 dX11_take_322 rfl (lv_at hl 0 rfl) ?_
        refine lv_aload_n C.1 C.2.1 dX11_take_323 rfl (lv_at hl 0 rfl) ?_
        refine m_ga C hw (inC inW11) 0 (by decide) (wc w_1462) mg_0 dX11_take_324 ?_
        refine lv_aload_n C.1 C.2.1 dX11_take_327 rfl (lv_at hl 0 rfl) ?_
        refine m_gi C hw (inC inW11) 7 (by decide) (wc w_1469) mg_7 (x := u242.1 7) rfl dX11_take_328 ?_
        obtain ⟨hi331, hh⟩ := hh
        refine m_ial C hw mp_0 (x := u242.2 0 (ix (u242.1 7))) hi331 rfl dX11_take_331 ?_
        refine m_pi C hw (inC inW11) 9 (by decide) (wc w_1471) rfl (ty := .int) (by decide +kernel) rfl rfl (Nat.le_of_ble_eq_true rfl) ms_9 dX11_take_332 (fun H locs hw => ?_)
        refine lv_aload_n C.1 C.2.1 dX11_take_335 rfl (lv_at hl 0 rfl) ?_
        refine m_gi C hw (inC inW11) 11 (by decide) (wc w_1473) mg_11 (x := u242.1 11) rfl dX11_take_336 ?_
        refine lv_if_eq (tgt := 373) C.1 C.2.1 dX11_take_339 (by decide) (fun c339 => ?_) (fun c339 => ?_)
        · replace hh := hh.1 c339
          exact tX11_take_b373 C hR hh hw hl
        · replace hh := hh.2 c339
          refine lv_aload_n C.1 C.2.1 dX11_take_342 rfl (lv_at hl 0 rfl) ?_
          refine m_gi C hw (inC inW11) 9 (by decide) (wc w_1471) mg_9 (x := u242.2 0 (ix (u242.1 7))) rfl dX11_take_343 ?_
          refine lv_bipush (v := (40 : Int32)) C.1 C.2.1 dX11_take_346 (by decide) ?_
          refine lv_icmp_eq (tgt := 369) C.1 C.2.1 dX11_take_348 (by decide) (fun c348 => ?_) (fun c348 => ?_)
          · replace hh := hh.1 c348
            exact tX11_take_b369 C hR hh hw hl
          · replace hh := hh.2 c348
            refine lv_aload_n C.1 C.2.1 dX11_take_351 rfl (lv_at hl 0 rfl) ?_
            refine m_gi C hw (inC inW11) 9 (by decide) (wc w_1471) mg_9 (x := u242.2 0 (ix (u242.1 7))) rfl dX11_take_352 ?_
            refine lv_bipush (v := (41 : Int32)) C.1 C.2.1 dX11_take_355 (by decide) ?_
            refine lv_icmp_eq (tgt := 369) C.1 C.2.1 dX11_take_357 (by decide) (fun c357 => ?_) (fun c357 => ?_)
            · replace hh := hh.1 c357
              exact tX11_take_b369 C hR hh hw hl
            · replace hh := hh.2 c357
              refine lv_aload_n C.1 C.2.1 dX11_take_360 rfl (lv_at hl 0 rfl) ?_
              refine m_gi C hw (inC inW11) 9 (by decide) (wc w_1471) mg_9 (x := u242.2 0 (ix (u242.1 7))) rfl dX11_take_361 ?_
              refine lv_bipush (v := (61 : Int32)) C.1 C.2.1 dX11_take_364 (by decide) ?_
              refine lv_icmp_ne (tgt := 373) C.1 C.2.1 dX11_take_366 (by decide) (fun c366 => ?_) (fun c366 => ?_)
              · replace hh := hh.1 c366
                exact tX11_take_b373 C hR hh hw hl
              · replace hh := hh.2 c366
                exact tX11_take_b369 C hR hh hw hl
      · replace hh := hh.2 c245
        refine lv_aload_n C.1 C.2.1 dX11_take_248 rfl (lv_at hl 0 rfl) ?_
        refine lv_iconst (v := (3 : Int32)) C.1 C.2.1 dX11_take_249 (by decide) ?_
        refine m_pi C hw (inC inW11) 8 (by decide) (wc w_1470) rfl (ty := .int) (by decide +kernel) rfl rfl (Nat.le_of_ble_eq_true rfl) ms_8 dX11_take_250 (fun H locs hw => ?_)
        refine lv_aload_n C.1 C.2.1 dX11_take_253 rfl (lv_at hl 0 rfl) ?_
        refine lv_iconst (v := (0 : Int32)) C.1 C.2.1 dX11_take_254 (by decide) ?_
        refine m_pi C hw (inC inW11) 9 (by decide) (wc w_1471) rfl (ty := .int) (by decide +kernel) rfl rfl (Nat.le_of_ble_eq_true rfl) ms_9 dX11_take_255 (fun H locs hw => ?_)
        obtain ⟨n, hh⟩ := hh
        exact tX11_take_b258 C hR n _ _ _ _ _ hh hw hl
    · replace hh := hh.2 c87
      obtain ⟨n, hh⟩ := hh
      exact tX11_take_b90 C hR n _ _ _ _ _ hh hw hl
  · replace hh := hh.2 c68
    refine lv_aload_n C.1 C.2.1 dX11_take_71 rfl (lv_at hl 0 rfl) ?_
    refine lv_iconst (v := (0 : Int32)) C.1 C.2.1 dX11_take_72 (by decide) ?_
    refine m_pi C hw (inC inW11) 8 (by decide) (wc w_1470) rfl (ty := .int) (by decide +kernel) rfl rfl (Nat.le_of_ble_eq_true rfl) ms_8 dX11_take_73 (fun H locs hw => ?_)
    refine lv_goto (tgt := 407) C.1 C.2.1 dX11_take_76 (by decide) ?_
    exact tX11_take_b407 C hR hh hw hl
set_option maxHeartbeats 4000000 in
set_option maxRecDepth 100000 in
theorem tX11_take_b39 {B0 : (Nat → Int32) → (Nat → Nat → Int32) → Prop} {K : ((Nat → Int32) × (Nat → Nat → Int32)) → Prop} (C : CallFix p m c cX11_take 2 s args wsX11_take RX11) (hR : Rtv p l e rmX11_take s m args below meth c cX11_take D A (mT cI cZ) (mWu o h cI cZ) K Q) (hB0 : ∀ (f : Nat → Int32) (g : Nat → Nat → Int32) (H : Heap) (locs : List Loc) (ls : Array Slot), B0 f g → Wd D A s (mT cI cZ) (mW o h cI cZ f g) H locs → lv_has ls 2 [(0, .ref o)] → W p l e rmX11_take s m args below meth c H locs 0 0 Q (F0 m 0 ls [])) {f : Nat → Int32} {g : Nat → Nat → Int32} (hh : wpX11_take_b39 B0 f g K) {H : Heap} {locs : List Loc} {ls : Array Slot} (hw : Wd D A s (mT cI cZ) (mW o h cI cZ f g) H locs) (hl : lv_has ls 2 [(0, .ref o)]) : W p l e rmX11_take s m args below meth c H locs 0 0 Q (F0 m 39 ls []) := by
  unfold wpX11_take_b39 at hh
  refine lv_aload_n C.1 C.2.1 dX11_take_39 rfl (lv_at hl 0 rfl) ?_
  refine lv_dup C.1 C.2.1 dX11_take_40 rfl ?_
  refine m_gi C hw (inC inW11) 7 (by decide) (wc w_1469) mg_7 (x := f 7) rfl dX11_take_41 ?_
  refine lv_iconst (v := (1 : Int32)) C.1 C.2.1 dX11_take_44 (by decide) ?_
  refine lv_iadd C.1 C.2.1 dX11_take_45 ?_
  refine m_pi C hw (inC inW11) 7 (by decide) (wc w_1469) rfl (ty := .int) (by decide +kernel) rfl rfl (Nat.le_of_ble_eq_true rfl) ms_7 dX11_take_46 (fun H locs hw => ?_)
  refine lv_goto (tgt := 0) C.1 C.2.1 dX11_take_49 (by decide) ?_
  exact hB0 _ _ _ _ _ hh hw hl
set_option maxHeartbeats 4000000 in
set_option maxRecDepth 100000 in
theorem tX11_take_b0_body {B0 : (Nat → Int32) → (Nat → Nat → Int32) → Prop} {K : ((Nat → Int32) × (Nat → Nat → Int32)) → Prop} (C : CallFix p m c cX11_take 2 s args wsX11_take RX11) (hR : Rtv p l e rmX11_take s m args below meth c cX11_take D A (mT cI cZ) (mWu o h cI cZ) K Q) (hB0 : ∀ (f : Nat → Int32) (g : Nat → Nat → Int32) (H : Heap) (locs : List Loc) (ls : Array Slot), B0 f g → Wd D A s (mT cI cZ) (mW o h cI cZ f g) H locs → lv_has ls 2 [(0, .ref o)] → W p l e rmX11_take s m args below meth c H locs 0 0 Q (F0 m 0 ls [])) {f : Nat → Int32} {g : Nat → Nat → Int32} (hh : wpX11_take_b0_body B0 f g K) {H : Heap} {locs : List Loc} {ls : Array Slot} (hw : Wd D A s (mT cI cZ) (mW o h cI cZ f g) H locs) (hl : lv_has ls 2 [(0, .ref o)]) : W p l e rmX11_take s m args below meth c H locs 0 0 Q (F0 m 0 ls []) := by
  unfold wpX11_take_b0_body at hh
  refine lv_aload_n C.1 C.2.1 dX11_take_0 rfl (lv_at hl 0 rfl) ?_
  refine m_gi C hw (inC inW11) 7 (by decide) (wc w_1469) mg_7 (x := f 7) rfl dX11_take_1 ?_
  refine lv_aload_n C.1 C.2.1 dX11_take_4 rfl (lv_at hl 0 rfl) ?_
  refine m_gi C hw (inC inW11) 6 (by decide) (wc w_1468) mg_6 (x := f 6) rfl dX11_take_5 ?_
  refine lv_icmp_ge (tgt := 52) C.1 C.2.1 dX11_take_8 (by decide) (fun c8 => ?_) (fun c8 => ?_)
  · replace hh := hh.1 c8
    exact tX11_take_b52 C hR hh hw hl
  · replace hh := hh.2 c8
    refine lv_aload_n C.1 C.2.1 dX11_take_11 rfl (lv_at hl 0 rfl) ?_
    refine m_ga C hw (inC inW11) 0 (by decide) (wc w_1462) mg_0 dX11_take_12 ?_
    refine lv_aload_n C.1 C.2.1 dX11_take_15 rfl (lv_at hl 0 rfl) ?_
    refine m_gi C hw (inC inW11) 7 (by decide) (wc w_1469) mg_7 (x := f 7) rfl dX11_take_16 ?_
    obtain ⟨hi19, hh⟩ := hh
    refine m_ial C hw mp_0 (x := g 0 (ix (f 7))) hi19 rfl dX11_take_19 ?_
    refine lv_bipush (v := (10 : Int32)) C.1 C.2.1 dX11_take_20 (by decide) ?_
    refine lv_icmp_eq (tgt := 39) C.1 C.2.1 dX11_take_22 (by decide) (fun c22 => ?_) (fun c22 => ?_)
    · replace hh := hh.1 c22
      exact tX11_take_b39 C hR hB0 hh hw hl
    · replace hh := hh.2 c22
      refine lv_aload_n C.1 C.2.1 dX11_take_25 rfl (lv_at hl 0 rfl) ?_
      refine m_ga C hw (inC inW11) 0 (by decide) (wc w_1462) mg_0 dX11_take_26 ?_
      refine lv_aload_n C.1 C.2.1 dX11_take_29 rfl (lv_at hl 0 rfl) ?_
      refine m_gi C hw (inC inW11) 7 (by decide) (wc w_1469) mg_7 (x := f 7) rfl dX11_take_30 ?_
      obtain ⟨hi33, hh⟩ := hh
      refine m_ial C hw mp_0 (x := g 0 (ix (f 7))) hi33 rfl dX11_take_33 ?_
      refine lv_bipush (v := (32 : Int32)) C.1 C.2.1 dX11_take_34 (by decide) ?_
      refine lv_icmp_ne (tgt := 52) C.1 C.2.1 dX11_take_36 (by decide) (fun c36 => ?_) (fun c36 => ?_)
      · replace hh := hh.1 c36
        exact tX11_take_b52 C hR hh hw hl
      · replace hh := hh.2 c36
        exact tX11_take_b39 C hR hB0 hh hw hl
theorem tX11_take_b0 {K : ((Nat → Int32) × (Nat → Nat → Int32)) → Prop} (C : CallFix p m c cX11_take 2 s args wsX11_take RX11) (hR : Rtv p l e rmX11_take s m args below meth c cX11_take D A (mT cI cZ) (mWu o h cI cZ) K Q) (n : Nat) : ∀ (f : Nat → Int32) (g : Nat → Nat → Int32) (H : Heap) (locs : List Loc) (ls : Array Slot), wpX11_take_b0 n f g K → Wd D A s (mT cI cZ) (mW o h cI cZ f g) H locs → lv_has ls 2 [(0, .ref o)] → W p l e rmX11_take s m args below meth c H locs 0 0 Q (F0 m 0 ls []) := by
  induction n with
  | zero => intro f g H locs ls hh; exact hh.elim
  | succ n ih => intro f g H locs ls hh hw hl; exact tX11_take_b0_body C hR ih hh hw hl
theorem ctX11_take (l : Launch) (D : va_G) (o : Nat) (h : Nat → Nat) (cI cZ : ClassId) (f : Nat → Int32) (g : Nat → Nat → Int32) {K : ((Nat → Int32) × (Nat → Nat → Int32)) → Prop} (hh : wpX11_take f g K) : Cv l yX11_take wsX11_take rmX11_take [.ref o] D (mT cI cZ) (mWu o h cI cZ) (f, g) K := by
  refine Cv_of (cc := cX11_take) (maxL := 2) (by decide) rfl (Nat.le_of_ble_eq_true rfl) ?_
  intro p e s m below meth c A Q C hw hR ls hl
  obtain ⟨n, hh⟩ := hh
  exact tX11_take_b0 C hR n _ _ _ _ _ hh hw hl
theorem cdX11_take : yX11_take.cls = RX11 ∧ yX11_take.cls ≠ "java/lang/invoke/MethodHandle" ∧ yX11_take.cls ≠ "java/lang/invoke/VarHandle" ∧ (parseMethodDescriptor yX11_take.desc).map (fun d => d.parameters.length) = some 0 := by decide +kernel
abbrev rmX11_isKey : Room := { frames := 0, cells := 0, slots := 0, locals := 0 }
set_option maxHeartbeats 4000000 in
set_option maxRecDepth 100000 in
theorem tX11_isKey_b21 {K : Int32 → ((Nat → Int32) × (Nat → Nat → Int32)) → Prop} (C : CallFix p m c cX11_isKey 2 s args wsX11_isKey RX11) (hR : Rti .boolean p l e rmX11_isKey s m args below meth c cX11_isKey D A (mT cI cZ) (mWu o h cI cZ) K Q) {f : Nat → Int32} {g : Nat → Nat → Int32} {k0 : Int32} (hh : wpX11_isKey_b21 f g k0 K) {H : Heap} {locs : List Loc} {ls : Array Slot} (hw : Wd D A s (mT cI cZ) (mW o h cI cZ f g) H locs) (hl : lv_has ls 2 [(0, .ref o)]) : W p l e rmX11_isKey s m args below meth c H locs 0 0 Q (F0 m 21 ls [.int k0]) := by
  unfold wpX11_isKey_b21 at hh
  obtain ⟨hb21, hh⟩ := hh
  exact hR _ _ _ (f, g) _ _ dX11_isKey_21 (isB_nar hb21) hh hw
set_option maxHeartbeats 4000000 in
set_option maxRecDepth 100000 in
theorem tX11_isKey_b20 {K : Int32 → ((Nat → Int32) × (Nat → Nat → Int32)) → Prop} (C : CallFix p m c cX11_isKey 2 s args wsX11_isKey RX11) (hR : Rti .boolean p l e rmX11_isKey s m args below meth c cX11_isKey D A (mT cI cZ) (mWu o h cI cZ) K Q) {f : Nat → Int32} {g : Nat → Nat → Int32} (hh : wpX11_isKey_b20 f g K) {H : Heap} {locs : List Loc} {ls : Array Slot} (hw : Wd D A s (mT cI cZ) (mW o h cI cZ f g) H locs) (hl : lv_has ls 2 [(0, .ref o)]) : W p l e rmX11_isKey s m args below meth c H locs 0 0 Q (F0 m 20 ls []) := by
  unfold wpX11_isKey_b20 at hh
  refine lv_iconst (v := (0 : Int32)) C.1 C.2.1 dX11_isKey_20 (by decide) ?_
  exact tX11_isKey_b21 C hR hh hw hl
set_option maxHeartbeats 4000000 in
set_option maxRecDepth 100000 in
theorem tX11_isKey_b0 {K : Int32 → ((Nat → Int32) × (Nat → Nat → Int32)) → Prop} (C : CallFix p m c cX11_isKey 2 s args wsX11_isKey RX11) (hR : Rti .boolean p l e rmX11_isKey s m args below meth c cX11_isKey D A (mT cI cZ) (mWu o h cI cZ) K Q) {f : Nat → Int32} {g : Nat → Nat → Int32} {x1 : Int32} (hh : wpX11_isKey_b0 f g x1 K) {H : Heap} {locs : List Loc} {ls : Array Slot} (hw : Wd D A s (mT cI cZ) (mW o h cI cZ f g) H locs) (hl : lv_has ls 2 [(0, .ref o), (1, .int x1)]) : W p l e rmX11_isKey s m args below meth c H locs 0 0 Q (F0 m 0 ls []) := by
  unfold wpX11_isKey_b0 at hh
  refine lv_aload_n C.1 C.2.1 dX11_isKey_0 rfl (lv_at hl 0 rfl) ?_
  refine m_gi C hw (inC inW11) 8 (by decide) (wc w_1470) mg_8 (x := f 8) rfl dX11_isKey_1 ?_
  refine lv_iconst (v := (1 : Int32)) C.1 C.2.1 dX11_isKey_4 (by decide) ?_
  refine lv_icmp_ne (tgt := 20) C.1 C.2.1 dX11_isKey_5 (by decide) (fun c5 => ?_) (fun c5 => ?_)
  · replace hh := hh.1 c5
    exact tX11_isKey_b20 C hR hh hw (lv_sub hl [0] rfl)
  · replace hh := hh.2 c5
    refine lv_aload_n C.1 C.2.1 dX11_isKey_8 rfl (lv_at hl 0 rfl) ?_
    refine m_gi C hw (inC inW11) 9 (by decide) (wc w_1471) mg_9 (x := f 9) rfl dX11_isKey_9 ?_
    refine lv_iload_n C.1 C.2.1 dX11_isKey_12 rfl (lv_at hl 1 rfl) ?_
    refine lv_icmp_ne (tgt := 20) C.1 C.2.1 dX11_isKey_13 (by decide) (fun c13 => ?_) (fun c13 => ?_)
    · replace hh := hh.1 c13
      exact tX11_isKey_b20 C hR hh hw (lv_sub hl [0] rfl)
    · replace hh := hh.2 c13
      refine lv_iconst (v := (1 : Int32)) C.1 C.2.1 dX11_isKey_16 (by decide) ?_
      refine lv_goto (tgt := 21) C.1 C.2.1 dX11_isKey_17 (by decide) ?_
      exact tX11_isKey_b21 C hR hh hw (lv_sub hl [0] rfl)
theorem ctX11_isKey (l : Launch) (D : va_G) (o : Nat) (h : Nat → Nat) (cI cZ : ClassId) (f : Nat → Int32) (g : Nat → Nat → Int32) (x1 : Int32) {K : Int32 → ((Nat → Int32) × (Nat → Nat → Int32)) → Prop} (hh : wpX11_isKey f g x1 K) : Ci l yX11_isKey wsX11_isKey rmX11_isKey [.ref o, .int x1] D (mT cI cZ) (mWu o h cI cZ) (f, g) K := by
  refine Ci_of (cc := cX11_isKey) (maxL := 2) (by decide) rfl (Nat.le_of_ble_eq_true rfl) ?_
  intro p e s m below meth c A Q C hw hR ls hl
  exact tX11_isKey_b0 C hR hh hw hl
theorem cdX11_isKey : yX11_isKey.cls = RX11 ∧ yX11_isKey.cls ≠ "java/lang/invoke/MethodHandle" ∧ yX11_isKey.cls ≠ "java/lang/invoke/VarHandle" ∧ (parseMethodDescriptor yX11_isKey.desc).map (fun d => d.parameters.length) = some 1 := by decide +kernel
abbrev rmX11_isSign : Room := { frames := 0, cells := 0, slots := 0, locals := 0 }
set_option maxHeartbeats 4000000 in
set_option maxRecDepth 100000 in
theorem tX11_isSign_b21 {K : Int32 → ((Nat → Int32) × (Nat → Nat → Int32)) → Prop} (C : CallFix p m c cX11_isSign 2 s args wsX11_isSign RX11) (hR : Rti .boolean p l e rmX11_isSign s m args below meth c cX11_isSign D A (mT cI cZ) (mWu o h cI cZ) K Q) {f : Nat → Int32} {g : Nat → Nat → Int32} {k0 : Int32} (hh : wpX11_isSign_b21 f g k0 K) {H : Heap} {locs : List Loc} {ls : Array Slot} (hw : Wd D A s (mT cI cZ) (mW o h cI cZ f g) H locs) (hl : lv_has ls 2 [(0, .ref o)]) : W p l e rmX11_isSign s m args below meth c H locs 0 0 Q (F0 m 21 ls [.int k0]) := by
  unfold wpX11_isSign_b21 at hh
  obtain ⟨hb21, hh⟩ := hh
  exact hR _ _ _ (f, g) _ _ dX11_isSign_21 (isB_nar hb21) hh hw
set_option maxHeartbeats 4000000 in
set_option maxRecDepth 100000 in
theorem tX11_isSign_b20 {K : Int32 → ((Nat → Int32) × (Nat → Nat → Int32)) → Prop} (C : CallFix p m c cX11_isSign 2 s args wsX11_isSign RX11) (hR : Rti .boolean p l e rmX11_isSign s m args below meth c cX11_isSign D A (mT cI cZ) (mWu o h cI cZ) K Q) {f : Nat → Int32} {g : Nat → Nat → Int32} (hh : wpX11_isSign_b20 f g K) {H : Heap} {locs : List Loc} {ls : Array Slot} (hw : Wd D A s (mT cI cZ) (mW o h cI cZ f g) H locs) (hl : lv_has ls 2 [(0, .ref o)]) : W p l e rmX11_isSign s m args below meth c H locs 0 0 Q (F0 m 20 ls []) := by
  unfold wpX11_isSign_b20 at hh
  refine lv_iconst (v := (0 : Int32)) C.1 C.2.1 dX11_isSign_20 (by decide) ?_
  exact tX11_isSign_b21 C hR hh hw hl
set_option maxHeartbeats 4000000 in
set_option maxRecDepth 100000 in
theorem tX11_isSign_b0 {K : Int32 → ((Nat → Int32) × (Nat → Nat → Int32)) → Prop} (C : CallFix p m c cX11_isSign 2 s args wsX11_isSign RX11) (hR : Rti .boolean p l e rmX11_isSign s m args below meth c cX11_isSign D A (mT cI cZ) (mWu o h cI cZ) K Q) {f : Nat → Int32} {g : Nat → Nat → Int32} {x1 : Int32} (hh : wpX11_isSign_b0 f g x1 K) {H : Heap} {locs : List Loc} {ls : Array Slot} (hw : Wd D A s (mT cI cZ) (mW o h cI cZ f g) H locs) (hl : lv_has ls 2 [(0, .ref o), (1, .int x1)]) : W p l e rmX11_isSign s m args below meth c H locs 0 0 Q (F0 m 0 ls []) := by
  unfold wpX11_isSign_b0 at hh
  refine lv_aload_n C.1 C.2.1 dX11_isSign_0 rfl (lv_at hl 0 rfl) ?_
  refine m_gi C hw (inC inW11) 8 (by decide) (wc w_1470) mg_8 (x := f 8) rfl dX11_isSign_1 ?_
  refine lv_iconst (v := (4 : Int32)) C.1 C.2.1 dX11_isSign_4 (by decide) ?_
  refine lv_icmp_ne (tgt := 20) C.1 C.2.1 dX11_isSign_5 (by decide) (fun c5 => ?_) (fun c5 => ?_)
  · replace hh := hh.1 c5
    exact tX11_isSign_b20 C hR hh hw (lv_sub hl [0] rfl)
  · replace hh := hh.2 c5
    refine lv_aload_n C.1 C.2.1 dX11_isSign_8 rfl (lv_at hl 0 rfl) ?_
    refine m_gi C hw (inC inW11) 9 (by decide) (wc w_1471) mg_9 (x := f 9) rfl dX11_isSign_9 ?_
    refine lv_iload_n C.1 C.2.1 dX11_isSign_12 rfl (lv_at hl 1 rfl) ?_
    refine lv_icmp_ne (tgt := 20) C.1 C.2.1 dX11_isSign_13 (by decide) (fun c13 => ?_) (fun c13 => ?_)
    · replace hh := hh.1 c13
      exact tX11_isSign_b20 C hR hh hw (lv_sub hl [0] rfl)
    · replace hh := hh.2 c13
      refine lv_iconst (v := (1 : Int32)) C.1 C.2.1 dX11_isSign_16 (by decide) ?_
      refine lv_goto (tgt := 21) C.1 C.2.1 dX11_isSign_17 (by decide) ?_
      exact tX11_isSign_b21 C hR hh hw (lv_sub hl [0] rfl)
theorem ctX11_isSign (l : Launch) (D : va_G) (o : Nat) (h : Nat → Nat) (cI cZ : ClassId) (f : Nat → Int32) (g : Nat → Nat → Int32) (x1 : Int32) {K : Int32 → ((Nat → Int32) × (Nat → Nat → Int32)) → Prop} (hh : wpX11_isSign f g x1 K) : Ci l yX11_isSign wsX11_isSign rmX11_isSign [.ref o, .int x1] D (mT cI cZ) (mWu o h cI cZ) (f, g) K := by
  refine Ci_of (cc := cX11_isSign) (maxL := 2) (by decide) rfl (Nat.le_of_ble_eq_true rfl) ?_
  intro p e s m below meth c A Q C hw hR ls hl
  exact tX11_isSign_b0 C hR hh hw hl
theorem cdX11_isSign : yX11_isSign.cls = RX11 ∧ yX11_isSign.cls ≠ "java/lang/invoke/MethodHandle" ∧ yX11_isSign.cls ≠ "java/lang/invoke/VarHandle" ∧ (parseMethodDescriptor yX11_isSign.desc).map (fun d => d.parameters.length) = some 1 := by decide +kernel
abbrev rmX11_signRead : Room := { frames := 2, cells := 0, slots := 0, locals := 48 }
set_option maxHeartbeats 4000000 in
set_option maxRecDepth 100000 in
theorem tX11_signRead_b0 {K : Int32 → ((Nat → Int32) × (Nat → Nat → Int32)) → Prop} (C : CallFix p m c cX11_signRead 2 s args wsX11_signRead RX11) (hR : Rti .boolean p l e rmX11_signRead s m args below meth c cX11_signRead D A (mT cI cZ) (mWu o h cI cZ) K Q) {f : Nat → Int32} {g : Nat → Nat → Int32} {x1 : Int32} (hh : wpX11_signRead_b0 f g x1 K) {H : Heap} {locs : List Loc} {ls : Array Slot} (hw : Wd D A s (mT cI cZ) (mW o h cI cZ f g) H locs) (hl : lv_has ls 2 [(0, .ref o), (1, .int x1)]) : W p l e rmX11_signRead s m args below meth c H locs 0 0 Q (F0 m 0 ls []) := by
  unfold wpX11_signRead_b0 at hh
  refine lv_aload_n C.1 C.2.1 dX11_signRead_0 rfl (lv_at hl 0 rfl) ?_
  refine lv_iload_n C.1 C.2.1 dX11_signRead_1 rfl (lv_at hl 1 rfl) ?_
  refine m_Vi C hw (ctX11_isSign l D o h cI cZ f g x1 hh) (cwV 1 C.2.2.2.2 (gd_V w_1745 w_1747 w_68 w_125 w_1748) rfl rfl rfl cdX11_isSign ⟨Nat.le_of_ble_eq_true rfl, Nat.le_of_ble_eq_true rfl⟩) rfl hl.1 (Nat.le_of_ble_eq_true rfl) dX11_signRead_2 ⟨Nat.zero_le _, Nat.zero_le _⟩ (fun r2 u2 H locs hh hw => ?_) rfl
  refine lv_if_ne (tgt := 14) C.1 C.2.1 dX11_signRead_5 (by decide) (fun c5 => ?_) (fun c5 => ?_)
  · replace hh := hh.1 c5
    refine lv_aload_n C.1 C.2.1 dX11_signRead_14 rfl (lv_at hl 0 rfl) ?_
    refine m_Vv C hw (ctX11_take l D o h cI cZ u2.1 u2.2  hh) (cwV 0 C.2.2.2.2 (gd_V w_1698 w_1700 w_57 w_125 w_1701) rfl rfl rfl cdX11_take ⟨Nat.le_of_ble_eq_true rfl, Nat.le_of_ble_eq_true rfl⟩) rfl hl.1 (Nat.le_of_ble_eq_true rfl) dX11_signRead_15 ⟨Nat.zero_le _, Nat.zero_le _⟩ (fun u15 H locs hh hw => ?_) rfl
    refine lv_iconst (v := (1 : Int32)) C.1 C.2.1 dX11_signRead_18 (by decide) ?_
    exact hR _ _ _ (u15.1, u15.2) _ _ dX11_signRead_19 rfl hh hw
  · replace hh := hh.2 c5
    refine lv_aload_n C.1 C.2.1 dX11_signRead_8 rfl (lv_at hl 0 rfl) ?_
    refine lv_iconst (v := (1 : Int32)) C.1 C.2.1 dX11_signRead_9 (by decide) ?_
    refine m_Vi C hw (ctX11_wrong l D o h cI cZ u2.1 u2.2 (1 : Int32) hh) (cwV 1 C.2.2.2.2 (gd_V w_1729 w_1731 w_64 w_125 w_1732) rfl rfl rfl cdX11_wrong ⟨Nat.le_of_ble_eq_true rfl, Nat.le_of_ble_eq_true rfl⟩) rfl hl.1 (Nat.le_of_ble_eq_true rfl) dX11_signRead_10 ⟨Nat.zero_le _, Nat.zero_le _⟩ (fun r10 u10 H locs hh hw => ?_) rfl
    obtain ⟨hb13, hh⟩ := hh
    exact hR _ _ _ (u10.1, u10.2) _ _ dX11_signRead_13 (isB_nar hb13) hh hw
theorem ctX11_signRead (l : Launch) (D : va_G) (o : Nat) (h : Nat → Nat) (cI cZ : ClassId) (f : Nat → Int32) (g : Nat → Nat → Int32) (x1 : Int32) {K : Int32 → ((Nat → Int32) × (Nat → Nat → Int32)) → Prop} (hh : wpX11_signRead f g x1 K) : Ci l yX11_signRead wsX11_signRead rmX11_signRead [.ref o, .int x1] D (mT cI cZ) (mWu o h cI cZ) (f, g) K := by
  refine Ci_of (cc := cX11_signRead) (maxL := 2) (by decide) rfl (Nat.le_of_ble_eq_true rfl) ?_
  intro p e s m below meth c A Q C hw hR ls hl
  exact tX11_signRead_b0 C hR hh hw hl
theorem cdX11_signRead : yX11_signRead.cls = RX11 ∧ yX11_signRead.cls ≠ "java/lang/invoke/MethodHandle" ∧ yX11_signRead.cls ≠ "java/lang/invoke/VarHandle" ∧ (parseMethodDescriptor yX11_signRead.desc).map (fun d => d.parameters.length) = some 1 := by decide +kernel
abbrev rmX11_starts : Room := { frames := 2, cells := 0, slots := 0, locals := 48 }
set_option maxHeartbeats 4000000 in
set_option maxRecDepth 100000 in
theorem tX11_starts_b12 {K : Int32 → ((Nat → Int32) × (Nat → Nat → Int32)) → Prop} (C : CallFix p m c cX11_starts 3 s args wsX11_starts RX11) (hR : Rti .boolean p l e rmX11_starts s m args below meth c cX11_starts D A (mT cI cZ) (mWu o h cI cZ) K Q) {f : Nat → Int32} {g : Nat → Nat → Int32} (hh : wpX11_starts_b12 f g K) {H : Heap} {locs : List Loc} {ls : Array Slot} (hw : Wd D A s (mT cI cZ) (mW o h cI cZ f g) H locs) (hl : lv_has ls 3 [(0, .ref o)]) : W p l e rmX11_starts s m args below meth c H locs 0 0 Q (F0 m 12 ls []) := by
  unfold wpX11_starts_b12 at hh
  refine lv_iconst (v := (0 : Int32)) C.1 C.2.1 dX11_starts_12 (by decide) ?_
  exact hR _ _ _ (f, g) _ _ dX11_starts_13 rfl hh hw
set_option maxHeartbeats 4000000 in
set_option maxRecDepth 100000 in
theorem tX11_starts_b0 {K : Int32 → ((Nat → Int32) × (Nat → Nat → Int32)) → Prop} (C : CallFix p m c cX11_starts 3 s args wsX11_starts RX11) (hR : Rti .boolean p l e rmX11_starts s m args below meth c cX11_starts D A (mT cI cZ) (mWu o h cI cZ) K Q) {f : Nat → Int32} {g : Nat → Nat → Int32} {x1 : Int32} {x2 : Int32} (hh : wpX11_starts_b0 f g x1 x2 K) {H : Heap} {locs : List Loc} {ls : Array Slot} (hw : Wd D A s (mT cI cZ) (mW o h cI cZ f g) H locs) (hl : lv_has ls 3 [(0, .ref o), (1, .int x1), (2, .int x2)]) : W p l e rmX11_starts s m args below meth c H locs 0 0 Q (F0 m 0 ls []) := by
  unfold wpX11_starts_b0 at hh
  refine lv_iload_n C.1 C.2.1 dX11_starts_0 rfl (lv_at hl 1 rfl) ?_
  refine lv_if_lt (tgt := 12) C.1 C.2.1 dX11_starts_1 (by decide) (fun c1 => ?_) (fun c1 => ?_)
  · replace hh := hh.1 c1
    exact tX11_starts_b12 C hR hh hw (lv_sub hl [0] rfl)
  · replace hh := hh.2 c1
    refine lv_iload_n C.1 C.2.1 dX11_starts_4 rfl (lv_at hl 1 rfl) ?_
    refine lv_aload_n C.1 C.2.1 dX11_starts_5 rfl (lv_at hl 0 rfl) ?_
    refine m_gi C hw (inC inW11) 1 (by decide) (wc w_1463) mg_1 (x := f 1) rfl dX11_starts_6 ?_
    refine lv_icmp_le (tgt := 14) C.1 C.2.1 dX11_starts_9 (by decide) (fun c9 => ?_) (fun c9 => ?_)
    · replace hh := hh.1 c9
      refine lv_aload_n C.1 C.2.1 dX11_starts_14 rfl (lv_at hl 0 rfl) ?_
      refine lv_iload_n C.1 C.2.1 dX11_starts_15 rfl (lv_at hl 1 rfl) ?_
      refine m_pi C hw (inC inW11) 6 (by decide) (wc w_1468) rfl (ty := .int) (by decide +kernel) rfl rfl (Nat.le_of_ble_eq_true rfl) ms_6 dX11_starts_16 (fun H locs hw => ?_)
      refine lv_aload_n C.1 C.2.1 dX11_starts_19 rfl (lv_at hl 0 rfl) ?_
      refine lv_iconst (v := (0 : Int32)) C.1 C.2.1 dX11_starts_20 (by decide) ?_
      refine m_pi C hw (inC inW11) 1 (by decide) (wc w_1463) rfl (ty := .int) (by decide +kernel) rfl rfl (Nat.le_of_ble_eq_true rfl) ms_1 dX11_starts_21 (fun H locs hw => ?_)
      refine lv_aload_n C.1 C.2.1 dX11_starts_24 rfl (lv_at hl 0 rfl) ?_
      refine lv_iconst (v := (0 : Int32)) C.1 C.2.1 dX11_starts_25 (by decide) ?_
      refine m_pi C hw (inC inW11) 4 (by decide) (wc w_1466) rfl (ty := .int) (by decide +kernel) rfl rfl (Nat.le_of_ble_eq_true rfl) ms_4 dX11_starts_26 (fun H locs hw => ?_)
      refine lv_aload_n C.1 C.2.1 dX11_starts_29 rfl (lv_at hl 0 rfl) ?_
      refine lv_iconst (v := (-1 : Int32)) C.1 C.2.1 dX11_starts_30 (by decide) ?_
      refine m_pi C hw (inC inW11) 5 (by decide) (wc w_1467) rfl (ty := .int) (by decide +kernel) rfl rfl (Nat.le_of_ble_eq_true rfl) ms_5 dX11_starts_31 (fun H locs hw => ?_)
      refine lv_aload_n C.1 C.2.1 dX11_starts_34 rfl (lv_at hl 0 rfl) ?_
      refine lv_iconst (v := (0 : Int32)) C.1 C.2.1 dX11_starts_35 (by decide) ?_
      refine m_pi C hw (inC inW11) 7 (by decide) (wc w_1469) rfl (ty := .int) (by decide +kernel) rfl rfl (Nat.le_of_ble_eq_true rfl) ms_7 dX11_starts_36 (fun H locs hw => ?_)
      refine lv_aload_n C.1 C.2.1 dX11_starts_39 rfl (lv_at hl 0 rfl) ?_
      refine lv_iload_n C.1 C.2.1 dX11_starts_40 rfl (lv_at hl 2 rfl) ?_
      obtain ⟨hb41, hh⟩ := hh
      refine m_pi C hw (inC inW11) 11 (by decide) (wc w_1473) rfl (ty := .boolean) (by decide +kernel) (isB_nar hb41) (isB_fit hb41) (Nat.le_of_ble_eq_true rfl) ms_11 dX11_starts_41 (fun H locs hw => ?_)
      refine lv_aload_n C.1 C.2.1 dX11_starts_44 rfl (lv_at hl 0 rfl) ?_
      refine m_Vv C hw (ctX11_take l D o h cI cZ (upd (upd (upd (upd (upd (upd f 6 x1) 1 (0 : Int32)) 4 (0 : Int32)) 5 (-1 : Int32)) 7 (0 : Int32)) 11 x2) g  hh) (cwV 0 C.2.2.2.2 (gd_V w_1698 w_1700 w_57 w_125 w_1701) rfl rfl rfl cdX11_take ⟨Nat.le_of_ble_eq_true rfl, Nat.le_of_ble_eq_true rfl⟩) rfl hl.1 (Nat.le_of_ble_eq_true rfl) dX11_starts_45 ⟨Nat.zero_le _, Nat.zero_le _⟩ (fun u45 H locs hh hw => ?_) rfl
      refine lv_iconst (v := (1 : Int32)) C.1 C.2.1 dX11_starts_48 (by decide) ?_
      exact hR _ _ _ (u45.1, u45.2) _ _ dX11_starts_49 rfl hh hw
    · replace hh := hh.2 c9
      exact tX11_starts_b12 C hR hh hw (lv_sub hl [0] rfl)
theorem ctX11_starts (l : Launch) (D : va_G) (o : Nat) (h : Nat → Nat) (cI cZ : ClassId) (f : Nat → Int32) (g : Nat → Nat → Int32) (x1 : Int32) (x2 : Int32) {K : Int32 → ((Nat → Int32) × (Nat → Nat → Int32)) → Prop} (hh : wpX11_starts f g x1 x2 K) : Ci l yX11_starts wsX11_starts rmX11_starts [.ref o, .int x1, .int x2] D (mT cI cZ) (mWu o h cI cZ) (f, g) K := by
  refine Ci_of (cc := cX11_starts) (maxL := 3) (by decide) rfl (Nat.le_of_ble_eq_true rfl) ?_
  intro p e s m below meth c A Q C hw hR ls hl
  exact tX11_starts_b0 C hR hh hw hl
theorem cdX11_starts : yX11_starts.cls = RX11 ∧ yX11_starts.cls ≠ "java/lang/invoke/MethodHandle" ∧ yX11_starts.cls ≠ "java/lang/invoke/VarHandle" ∧ (parseMethodDescriptor yX11_starts.desc).map (fun d => d.parameters.length) = some 2 := by decide +kernel
abbrev rmX11_numberRead : Room := { frames := 1, cells := 0, slots := 0, locals := 21 }
set_option maxHeartbeats 4000000 in
set_option maxRecDepth 100000 in
theorem tX11_numberRead_b35 {K : Int32 → ((Nat → Int32) × (Nat → Nat → Int32)) → Prop} (C : CallFix p m c cX11_numberRead 2 s args wsX11_numberRead RX11) (hR : Rti .boolean p l e rmX11_numberRead s m args below meth c cX11_numberRead D A (mT cI cZ) (mWu o h cI cZ) K Q) {f : Nat → Int32} {g : Nat → Nat → Int32} {k0 : Int32} (hh : wpX11_numberRead_b35 f g k0 K) {H : Heap} {locs : List Loc} {ls : Array Slot} (hw : Wd D A s (mT cI cZ) (mW o h cI cZ f g) H locs) (hl : lv_has ls 2 [(0, .ref o)]) : W p l e rmX11_numberRead s m args below meth c H locs 0 0 Q (F0 m 35 ls [.int k0]) := by
  unfold wpX11_numberRead_b35 at hh
  obtain ⟨hb35, hh⟩ := hh
  exact hR _ _ _ (f, g) _ _ dX11_numberRead_35 (isB_nar hb35) hh hw
set_option maxHeartbeats 4000000 in
set_option maxRecDepth 100000 in
theorem tX11_numberRead_b30 {K : Int32 → ((Nat → Int32) × (Nat → Nat → Int32)) → Prop} (C : CallFix p m c cX11_numberRead 2 s args wsX11_numberRead RX11) (hR : Rti .boolean p l e rmX11_numberRead s m args below meth c cX11_numberRead D A (mT cI cZ) (mWu o h cI cZ) K Q) {f : Nat → Int32} {g : Nat → Nat → Int32} (hh : wpX11_numberRead_b30 f g K) {H : Heap} {locs : List Loc} {ls : Array Slot} (hw : Wd D A s (mT cI cZ) (mW o h cI cZ f g) H locs) (hl : lv_has ls 2 [(0, .ref o)]) : W p l e rmX11_numberRead s m args below meth c H locs 0 0 Q (F0 m 30 ls []) := by
  unfold wpX11_numberRead_b30 at hh
  refine lv_iconst (v := (1 : Int32)) C.1 C.2.1 dX11_numberRead_30 (by decide) ?_
  refine lv_goto (tgt := 35) C.1 C.2.1 dX11_numberRead_31 (by decide) ?_
  exact tX11_numberRead_b35 C hR hh hw hl
set_option maxHeartbeats 4000000 in
set_option maxRecDepth 100000 in
theorem tX11_numberRead_b0 {K : Int32 → ((Nat → Int32) × (Nat → Nat → Int32)) → Prop} (C : CallFix p m c cX11_numberRead 2 s args wsX11_numberRead RX11) (hR : Rti .boolean p l e rmX11_numberRead s m args below meth c cX11_numberRead D A (mT cI cZ) (mWu o h cI cZ) K Q) {f : Nat → Int32} {g : Nat → Nat → Int32} {x1 : Int32} (hh : wpX11_numberRead_b0 f g x1 K) {H : Heap} {locs : List Loc} {ls : Array Slot} (hw : Wd D A s (mT cI cZ) (mW o h cI cZ f g) H locs) (hl : lv_has ls 2 [(0, .ref o), (1, .int x1)]) : W p l e rmX11_numberRead s m args below meth c H locs 0 0 Q (F0 m 0 ls []) := by
  unfold wpX11_numberRead_b0 at hh
  refine lv_aload_n C.1 C.2.1 dX11_numberRead_0 rfl (lv_at hl 0 rfl) ?_
  refine m_gi C hw (inC inW11) 8 (by decide) (wc w_1470) mg_8 (x := f 8) rfl dX11_numberRead_1 ?_
  refine lv_iconst (v := (3 : Int32)) C.1 C.2.1 dX11_numberRead_4 (by decide) ?_
  refine lv_icmp_eq (tgt := 14) C.1 C.2.1 dX11_numberRead_5 (by decide) (fun c5 => ?_) (fun c5 => ?_)
  · replace hh := hh.1 c5
    refine lv_aload_n C.1 C.2.1 dX11_numberRead_14 rfl (lv_at hl 0 rfl) ?_
    refine m_gi C hw (inC inW11) 9 (by decide) (wc w_1471) mg_9 (x := f 9) rfl dX11_numberRead_15 ?_
    refine lv_iload_n C.1 C.2.1 dX11_numberRead_18 rfl (lv_at hl 1 rfl) ?_
    refine lv_icmp_le (tgt := 30) C.1 C.2.1 dX11_numberRead_19 (by decide) (fun c19 => ?_) (fun c19 => ?_)
    · replace hh := hh.1 c19
      exact tX11_numberRead_b30 C hR hh hw (lv_sub hl [0] rfl)
    · replace hh := hh.2 c19
      refine lv_aload_n C.1 C.2.1 dX11_numberRead_22 rfl (lv_at hl 0 rfl) ?_
      refine lv_iconst (v := (2 : Int32)) C.1 C.2.1 dX11_numberRead_23 (by decide) ?_
      refine m_Vi C hw (ctX11_wrong l D o h cI cZ f g (2 : Int32) hh) (cwV 1 C.2.2.2.2 (gd_V w_1729 w_1731 w_64 w_125 w_1732) rfl rfl rfl cdX11_wrong ⟨Nat.le_of_ble_eq_true rfl, Nat.le_of_ble_eq_true rfl⟩) rfl hl.1 (Nat.le_of_ble_eq_true rfl) dX11_numberRead_24 ⟨Nat.zero_le _, Nat.zero_le _⟩ (fun r24 u24 H locs hh hw => ?_) rfl
      refine lv_if_eq (tgt := 34) C.1 C.2.1 dX11_numberRead_27 (by decide) (fun c27 => ?_) (fun c27 => ?_)
      · replace hh := hh.1 c27
        refine lv_iconst (v := (0 : Int32)) C.1 C.2.1 dX11_numberRead_34 (by decide) ?_
        exact tX11_numberRead_b35 C hR hh hw (lv_sub hl [0] rfl)
      · replace hh := hh.2 c27
        exact tX11_numberRead_b30 C hR hh hw (lv_sub hl [0] rfl)
  · replace hh := hh.2 c5
    refine lv_aload_n C.1 C.2.1 dX11_numberRead_8 rfl (lv_at hl 0 rfl) ?_
    refine lv_iconst (v := (1 : Int32)) C.1 C.2.1 dX11_numberRead_9 (by decide) ?_
    refine m_Vi C hw (ctX11_wrong l D o h cI cZ f g (1 : Int32) hh) (cwV 1 C.2.2.2.2 (gd_V w_1729 w_1731 w_64 w_125 w_1732) rfl rfl rfl cdX11_wrong ⟨Nat.le_of_ble_eq_true rfl, Nat.le_of_ble_eq_true rfl⟩) rfl hl.1 (Nat.le_of_ble_eq_true rfl) dX11_numberRead_10 ⟨Nat.zero_le _, Nat.zero_le _⟩ (fun r10 u10 H locs hh hw => ?_) rfl
    obtain ⟨hb13, hh⟩ := hh
    exact hR _ _ _ (u10.1, u10.2) _ _ dX11_numberRead_13 (isB_nar hb13) hh hw
theorem ctX11_numberRead (l : Launch) (D : va_G) (o : Nat) (h : Nat → Nat) (cI cZ : ClassId) (f : Nat → Int32) (g : Nat → Nat → Int32) (x1 : Int32) {K : Int32 → ((Nat → Int32) × (Nat → Nat → Int32)) → Prop} (hh : wpX11_numberRead f g x1 K) : Ci l yX11_numberRead wsX11_numberRead rmX11_numberRead [.ref o, .int x1] D (mT cI cZ) (mWu o h cI cZ) (f, g) K := by
  refine Ci_of (cc := cX11_numberRead) (maxL := 2) (by decide) rfl (Nat.le_of_ble_eq_true rfl) ?_
  intro p e s m below meth c A Q C hw hR ls hl
  exact tX11_numberRead_b0 C hR hh hw hl
theorem cdX11_numberRead : yX11_numberRead.cls = RX11 ∧ yX11_numberRead.cls ≠ "java/lang/invoke/MethodHandle" ∧ yX11_numberRead.cls ≠ "java/lang/invoke/VarHandle" ∧ (parseMethodDescriptor yX11_numberRead.desc).map (fun d => d.parameters.length) = some 1 := by decide +kernel
abbrev rmX11_testRead : Room := { frames := 2, cells := 0, slots := 0, locals := 48 }
set_option maxHeartbeats 4000000 in
set_option maxRecDepth 100000 in
theorem tX11_testRead_b91 {K : Int32 → ((Nat → Int32) × (Nat → Nat → Int32)) → Prop} (C : CallFix p m c cX11_testRead 7 s args wsX11_testRead RX11) (hR : Rti .boolean p l e rmX11_testRead s m args below meth c cX11_testRead D A (mT cI cZ) (mWu o h cI cZ) K Q) {f : Nat → Int32} {g : Nat → Nat → Int32} (hh : wpX11_testRead_b91 f g K) {H : Heap} {locs : List Loc} {ls : Array Slot} (hw : Wd D A s (mT cI cZ) (mW o h cI cZ f g) H locs) (hl : lv_has ls 7 [(0, .ref o)]) : W p l e rmX11_testRead s m args below meth c H locs 0 0 Q (F0 m 91 ls []) := by
  unfold wpX11_testRead_b91 at hh
  refine lv_aload_n C.1 C.2.1 dX11_testRead_91 rfl (lv_at hl 0 rfl) ?_
  refine lv_iconst (v := (1 : Int32)) C.1 C.2.1 dX11_testRead_92 (by decide) ?_
  refine m_Vi C hw (ctX11_wrong l D o h cI cZ f g (1 : Int32) hh) (cwV 1 C.2.2.2.2 (gd_V w_1729 w_1731 w_64 w_125 w_1732) rfl rfl rfl cdX11_wrong ⟨Nat.le_of_ble_eq_true rfl, Nat.le_of_ble_eq_true rfl⟩) rfl hl.1 (Nat.le_of_ble_eq_true rfl) dX11_testRead_93 ⟨Nat.zero_le _, Nat.zero_le _⟩ (fun r93 u93 H locs hh hw => ?_) rfl
  obtain ⟨hb96, hh⟩ := hh
  exact hR _ _ _ (u93.1, u93.2) _ _ dX11_testRead_96 (isB_nar hb96) hh hw
set_option maxHeartbeats 4000000 in
set_option maxRecDepth 100000 in
theorem tX11_testRead_b257 {B208 : (Nat → Int32) → (Nat → Nat → Int32) → Int32 → Int32 → Int32 → Int32 → Int32 → Prop} {K : Int32 → ((Nat → Int32) × (Nat → Nat → Int32)) → Prop} (C : CallFix p m c cX11_testRead 7 s args wsX11_testRead RX11) (hR : Rti .boolean p l e rmX11_testRead s m args below meth c cX11_testRead D A (mT cI cZ) (mWu o h cI cZ) K Q) (hB208 : ∀ (f : Nat → Int32) (g : Nat → Nat → Int32) (x1 : Int32) (x3 : Int32) (x4 : Int32) (x5 : Int32) (x6 : Int32) (H : Heap) (locs : List Loc) (ls : Array Slot), B208 f g x1 x3 x4 x5 x6 → Wd D A s (mT cI cZ) (mW o h cI cZ f g) H locs → lv_has ls 7 [(0, .ref o), (1, .int x1), (3, .int x3), (4, .int x4), (5, .int x5), (6, .int x6)] → W p l e rmX11_testRead s m args below meth c H locs 0 0 Q (F0 m 208 ls [])) {f : Nat → Int32} {g : Nat → Nat → Int32} {x1 : Int32} {x3 : Int32} {x4 : Int32} {x5 : Int32} {x6 : Int32} (hh : wpX11_testRead_b257 B208 f g x1 x3 x4 x5 x6 K) {H : Heap} {locs : List Loc} {ls : Array Slot} (hw : Wd D A s (mT cI cZ) (mW o h cI cZ f g) H locs) (hl : lv_has ls 7 [(0, .ref o), (1, .int x1), (3, .int x3), (4, .int x4), (5, .int x5), (6, .int x6)]) : W p l e rmX11_testRead s m args below meth c H locs 0 0 Q (F0 m 257 ls []) := by
  unfold wpX11_testRead_b257 at hh
  refine lv_iinc (v := x6 + (1 : Int32)) (lv' := [(6, .int (x6 + (1 : Int32))), (0, .ref o), (1, .int x1), (3, .int x3), (4, .int x4), (5, .int x5)]) C.1 C.2.1 dX11_testRead_257 hl (k := 5) rfl rfl (by decide) rfl (fun ls hl => ?_)
  refine lv_goto (tgt := 208) C.1 C.2.1 dX11_testRead_260 (by decide) ?_
  exact hB208 _ _ _ _ _ _ _ _ _ _ hh hw (lv_sub hl [1, 2, 3, 4, 5, 0] rfl)
set_option maxHeartbeats 4000000 in
set_option maxRecDepth 100000 in
theorem tX11_testRead_b208_body {B208 : (Nat → Int32) → (Nat → Nat → Int32) → Int32 → Int32 → Int32 → Int32 → Int32 → Prop} {K : Int32 → ((Nat → Int32) × (Nat → Nat → Int32)) → Prop} (C : CallFix p m c cX11_testRead 7 s args wsX11_testRead RX11) (hR : Rti .boolean p l e rmX11_testRead s m args below meth c cX11_testRead D A (mT cI cZ) (mWu o h cI cZ) K Q) (hB208 : ∀ (f : Nat → Int32) (g : Nat → Nat → Int32) (x1 : Int32) (x3 : Int32) (x4 : Int32) (x5 : Int32) (x6 : Int32) (H : Heap) (locs : List Loc) (ls : Array Slot), B208 f g x1 x3 x4 x5 x6 → Wd D A s (mT cI cZ) (mW o h cI cZ f g) H locs → lv_has ls 7 [(0, .ref o), (1, .int x1), (3, .int x3), (4, .int x4), (5, .int x5), (6, .int x6)] → W p l e rmX11_testRead s m args below meth c H locs 0 0 Q (F0 m 208 ls [])) {f : Nat → Int32} {g : Nat → Nat → Int32} {x1 : Int32} {x3 : Int32} {x4 : Int32} {x5 : Int32} {x6 : Int32} (hh : wpX11_testRead_b208_body B208 f g x1 x3 x4 x5 x6 K) {H : Heap} {locs : List Loc} {ls : Array Slot} (hw : Wd D A s (mT cI cZ) (mW o h cI cZ f g) H locs) (hl : lv_has ls 7 [(0, .ref o), (1, .int x1), (3, .int x3), (4, .int x4), (5, .int x5), (6, .int x6)]) : W p l e rmX11_testRead s m args below meth c H locs 0 0 Q (F0 m 208 ls []) := by
  unfold wpX11_testRead_b208_body at hh
  refine lv_iload C.1 C.2.1 dX11_testRead_208 (lv_at hl 5 rfl) ?_
  refine lv_iload_n C.1 C.2.1 dX11_testRead_210 rfl (lv_at hl 2 rfl) ?_
  refine lv_icmp_ge (tgt := 263) C.1 C.2.1 dX11_testRead_211 (by decide) (fun c211 => ?_) (fun c211 => ?_)
  · replace hh := hh.1 c211
    refine lv_aload_n C.1 C.2.1 dX11_testRead_263 rfl (lv_at hl 0 rfl) ?_
    refine m_ga C hw (inC inW11) 13 (by decide) (wc w_1475) mg_13 dX11_testRead_264 ?_
    refine lv_iload_n C.1 C.2.1 dX11_testRead_267 rfl (lv_at hl 1 rfl) ?_
    refine lv_dup2_11 C.1 C.2.1 dX11_testRead_268 rfl rfl ?_
    obtain ⟨hi269, hh⟩ := hh
    refine m_ial C hw mp_13 (x := g 13 (ix x1)) hi269 rfl dX11_testRead_269 ?_
    refine lv_iconst (v := (1 : Int32)) C.1 C.2.1 dX11_testRead_270 (by decide) ?_
    refine lv_iadd C.1 C.2.1 dX11_testRead_271 ?_
    obtain ⟨hi272, hh⟩ := hh
    refine m_ias C hw mp_13 mq_13 hi272 dX11_testRead_272 (fun H locs hw => ?_)
    refine lv_iconst (v := (1 : Int32)) C.1 C.2.1 dX11_testRead_273 (by decide) ?_
    exact hR _ _ _ (f, pt g 13 (ix x1) ((g 13 (ix x1)) + (1 : Int32))) _ _ dX11_testRead_274 rfl hh hw
  · replace hh := hh.2 c211
    refine lv_aload_n C.1 C.2.1 dX11_testRead_214 rfl (lv_at hl 0 rfl) ?_
    refine m_ga C hw (inC inW11) 15 (by decide) (wc w_1477) mg_15 dX11_testRead_215 ?_
    refine lv_iload C.1 C.2.1 dX11_testRead_218 (lv_at hl 5 rfl) ?_
    obtain ⟨hi220, hh⟩ := hh
    refine m_ial C hw mp_15 (x := g 15 (ix x6)) hi220 rfl dX11_testRead_220 ?_
    refine lv_iload C.1 C.2.1 dX11_testRead_221 (lv_at hl 3 rfl) ?_
    refine lv_icmp_ne (tgt := 257) C.1 C.2.1 dX11_testRead_223 (by decide) (fun c223 => ?_) (fun c223 => ?_)
    · replace hh := hh.1 c223
      exact tX11_testRead_b257 C hR hB208 hh hw hl
    · replace hh := hh.2 c223
      refine lv_aload_n C.1 C.2.1 dX11_testRead_226 rfl (lv_at hl 0 rfl) ?_
      refine m_ga C hw (inC inW11) 16 (by decide) (wc w_1478) mg_16 dX11_testRead_227 ?_
      refine lv_iload C.1 C.2.1 dX11_testRead_230 (lv_at hl 5 rfl) ?_
      obtain ⟨hi232, hh⟩ := hh
      refine m_ial C hw mp_16 (x := g 16 (ix x6)) hi232 rfl dX11_testRead_232 ?_
      refine lv_aload_n C.1 C.2.1 dX11_testRead_233 rfl (lv_at hl 0 rfl) ?_
      refine m_ga C hw (inC inW11) 16 (by decide) (wc w_1478) mg_16 dX11_testRead_234 ?_
      refine lv_iload_n C.1 C.2.1 dX11_testRead_237 rfl (lv_at hl 2 rfl) ?_
      obtain ⟨hi238, hh⟩ := hh
      refine m_ial C hw mp_16 (x := g 16 (ix x3)) hi238 rfl dX11_testRead_238 ?_
      refine lv_icmp_eq (tgt := 245) C.1 C.2.1 dX11_testRead_239 (by decide) (fun c239 => ?_) (fun c239 => ?_)
      · replace hh := hh.1 c239
        refine lv_aload_n C.1 C.2.1 dX11_testRead_245 rfl (lv_at hl 0 rfl) ?_
        refine lv_iload C.1 C.2.1 dX11_testRead_246 (lv_at hl 4 rfl) ?_
        refine m_pi C hw (inC inW11) 10 (by decide) (wc w_1472) rfl (ty := .int) (by decide +kernel) rfl rfl (Nat.le_of_ble_eq_true rfl) ms_10 dX11_testRead_248 (fun H locs hw => ?_)
        refine lv_aload_n C.1 C.2.1 dX11_testRead_251 rfl (lv_at hl 0 rfl) ?_
        refine lv_iconst (v := (3 : Int32)) C.1 C.2.1 dX11_testRead_252 (by decide) ?_
        refine m_Vi C hw (ctX11_wrong l D o h cI cZ (upd f 10 x5) g (3 : Int32) hh) (cwV 1 C.2.2.2.2 (gd_V w_1729 w_1731 w_64 w_125 w_1732) rfl rfl rfl cdX11_wrong ⟨Nat.le_of_ble_eq_true rfl, Nat.le_of_ble_eq_true rfl⟩) rfl hl.1 (Nat.le_of_ble_eq_true rfl) dX11_testRead_253 ⟨Nat.zero_le _, Nat.zero_le _⟩ (fun r253 u253 H locs hh hw => ?_) rfl
        obtain ⟨hb256, hh⟩ := hh
        exact hR _ _ _ (u253.1, u253.2) _ _ dX11_testRead_256 (isB_nar hb256) hh hw
      · replace hh := hh.2 c239
        refine lv_goto (tgt := 257) C.1 C.2.1 dX11_testRead_242 (by decide) ?_
        exact tX11_testRead_b257 C hR hB208 hh hw hl
theorem tX11_testRead_b208 {K : Int32 → ((Nat → Int32) × (Nat → Nat → Int32)) → Prop} (C : CallFix p m c cX11_testRead 7 s args wsX11_testRead RX11) (hR : Rti .boolean p l e rmX11_testRead s m args below meth c cX11_testRead D A (mT cI cZ) (mWu o h cI cZ) K Q) (n : Nat) : ∀ (f : Nat → Int32) (g : Nat → Nat → Int32) (x1 : Int32) (x3 : Int32) (x4 : Int32) (x5 : Int32) (x6 : Int32) (H : Heap) (locs : List Loc) (ls : Array Slot), wpX11_testRead_b208 n f g x1 x3 x4 x5 x6 K → Wd D A s (mT cI cZ) (mW o h cI cZ f g) H locs → lv_has ls 7 [(0, .ref o), (1, .int x1), (3, .int x3), (4, .int x4), (5, .int x5), (6, .int x6)] → W p l e rmX11_testRead s m args below meth c H locs 0 0 Q (F0 m 208 ls []) := by
  induction n with
  | zero => intro f g x1 x3 x4 x5 x6 H locs ls hh; exact hh.elim
  | succ n ih => intro f g x1 x3 x4 x5 x6 H locs ls hh hw hl; exact tX11_testRead_b208_body C hR ih hh hw hl
set_option maxHeartbeats 4000000 in
set_option maxRecDepth 100000 in
theorem tX11_testRead_b202 {K : Int32 → ((Nat → Int32) × (Nat → Nat → Int32)) → Prop} (C : CallFix p m c cX11_testRead 7 s args wsX11_testRead RX11) (hR : Rti .boolean p l e rmX11_testRead s m args below meth c cX11_testRead D A (mT cI cZ) (mWu o h cI cZ) K Q) {f : Nat → Int32} {g : Nat → Nat → Int32} {x1 : Int32} {x3 : Int32} {x4 : Int32} {x5 : Int32} (hh : wpX11_testRead_b202 f g x1 x3 x4 x5 K) {H : Heap} {locs : List Loc} {ls : Array Slot} (hw : Wd D A s (mT cI cZ) (mW o h cI cZ f g) H locs) (hl : lv_has ls 7 [(0, .ref o), (1, .int x1), (3, .int x3), (4, .int x4), (5, .int x5)]) : W p l e rmX11_testRead s m args below meth c H locs 0 0 Q (F0 m 202 ls []) := by
  unfold wpX11_testRead_b202 at hh
  refine lv_bipush (v := (12 : Int32)) C.1 C.2.1 dX11_testRead_202 (by decide) ?_
  refine lv_iload_n C.1 C.2.1 dX11_testRead_204 rfl (lv_at hl 1 rfl) ?_
  refine lv_imul C.1 C.2.1 dX11_testRead_205 ?_
  refine lv_istore (lv' := [(6, .int ((12 : Int32) * x1)), (0, .ref o), (1, .int x1), (3, .int x3), (4, .int x4), (5, .int x5)]) C.1 C.2.1 dX11_testRead_206 hl (by decide) rfl (fun ls hl => ?_)
  obtain ⟨n, hh⟩ := hh
  exact tX11_testRead_b208 C hR n _ _ _ _ _ _ _ _ _ _ hh hw (lv_sub hl [1, 2, 3, 4, 5, 0] rfl)
set_option maxHeartbeats 4000000 in
set_option maxRecDepth 100000 in
theorem tX11_testRead_b180 {K : Int32 → ((Nat → Int32) × (Nat → Nat → Int32)) → Prop} (C : CallFix p m c cX11_testRead 7 s args wsX11_testRead RX11) (hR : Rti .boolean p l e rmX11_testRead s m args below meth c cX11_testRead D A (mT cI cZ) (mWu o h cI cZ) K Q) {f : Nat → Int32} {g : Nat → Nat → Int32} {k1 : Int32} {x1 : Int32} {x3 : Int32} {x4 : Int32} {x5 : Int32} (hh : wpX11_testRead_b180 f g k1 x1 x3 x4 x5 K) {H : Heap} {locs : List Loc} {ls : Array Slot} (hw : Wd D A s (mT cI cZ) (mW o h cI cZ f g) H locs) (hl : lv_has ls 7 [(0, .ref o), (1, .int x1), (3, .int x3), (4, .int x4), (5, .int x5)]) : W p l e rmX11_testRead s m args below meth c H locs 0 0 Q (F0 m 180 ls [.int k1, .ref o]) := by
  unfold wpX11_testRead_b180 at hh
  refine m_Vi C hw (ctX11_numberRead l D o h cI cZ f g k1 hh) (cwV 1 C.2.2.2.2 (gd_V w_1737 w_1739 w_66 w_125 w_1740) rfl rfl rfl cdX11_numberRead ⟨Nat.le_of_ble_eq_true rfl, Nat.le_of_ble_eq_true rfl⟩) rfl hl.1 (Nat.le_of_ble_eq_true rfl) dX11_testRead_180 ⟨Nat.zero_le _, Nat.zero_le _⟩ (fun r180 u180 H locs hh hw => ?_) rfl
  refine lv_if_ne (tgt := 188) C.1 C.2.1 dX11_testRead_183 (by decide) (fun c183 => ?_) (fun c183 => ?_)
  · replace hh := hh.1 c183
    refine lv_aload_n C.1 C.2.1 dX11_testRead_188 rfl (lv_at hl 0 rfl) ?_
    refine m_ga C hw (inC inW11) 16 (by decide) (wc w_1478) mg_16 dX11_testRead_189 ?_
    refine lv_iload_n C.1 C.2.1 dX11_testRead_192 rfl (lv_at hl 2 rfl) ?_
    refine lv_aload_n C.1 C.2.1 dX11_testRead_193 rfl (lv_at hl 0 rfl) ?_
    refine m_gi C hw (inC inW11) 9 (by decide) (wc w_1471) mg_9 (x := u180.1 9) rfl dX11_testRead_194 ?_
    obtain ⟨hi197, hh⟩ := hh
    refine m_ias C hw mp_16 mq_16 hi197 dX11_testRead_197 (fun H locs hw => ?_)
    refine lv_aload_n C.1 C.2.1 dX11_testRead_198 rfl (lv_at hl 0 rfl) ?_
    refine m_Vv C hw (ctX11_take l D o h cI cZ u180.1 (pt u180.2 16 (ix x3) (u180.1 9))  hh) (cwV 0 C.2.2.2.2 (gd_V w_1698 w_1700 w_57 w_125 w_1701) rfl rfl rfl cdX11_take ⟨Nat.le_of_ble_eq_true rfl, Nat.le_of_ble_eq_true rfl⟩) rfl hl.1 (Nat.le_of_ble_eq_true rfl) dX11_testRead_199 ⟨Nat.zero_le _, Nat.zero_le _⟩ (fun u199 H locs hh hw => ?_) rfl
    exact tX11_testRead_b202 C hR hh hw hl
  · replace hh := hh.2 c183
    refine lv_iconst (v := (0 : Int32)) C.1 C.2.1 dX11_testRead_186 (by decide) ?_
    exact hR _ _ _ (u180.1, u180.2) _ _ dX11_testRead_187 rfl hh hw
set_option maxHeartbeats 4000000 in
set_option maxRecDepth 100000 in
theorem tX11_testRead_b66 {K : Int32 → ((Nat → Int32) × (Nat → Nat → Int32)) → Prop} (C : CallFix p m c cX11_testRead 7 s args wsX11_testRead RX11) (hR : Rti .boolean p l e rmX11_testRead s m args below meth c cX11_testRead D A (mT cI cZ) (mWu o h cI cZ) K Q) {f : Nat → Int32} {g : Nat → Nat → Int32} {x1 : Int32} {x2 : Int32} (hh : wpX11_testRead_b66 f g x1 x2 K) {H : Heap} {locs : List Loc} {ls : Array Slot} (hw : Wd D A s (mT cI cZ) (mW o h cI cZ f g) H locs) (hl : lv_has ls 7 [(0, .ref o), (1, .int x1), (2, .int x2)]) : W p l e rmX11_testRead s m args below meth c H locs 0 0 Q (F0 m 66 ls []) := by
  unfold wpX11_testRead_b66 at hh
  refine lv_aload_n C.1 C.2.1 dX11_testRead_66 rfl (lv_at hl 0 rfl) ?_
  refine m_gi C hw (inC inW11) 8 (by decide) (wc w_1470) mg_8 (x := f 8) rfl dX11_testRead_67 ?_
  refine lv_iconst (v := (1 : Int32)) C.1 C.2.1 dX11_testRead_70 (by decide) ?_
  refine lv_icmp_ne (tgt := 91) C.1 C.2.1 dX11_testRead_71 (by decide) (fun c71 => ?_) (fun c71 => ?_)
  · replace hh := hh.1 c71
    exact tX11_testRead_b91 C hR hh hw (lv_sub hl [0] rfl)
  · replace hh := hh.2 c71
    refine lv_aload_n C.1 C.2.1 dX11_testRead_74 rfl (lv_at hl 0 rfl) ?_
    refine m_gi C hw (inC inW11) 9 (by decide) (wc w_1471) mg_9 (x := f 9) rfl dX11_testRead_75 ?_
    refine lv_iconst (v := (3 : Int32)) C.1 C.2.1 dX11_testRead_78 (by decide) ?_
    refine lv_icmp_lt (tgt := 91) C.1 C.2.1 dX11_testRead_79 (by decide) (fun c79 => ?_) (fun c79 => ?_)
    · replace hh := hh.1 c79
      exact tX11_testRead_b91 C hR hh hw (lv_sub hl [0] rfl)
    · replace hh := hh.2 c79
      refine lv_aload_n C.1 C.2.1 dX11_testRead_82 rfl (lv_at hl 0 rfl) ?_
      refine m_gi C hw (inC inW11) 9 (by decide) (wc w_1471) mg_9 (x := f 9) rfl dX11_testRead_83 ?_
      refine lv_bipush (v := (8 : Int32)) C.1 C.2.1 dX11_testRead_86 (by decide) ?_
      refine lv_icmp_le (tgt := 97) C.1 C.2.1 dX11_testRead_88 (by decide) (fun c88 => ?_) (fun c88 => ?_)
      · replace hh := hh.1 c88
        refine lv_bipush (v := (12 : Int32)) C.1 C.2.1 dX11_testRead_97 (by decide) ?_
        refine lv_iload_n C.1 C.2.1 dX11_testRead_99 rfl (lv_at hl 1 rfl) ?_
        refine lv_imul C.1 C.2.1 dX11_testRead_100 ?_
        refine lv_aload_n C.1 C.2.1 dX11_testRead_101 rfl (lv_at hl 0 rfl) ?_
        refine m_ga C hw (inC inW11) 13 (by decide) (wc w_1475) mg_13 dX11_testRead_102 ?_
        refine lv_iload_n C.1 C.2.1 dX11_testRead_105 rfl (lv_at hl 1 rfl) ?_
        obtain ⟨hi106, hh⟩ := hh
        refine m_ial C hw mp_13 (x := g 13 (ix x1)) hi106 rfl dX11_testRead_106 ?_
        refine lv_iadd C.1 C.2.1 dX11_testRead_107 ?_
        refine lv_istore_n (lv' := [(3, .int (((12 : Int32) * x1) + (g 13 (ix x1)))), (0, .ref o), (1, .int x1), (2, .int x2)]) C.1 C.2.1 dX11_testRead_108 rfl hl (by decide) rfl (fun ls hl => ?_)
        refine lv_aload_n C.1 C.2.1 dX11_testRead_109 rfl (lv_at hl 1 rfl) ?_
        refine m_gi C hw (inC inW11) 9 (by decide) (wc w_1471) mg_9 (x := f 9) rfl dX11_testRead_110 ?_
        refine lv_istore (lv' := [(4, .int (f 9)), (3, .int (((12 : Int32) * x1) + (g 13 (ix x1)))), (0, .ref o), (1, .int x1), (2, .int x2)]) C.1 C.2.1 dX11_testRead_113 hl (by decide) rfl (fun ls hl => ?_)
        refine lv_aload_n C.1 C.2.1 dX11_testRead_115 rfl (lv_at hl 2 rfl) ?_
        refine m_gi C hw (inC inW11) 10 (by decide) (wc w_1472) mg_10 (x := f 10) rfl dX11_testRead_116 ?_
        refine lv_istore (lv' := [(5, .int (f 10)), (4, .int (f 9)), (3, .int (((12 : Int32) * x1) + (g 13 (ix x1)))), (0, .ref o), (1, .int x1), (2, .int x2)]) C.1 C.2.1 dX11_testRead_119 hl (by decide) rfl (fun ls hl => ?_)
        refine lv_aload_n C.1 C.2.1 dX11_testRead_121 rfl (lv_at hl 3 rfl) ?_
        refine m_ga C hw (inC inW11) 15 (by decide) (wc w_1477) mg_15 dX11_testRead_122 ?_
        refine lv_iload_n C.1 C.2.1 dX11_testRead_125 rfl (lv_at hl 2 rfl) ?_
        refine lv_iload C.1 C.2.1 dX11_testRead_126 (lv_at hl 1 rfl) ?_
        obtain ⟨hi128, hh⟩ := hh
        refine m_ias C hw mp_15 mq_15 hi128 dX11_testRead_128 (fun H locs hw => ?_)
        refine lv_aload_n C.1 C.2.1 dX11_testRead_129 rfl (lv_at hl 3 rfl) ?_
        refine m_ga C hw (inC inW11) 17 (by decide) (wc w_1479) mg_17 dX11_testRead_130 ?_
        refine lv_iload_n C.1 C.2.1 dX11_testRead_133 rfl (lv_at hl 2 rfl) ?_
        refine lv_iload_n C.1 C.2.1 dX11_testRead_134 rfl (lv_at hl 5 rfl) ?_
        obtain ⟨hi135, hh⟩ := hh
        refine m_zas C hw mp_17 mq_17 hi135 dX11_testRead_135 (fun H locs hw => ?_)
        refine lv_aload_n C.1 C.2.1 dX11_testRead_136 rfl (lv_at hl 3 rfl) ?_
        refine m_ga C hw (inC inW11) 16 (by decide) (wc w_1478) mg_16 dX11_testRead_137 ?_
        refine lv_iload_n C.1 C.2.1 dX11_testRead_140 rfl (lv_at hl 2 rfl) ?_
        refine lv_iconst (v := (0 : Int32)) C.1 C.2.1 dX11_testRead_141 (by decide) ?_
        obtain ⟨hi142, hh⟩ := hh
        refine m_ias C hw mp_16 mq_16 hi142 dX11_testRead_142 (fun H locs hw => ?_)
        refine lv_aload_n C.1 C.2.1 dX11_testRead_143 rfl (lv_at hl 3 rfl) ?_
        refine m_Vv C hw (ctX11_take l D o h cI cZ f (pt (pt (pt g 15 (ix (((12 : Int32) * x1) + (g 13 (ix x1)))) (f 9)) 17 (ix (((12 : Int32) * x1) + (g 13 (ix x1)))) (vp_nar .boolean x2)) 16 (ix (((12 : Int32) * x1) + (g 13 (ix x1)))) (0 : Int32))  hh) (cwV 0 C.2.2.2.2 (gd_V w_1698 w_1700 w_57 w_125 w_1701) rfl rfl rfl cdX11_take ⟨Nat.le_of_ble_eq_true rfl, Nat.le_of_ble_eq_true rfl⟩) rfl hl.1 (Nat.le_of_ble_eq_true rfl) dX11_testRead_144 ⟨Nat.zero_le _, Nat.zero_le _⟩ (fun u144 H locs hh hw => ?_) rfl
        refine lv_iload C.1 C.2.1 dX11_testRead_147 (lv_at hl 1 rfl) ?_
        refine lv_bipush (v := (6 : Int32)) C.1 C.2.1 dX11_testRead_149 (by decide) ?_
        refine lv_icmp_lt (tgt := 202) C.1 C.2.1 dX11_testRead_151 (by decide) (fun c151 => ?_) (fun c151 => ?_)
        · replace hh := hh.1 c151
          exact tX11_testRead_b202 C hR hh hw (lv_sub hl [3, 4, 2, 1, 0] rfl)
        · replace hh := hh.2 c151
          refine lv_aload_n C.1 C.2.1 dX11_testRead_154 rfl (lv_at hl 3 rfl) ?_
          refine lv_iload C.1 C.2.1 dX11_testRead_155 (lv_at hl 1 rfl) ?_
          refine lv_bipush (v := (6 : Int32)) C.1 C.2.1 dX11_testRead_157 (by decide) ?_
          refine lv_icmp_ne (tgt := 167) C.1 C.2.1 dX11_testRead_159 (by decide) (fun c159 => ?_) (fun c159 => ?_)
          · replace hh := hh.1 c159
            refine lv_iload C.1 C.2.1 dX11_testRead_167 (lv_at hl 1 rfl) ?_
            refine lv_bipush (v := (7 : Int32)) C.1 C.2.1 dX11_testRead_169 (by decide) ?_
            refine lv_icmp_ne (tgt := 179) C.1 C.2.1 dX11_testRead_171 (by decide) (fun c171 => ?_) (fun c171 => ?_)
            · replace hh := hh.1 c171
              refine lv_iconst (v := (2 : Int32)) C.1 C.2.1 dX11_testRead_179 (by decide) ?_
              exact tX11_testRead_b180 C hR hh hw (lv_sub hl [3, 4, 2, 1, 0] rfl)
            · replace hh := hh.2 c171
              refine lv_bipush (v := (99 : Int32)) C.1 C.2.1 dX11_testRead_174 (by decide) ?_
              refine lv_goto (tgt := 180) C.1 C.2.1 dX11_testRead_176 (by decide) ?_
              exact tX11_testRead_b180 C hR hh hw (lv_sub hl [3, 4, 2, 1, 0] rfl)
          · replace hh := hh.2 c159
            refine lv_bipush (v := (9 : Int32)) C.1 C.2.1 dX11_testRead_162 (by decide) ?_
            refine lv_goto (tgt := 180) C.1 C.2.1 dX11_testRead_164 (by decide) ?_
            exact tX11_testRead_b180 C hR hh hw (lv_sub hl [3, 4, 2, 1, 0] rfl)
      · replace hh := hh.2 c88
        exact tX11_testRead_b91 C hR hh hw (lv_sub hl [0] rfl)
set_option maxHeartbeats 4000000 in
set_option maxRecDepth 100000 in
theorem tX11_testRead_b41 {K : Int32 → ((Nat → Int32) × (Nat → Nat → Int32)) → Prop} (C : CallFix p m c cX11_testRead 7 s args wsX11_testRead RX11) (hR : Rti .boolean p l e rmX11_testRead s m args below meth c cX11_testRead D A (mT cI cZ) (mWu o h cI cZ) K Q) {f : Nat → Int32} {g : Nat → Nat → Int32} {x1 : Int32} {x2 : Int32} (hh : wpX11_testRead_b41 f g x1 x2 K) {H : Heap} {locs : List Loc} {ls : Array Slot} (hw : Wd D A s (mT cI cZ) (mW o h cI cZ f g) H locs) (hl : lv_has ls 7 [(0, .ref o), (1, .int x1), (2, .int x2)]) : W p l e rmX11_testRead s m args below meth c H locs 0 0 Q (F0 m 41 ls []) := by
  unfold wpX11_testRead_b41 at hh
  refine lv_aload_n C.1 C.2.1 dX11_testRead_41 rfl (lv_at hl 0 rfl) ?_
  refine m_ga C hw (inC inW11) 13 (by decide) (wc w_1475) mg_13 dX11_testRead_42 ?_
  refine lv_iload_n C.1 C.2.1 dX11_testRead_45 rfl (lv_at hl 1 rfl) ?_
  obtain ⟨hi46, hh⟩ := hh
  refine m_ial C hw mp_13 (x := g 13 (ix x1)) hi46 rfl dX11_testRead_46 ?_
  refine lv_bipush (v := (12 : Int32)) C.1 C.2.1 dX11_testRead_47 (by decide) ?_
  refine lv_icmp_ne (tgt := 58) C.1 C.2.1 dX11_testRead_49 (by decide) (fun c49 => ?_) (fun c49 => ?_)
  · replace hh := hh.1 c49
    refine lv_iload_n C.1 C.2.1 dX11_testRead_58 rfl (lv_at hl 2 rfl) ?_
    refine lv_if_eq (tgt := 66) C.1 C.2.1 dX11_testRead_59 (by decide) (fun c59 => ?_) (fun c59 => ?_)
    · replace hh := hh.1 c59
      exact tX11_testRead_b66 C hR hh hw hl
    · replace hh := hh.2 c59
      refine lv_aload_n C.1 C.2.1 dX11_testRead_62 rfl (lv_at hl 0 rfl) ?_
      refine m_Vv C hw (ctX11_take l D o h cI cZ f g  hh) (cwV 0 C.2.2.2.2 (gd_V w_1698 w_1700 w_57 w_125 w_1701) rfl rfl rfl cdX11_take ⟨Nat.le_of_ble_eq_true rfl, Nat.le_of_ble_eq_true rfl⟩) rfl hl.1 (Nat.le_of_ble_eq_true rfl) dX11_testRead_63 ⟨Nat.zero_le _, Nat.zero_le _⟩ (fun u63 H locs hh hw => ?_) rfl
      exact tX11_testRead_b66 C hR hh hw hl
  · replace hh := hh.2 c49
    refine lv_aload_n C.1 C.2.1 dX11_testRead_52 rfl (lv_at hl 0 rfl) ?_
    refine lv_iconst (v := (2 : Int32)) C.1 C.2.1 dX11_testRead_53 (by decide) ?_
    refine m_Vi C hw (ctX11_wrong l D o h cI cZ f g (2 : Int32) hh) (cwV 1 C.2.2.2.2 (gd_V w_1729 w_1731 w_64 w_125 w_1732) rfl rfl rfl cdX11_wrong ⟨Nat.le_of_ble_eq_true rfl, Nat.le_of_ble_eq_true rfl⟩) rfl hl.1 (Nat.le_of_ble_eq_true rfl) dX11_testRead_54 ⟨Nat.zero_le _, Nat.zero_le _⟩ (fun r54 u54 H locs hh hw => ?_) rfl
    obtain ⟨hb57, hh⟩ := hh
    exact hR _ _ _ (u54.1, u54.2) _ _ dX11_testRead_57 (isB_nar hb57) hh hw
set_option maxHeartbeats 4000000 in
set_option maxRecDepth 100000 in
theorem tX11_testRead_b35 {K : Int32 → ((Nat → Int32) × (Nat → Nat → Int32)) → Prop} (C : CallFix p m c cX11_testRead 7 s args wsX11_testRead RX11) (hR : Rti .boolean p l e rmX11_testRead s m args below meth c cX11_testRead D A (mT cI cZ) (mWu o h cI cZ) K Q) {f : Nat → Int32} {g : Nat → Nat → Int32} (hh : wpX11_testRead_b35 f g K) {H : Heap} {locs : List Loc} {ls : Array Slot} (hw : Wd D A s (mT cI cZ) (mW o h cI cZ f g) H locs) (hl : lv_has ls 7 [(0, .ref o)]) : W p l e rmX11_testRead s m args below meth c H locs 0 0 Q (F0 m 35 ls []) := by
  unfold wpX11_testRead_b35 at hh
  refine lv_aload_n C.1 C.2.1 dX11_testRead_35 rfl (lv_at hl 0 rfl) ?_
  refine lv_iconst (v := (1 : Int32)) C.1 C.2.1 dX11_testRead_36 (by decide) ?_
  refine m_Vi C hw (ctX11_wrong l D o h cI cZ f g (1 : Int32) hh) (cwV 1 C.2.2.2.2 (gd_V w_1729 w_1731 w_64 w_125 w_1732) rfl rfl rfl cdX11_wrong ⟨Nat.le_of_ble_eq_true rfl, Nat.le_of_ble_eq_true rfl⟩) rfl hl.1 (Nat.le_of_ble_eq_true rfl) dX11_testRead_37 ⟨Nat.zero_le _, Nat.zero_le _⟩ (fun r37 u37 H locs hh hw => ?_) rfl
  obtain ⟨hb40, hh⟩ := hh
  exact hR _ _ _ (u37.1, u37.2) _ _ dX11_testRead_40 (isB_nar hb40) hh hw
set_option maxHeartbeats 4000000 in
set_option maxRecDepth 100000 in
theorem tX11_testRead_b0 {K : Int32 → ((Nat → Int32) × (Nat → Nat → Int32)) → Prop} (C : CallFix p m c cX11_testRead 7 s args wsX11_testRead RX11) (hR : Rti .boolean p l e rmX11_testRead s m args below meth c cX11_testRead D A (mT cI cZ) (mWu o h cI cZ) K Q) {f : Nat → Int32} {g : Nat → Nat → Int32} {x1 : Int32} (hh : wpX11_testRead_b0 f g x1 K) {H : Heap} {locs : List Loc} {ls : Array Slot} (hw : Wd D A s (mT cI cZ) (mW o h cI cZ f g) H locs) (hl : lv_has ls 7 [(0, .ref o), (1, .int x1)]) : W p l e rmX11_testRead s m args below meth c H locs 0 0 Q (F0 m 0 ls []) := by
  unfold wpX11_testRead_b0 at hh
  refine lv_aload_n C.1 C.2.1 dX11_testRead_0 rfl (lv_at hl 0 rfl) ?_
  refine lv_iconst (v := (2 : Int32)) C.1 C.2.1 dX11_testRead_1 (by decide) ?_
  refine m_Vi C hw (ctX11_isKey l D o h cI cZ f g (2 : Int32) hh) (cwV 1 C.2.2.2.2 (gd_V w_1725 w_1727 w_63 w_125 w_1728) rfl rfl rfl cdX11_isKey ⟨Nat.le_of_ble_eq_true rfl, Nat.le_of_ble_eq_true rfl⟩) rfl hl.1 (Nat.le_of_ble_eq_true rfl) dX11_testRead_2 ⟨Nat.zero_le _, Nat.zero_le _⟩ (fun r2 u2 H locs hh hw => ?_) rfl
  refine lv_istore_n (lv' := [(2, .int r2), (0, .ref o), (1, .int x1)]) C.1 C.2.1 dX11_testRead_5 rfl hl (by decide) rfl (fun ls hl => ?_)
  refine lv_iload_n C.1 C.2.1 dX11_testRead_6 rfl (lv_at hl 0 rfl) ?_
  refine lv_if_ne (tgt := 41) C.1 C.2.1 dX11_testRead_7 (by decide) (fun c7 => ?_) (fun c7 => ?_)
  · replace hh := hh.1 c7
    exact tX11_testRead_b41 C hR hh hw (lv_sub hl [1, 2, 0] rfl)
  · replace hh := hh.2 c7
    refine lv_aload_n C.1 C.2.1 dX11_testRead_10 rfl (lv_at hl 1 rfl) ?_
    refine m_gi C hw (inC inW11) 8 (by decide) (wc w_1470) mg_8 (x := u2.1 8) rfl dX11_testRead_11 ?_
    refine lv_iconst (v := (1 : Int32)) C.1 C.2.1 dX11_testRead_14 (by decide) ?_
    refine lv_icmp_ne (tgt := 35) C.1 C.2.1 dX11_testRead_15 (by decide) (fun c15 => ?_) (fun c15 => ?_)
    · replace hh := hh.1 c15
      exact tX11_testRead_b35 C hR hh hw (lv_sub hl [1] rfl)
    · replace hh := hh.2 c15
      refine lv_aload_n C.1 C.2.1 dX11_testRead_18 rfl (lv_at hl 1 rfl) ?_
      refine m_gi C hw (inC inW11) 9 (by decide) (wc w_1471) mg_9 (x := u2.1 9) rfl dX11_testRead_19 ?_
      refine lv_iconst (v := (3 : Int32)) C.1 C.2.1 dX11_testRead_22 (by decide) ?_
      refine lv_icmp_lt (tgt := 35) C.1 C.2.1 dX11_testRead_23 (by decide) (fun c23 => ?_) (fun c23 => ?_)
      · replace hh := hh.1 c23
        exact tX11_testRead_b35 C hR hh hw (lv_sub hl [1] rfl)
      · replace hh := hh.2 c23
        refine lv_aload_n C.1 C.2.1 dX11_testRead_26 rfl (lv_at hl 1 rfl) ?_
        refine m_gi C hw (inC inW11) 9 (by decide) (wc w_1471) mg_9 (x := u2.1 9) rfl dX11_testRead_27 ?_
        refine lv_bipush (v := (8 : Int32)) C.1 C.2.1 dX11_testRead_30 (by decide) ?_
        refine lv_icmp_le (tgt := 41) C.1 C.2.1 dX11_testRead_32 (by decide) (fun c32 => ?_) (fun c32 => ?_)
        · replace hh := hh.1 c32
          exact tX11_testRead_b41 C hR hh hw (lv_sub hl [1, 2, 0] rfl)
        · replace hh := hh.2 c32
          exact tX11_testRead_b35 C hR hh hw (lv_sub hl [1] rfl)
theorem ctX11_testRead (l : Launch) (D : va_G) (o : Nat) (h : Nat → Nat) (cI cZ : ClassId) (f : Nat → Int32) (g : Nat → Nat → Int32) (x1 : Int32) {K : Int32 → ((Nat → Int32) × (Nat → Nat → Int32)) → Prop} (hh : wpX11_testRead f g x1 K) : Ci l yX11_testRead wsX11_testRead rmX11_testRead [.ref o, .int x1] D (mT cI cZ) (mWu o h cI cZ) (f, g) K := by
  refine Ci_of (cc := cX11_testRead) (maxL := 7) (by decide) rfl (Nat.le_of_ble_eq_true rfl) ?_
  intro p e s m below meth c A Q C hw hR ls hl
  exact tX11_testRead_b0 C hR hh hw hl
theorem cdX11_testRead : yX11_testRead.cls = RX11 ∧ yX11_testRead.cls ≠ "java/lang/invoke/MethodHandle" ∧ yX11_testRead.cls ≠ "java/lang/invoke/VarHandle" ∧ (parseMethodDescriptor yX11_testRead.desc).map (fun d => d.parameters.length) = some 1 := by decide +kernel
end
