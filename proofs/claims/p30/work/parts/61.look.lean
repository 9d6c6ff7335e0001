/-! look: its two throws. -/
def XI : String := "java/lang/IndexOutOfBoundsException"
def XN : String := "java/util/NoSuchElementException"
def xch : List String := ["java/lang/RuntimeException", "java/lang/Exception"]
def atI : List Cond := vx_atS RX10 204 XI xch
def rxN : ByteArray := prog_24_method_4_code
def atN : List Cond := v_atX RX10 224 XN 13 rxN xch
theorem rxN_0 : decode rxN 0 = .ok (.aload_n 0, 1) := by decide +kernel
theorem rxN_1 : decode rxN 1 = .ok (.aload_n 1, 1) := by decide +kernel
theorem rxN_2 : decode rxN 2 = .ok (.invokespecial 13, 3) := by decide +kernel
theorem rxN_5 : decode rxN 5 = .ok (.return_, 1) := by decide +kernel
def Bx : List Cond := [.castable XI XI, .castable XN XN, .declares ⟨"java/lang/RuntimeException", "<init>", "(Ljava/lang/String;)V"⟩, .declares ⟨"java/lang/Exception", "<init>", "(Ljava/lang/String;)V"⟩, .declares ⟨"java/lang/Throwable", "<init>", "(Ljava/lang/String;)V"⟩]
theorem Bx_t : ∀ w ∈ Bx, w.onTables = true := by decide +kernel
theorem atI_b : ∀ w ∈ atI.filter (fun w => !goodWord w), w ∈ Bx := by decide +kernel
theorem atN_b : ∀ w ∈ atN.filter (fun w => !goodWord w), w ∈ Bx := by decide +kernel
def Lx : List Cond := (lw_tbl.drop 1340).take 160 ++ (lw_tbl.drop 115).take 30 ++ (lw_tbl.drop 51).take 1 ++ (lw_tbl.filter (fun w => match w with | .instanceMethod x => x.cls == "java/lang/Object" | .code x .. => x.cls == "java/lang/Object" | _ => false))
theorem Lx_t : ∀ w ∈ Lx, w ∈ lw_tbl := by
  intro w hw
  unfold Lx at hw
  rcases List.mem_append.mp hw with hw | hw
  · rcases List.mem_append.mp hw with hw | hw
    · rcases List.mem_append.mp hw with hw | hw
      · exact List.mem_of_mem_drop (List.mem_of_mem_take hw)
      · exact List.mem_of_mem_drop (List.mem_of_mem_take hw)
    · exact List.mem_of_mem_drop (List.mem_of_mem_take hw)
  · exact (List.mem_filter.mp hw).1
theorem atI_g0 : ∀ w ∈ atI.filter goodWord, w ∈ Lx := by decide +kernel
theorem atN_g0 : ∀ w ∈ atN.filter goodWord, w ∈ Lx := by decide +kernel
theorem atI_g : ∀ w ∈ atI.filter goodWord, w ∈ WL := fun w hw => List.mem_filter.mpr ⟨Lx_t w (atI_g0 w hw), (List.mem_filter.mp hw).2⟩
theorem atN_g : ∀ w ∈ atN.filter goodWord, w ∈ WL := fun w hw => List.mem_filter.mpr ⟨Lx_t w (atN_g0 w hw), (List.mem_filter.mp hw).2⟩
theorem atI_o : ∀ w ∈ Cond.classLink RX10 200 XI :: Cond.initialized XI :: atI, vx_ot w = true := by decide +kernel
theorem atN_o : ∀ w ∈ Cond.classLink RX10 220 XN :: Cond.initialized XN :: atN, vx_ot w = true := by decide +kernel
theorem wxI1 : Cond.classLink RX10 200 XI ∈ WL := WL_in 1349 (by decide +kernel) (by decide +kernel)
theorem wxI2 : Cond.initialized XI ∈ WL := WL_in 135 (by decide +kernel) (by decide +kernel)
theorem wxN1 : Cond.classLink RX10 220 XN ∈ WL := WL_in 1424 (by decide +kernel) (by decide +kernel)
theorem wxN2 : Cond.initialized XN ∈ WL := WL_in 136 (by decide +kernel) (by decide +kernel)
/-- what the throws may use beside their words -/
def EXt (s : State) : Prop := (∀ w ∈ Bx, va_Nw w s) ∧ va_Nc XN XI s
def Zs (A : Nat → Prop) (U : State) (H : Heap) : Prop := vx_Zq Bundle.tN "UNASSIGNED_STACK" Bundle.steD A U H ∧ vx_Zq Bundle.tN "SUPPRESSED_SENTINEL" Bundle.listD A U H
theorem EXt.warm {s U : State} (hW : s.WarmedH U.vm) (h : EXt s) : EXt U := by
  refine ⟨fun w hw => ?_, h.2.moved hW.alike⟩
  have h1 := h.1 w hw
  simp only [Bx, List.mem_cons, List.not_mem_nil, or_false] at hw
  rcases hw with rfl | rfl | rfl | rfl | rfl
  · exact h1.warmC hW
  · exact h1.warmC hW
  · exact h1.warmD hW
  · exact h1.warmD hW
  · exact h1.warmD hW
theorem EXt.same {s U : State} (hv : U.vm = s.vm) (h : EXt s) : EXt U := ⟨fun w hw => va_Nw.same (Bx_t w hw) hv.symm (h.1 w hw), h.2.moved (hv ▸ Vm.Alike.refl s.vm)⟩
theorem Zs.moved {A : Nat → Prop} {u U : State} {H : Heap} (hvm : u.vm.Alike U.vm) (h : Zs A u H) : Zs A U H := ⟨h.1.moved hvm, h.2.moved hvm⟩
theorem Zs.kept {A : Nat → Prop} {U : State} {H H1 : Heap} (h : Zs A U H) (hq : ∀ a : Nat, a < H.size → ¬ A a → H1[a]? = H[a]?) : Zs A U H1 := ⟨h.1.kept hq, h.2.kept hq⟩
theorem Zs.narrow {A B : Nat → Prop} {U : State} {H : Heap} (h : Zs A U H) (hAB : ∀ q, B q → A q) : Zs B U H := ⟨h.1.narrow hAB, h.2.narrow hAB⟩
def CpreX (av : List Value) (D : va_G) (tys : List (ClassId × FieldType)) (w0 : va_W) (sz : Nat) : Array Value → State → Prop :=
  va_Pc av (fun U => (U.heap.size = sz ∧ va_P D vwCl w0 U.heap ∧ va_K D vwCl tys U ∧ va_D (fun _ => True) w0 ∧ EXs D (va_A w0 sz) U) ∧ EXt U ∧ Zs (va_A w0 sz) U U.heap)
/-- a method that answers an int or throws -/
def Cx (l : Launch) (y : MethodName) (wsY : List Cond) (rm : Room) (av : List Value) (D : va_G) (tys : List (ClassId × FieldType)) {S : Type} (w : S → va_W) (u0 : S) (K : Int32 → S → Prop) (KX : String → S → Prop) : Prop :=
  ∀ sz : Nat, vx_Met l y wsY rm (CpreX av D tys (w u0) sz) (va_Qi K (Cpost D tys w (w u0) sz) (va_A (w u0) sz)) (vx_X (fun _ : S => True) (fun E u t => KX E u ∧ Cpost D tys w (w u0) sz u t) (va_A (w u0) sz)) 1 6 (va_A (w u0) sz)
abbrev rmX10_lookX : Room := { frames := 6, cells := 1, slots := 6, locals := 100 }
section
variable {p : Program} {l : Launch} {e : Env} {s : State} {m : MethodId} {args : Array Value} {below : List Frame} {meth : Method} {c : Code} {D : va_G} {A : Nat → Prop} {h : Nat → Nat} {cI cL cF cM : ClassId} {Q : State → Prop}
def wpX10_lookX (F : Nat → Nat → Int32) (L : Nat → Nat → Int64) (r : Nat → Nat → Nat) (x1 : Int32) (x2 : Int32) (K : Int32 → cS → Prop) (KX : String → cS → Prop) : Prop :=
  wpX1_has 46 F L r x1 (fun r5 u5 =>
    (¬ (r5 = 0) →
    (x2 = (0 : Int32) →
      wpX3_wayOf 74 u5.1 u5.2.1 u5.2.2 x1 (fun r57 u57 =>
          K r57 (u57.1, u57.2.1, u57.2.2))) ∧
    (x2 = (1 : Int32) →
      wpX3_yesesOf 74 u5.1 u5.2.1 u5.2.2 x1 (fun r66 u66 =>
          K r66 (u66.1, u66.2.1, u66.2.2))) ∧
    (x2 = (2 : Int32) →
      wpX1_wallsOf 46 u5.1 u5.2.1 u5.2.2 x1 (fun r75 u75 =>
          K r75 (u75.1, u75.2.1, u75.2.2))) ∧
    (x2 = (3 : Int32) →
      wpX1_far 46 u5.1 u5.2.1 u5.2.2 x1 (fun r84 u84 =>
          K r84 (u84.1, u84.2.1, u84.2.2))) ∧
    ((x2).toInt < 0 ∨ 3 < (x2).toInt →
      KX XN (u5.1, u5.2.1, u5.2.2))) ∧
  ((r5 = 0) →
    KX XI (u5.1, u5.2.1, u5.2.2)))
set_option maxHeartbeats 4000000 in
set_option maxRecDepth 100000 in
theorem tX10_lookX {K : Int32 → cS → Prop} {KX : String → cS → Prop} (C : CallFix p m c cX10_look 3 s args wsX10_look RX10) (hR : Rti .int p l e rmX10_lookX s m args below meth c cX10_look D A (cT cI cL cF cM) (cWu h cI cL cF cM) K Q) {F : Nat → Nat → Int32} {L : Nat → Nat → Int64} {r : Nat → Nat → Nat} {x1 : Int32} {x2 : Int32} (hXI : ∀ (ls : Array Slot) (u : cS) (H : Heap) (locs : List Loc), ls.size = 3 → KX XI u → Wd D A s (cT cI cL cF cM) (cWu h cI cL cF cM u) H locs → W p l e rmX10_lookX s m args below meth c H locs 0 0 Q (F0 m 11 ls [])) (hXN : ∀ (ls : Array Slot) (u : cS) (H : Heap) (locs : List Loc), ls.size = 3 → KX XN u → Wd D A s (cT cI cL cF cM) (cWu h cI cL cF cM u) H locs → W p l e rmX10_lookX s m args below meth c H locs 0 0 Q (F0 m 88 ls [])) (hh : wpX10_lookX F L r x1 x2 K KX) {H : Heap} {locs : List Loc} {ls : Array Slot} (hw : Wd D A s (cT cI cL cF cM) (cW h cI cL cF cM F L r) H locs) (hl : lv_has ls 3 [(0, .ref (h 0)), (1, .int x1), (2, .int x2)]) : W p l e rmX10_lookX s m args below meth c H locs 0 0 Q (F0 m 0 ls []) := by
  unfold wpX10_lookX at hh
  refine lv_aload_n C.1 C.2.1 dX10_look_0 rfl (lv_at hl 0 rfl) ?_
  refine c_get C hw (inC inW10) (kd_lt kp0 (by decide)) (ce10 kp0) rfl 5 (by decide) (wc w_575) (v := .ref (h 46)) rfl dX10_look_1 ?_
  refine lv_iload_n C.1 C.2.1 dX10_look_4 rfl (lv_at hl 1 rfl) ?_
  refine c_Vi C hw (ctX1_has l D h cI cL cF cM 46 kp46 F L r x1 hh) (cwV 1 C.2.2.2.2 (gd_V w_937 w_938 w_939 w_120 w_940) rfl rfl rfl cdX1_has ⟨Nat.le_of_ble_eq_true rfl, Nat.le_of_ble_eq_true rfl⟩) rfl (kd_lt kp46 (by decide)) (ce1 kp46) rfl hl.1 (Nat.le_of_ble_eq_true rfl) dX10_look_5 ⟨Nat.zero_le _, Nat.zero_le _⟩ (fun r5 u5 H locs hh hw => ?_) rfl
  refine lv_if_ne (tgt := 21) C.1 C.2.1 dX10_look_8 (by decide) (fun c8 => ?_) (fun c8 => ?_)
  · replace hh := hh.1 c8
    refine lv_iload_n C.1 C.2.1 dX10_look_21 rfl (lv_at hl 2 rfl) ?_
    refine sw_in (x := x2) (lo := 0) (hi := 3) (fun hlo hhi => ?_) (fun ho => ?_)
    · have hv : (x2).toInt = 0 ∨ (x2).toInt = 1 ∨ (x2).toInt = 2 ∨ (x2).toInt = 3 := by omega
      rcases hv with hv | hv | hv | hv
      · replace hh := hh.1 (sw_eq hv (by decide))
        refine lv_tableIn (off := 30) (tgt := 52) C.1 C.2.1 dX10_look_22 hlo hhi (by rw [hv]; rfl) (by decide) ?_
        refine lv_aload_n C.1 C.2.1 dX10_look_52 rfl (lv_at hl 0 rfl) ?_
        refine c_get C hw (inC inW10) (kd_lt kp0 (by decide)) (ce10 kp0) rfl 6 (by decide) (wc w_576) (v := .ref (h 74)) rfl dX10_look_53 ?_
        refine lv_iload_n C.1 C.2.1 dX10_look_56 rfl (lv_at hl 1 rfl) ?_
        refine c_Vi C hw (ctX3_wayOf l D h cI cL cF cM 74 kp74 u5.1 u5.2.1 u5.2.2 x1 hh) (cwV 1 C.2.2.2.2 (gd_V w_1157 w_1006 w_1007 w_121 w_1008) rfl rfl rfl cdX3_wayOf ⟨Nat.le_of_ble_eq_true rfl, Nat.le_of_ble_eq_true rfl⟩) rfl (kd_lt kp74 (by decide)) (ce3 kp74) rfl hl.1 (Nat.le_of_ble_eq_true rfl) dX10_look_57 ⟨Nat.zero_le _, Nat.zero_le _⟩ (fun r57 u57 H locs hh hw => ?_) rfl
        exact hR _ _ _ (u57.1, u57.2.1, u57.2.2) _ _ dX10_look_60 rfl hh hw
      · replace hh := hh.2.1 (sw_eq hv (by decide))
        refine lv_tableIn (off := 39) (tgt := 61) C.1 C.2.1 dX10_look_22 hlo hhi (by rw [hv]; rfl) (by decide) ?_
        refine lv_aload_n C.1 C.2.1 dX10_look_61 rfl (lv_at hl 0 rfl) ?_
        refine c_get C hw (inC inW10) (kd_lt kp0 (by decide)) (ce10 kp0) rfl 6 (by decide) (wc w_576) (v := .ref (h 74)) rfl dX10_look_62 ?_
        refine lv_iload_n C.1 C.2.1 dX10_look_65 rfl (lv_at hl 1 rfl) ?_
        refine c_Vi C hw (ctX3_yesesOf l D h cI cL cF cM 74 kp74 u5.1 u5.2.1 u5.2.2 x1 hh) (cwV 1 C.2.2.2.2 (gd_V w_1415 w_1001 w_1002 w_121 w_1003) rfl rfl rfl cdX3_yesesOf ⟨Nat.le_of_ble_eq_true rfl, Nat.le_of_ble_eq_true rfl⟩) rfl (kd_lt kp74 (by decide)) (ce3 kp74) rfl hl.1 (Nat.le_of_ble_eq_true rfl) dX10_look_66 ⟨Nat.zero_le _, Nat.zero_le _⟩ (fun r66 u66 H locs hh hw => ?_) rfl
        exact hR _ _ _ (u66.1, u66.2.1, u66.2.2) _ _ dX10_look_69 rfl hh hw
      · replace hh := hh.2.2.1 (sw_eq hv (by decide))
        refine lv_tableIn (off := 48) (tgt := 70) C.1 C.2.1 dX10_look_22 hlo hhi (by rw [hv]; rfl) (by decide) ?_
        refine lv_aload_n C.1 C.2.1 dX10_look_70 rfl (lv_at hl 0 rfl) ?_
        refine c_get C hw (inC inW10) (kd_lt kp0 (by decide)) (ce10 kp0) rfl 5 (by decide) (wc w_575) (v := .ref (h 46)) rfl dX10_look_71 ?_
        refine lv_iload_n C.1 C.2.1 dX10_look_74 rfl (lv_at hl 1 rfl) ?_
        refine c_Vi C hw (ctX1_wallsOf l D h cI cL cF cM 46 kp46 u5.1 u5.2.1 u5.2.2 x1 hh) (cwV 1 C.2.2.2.2 (gd_V w_1416 w_1417 w_1418 w_120 w_1419) rfl rfl rfl cdX1_wallsOf ⟨Nat.le_of_ble_eq_true rfl, Nat.le_of_ble_eq_true rfl⟩) rfl (kd_lt kp46 (by decide)) (ce1 kp46) rfl hl.1 (Nat.le_of_ble_eq_true rfl) dX10_look_75 ⟨Nat.zero_le _, Nat.zero_le _⟩ (fun r75 u75 H locs hh hw => ?_) rfl
        exact hR _ _ _ (u75.1, u75.2.1, u75.2.2) _ _ dX10_look_78 rfl hh hw
      · replace hh := hh.2.2.2.1 (sw_eq hv (by decide))
        refine lv_tableIn (off := 57) (tgt := 79) C.1 C.2.1 dX10_look_22 hlo hhi (by rw [hv]; rfl) (by decide) ?_
        refine lv_aload_n C.1 C.2.1 dX10_look_79 rfl (lv_at hl 0 rfl) ?_
        refine c_get C hw (inC inW10) (kd_lt kp0 (by decide)) (ce10 kp0) rfl 5 (by decide) (wc w_575) (v := .ref (h 46)) rfl dX10_look_80 ?_
        refine lv_iload_n C.1 C.2.1 dX10_look_83 rfl (lv_at hl 1 rfl) ?_
        refine c_Vi C hw (ctX1_far l D h cI cL cF cM 46 kp46 u5.1 u5.2.1 u5.2.2 x1 hh) (cwV 1 C.2.2.2.2 (gd_V w_1420 w_1421 w_1422 w_120 w_1423) rfl rfl rfl cdX1_far ⟨Nat.le_of_ble_eq_true rfl, Nat.le_of_ble_eq_true rfl⟩) rfl (kd_lt kp46 (by decide)) (ce1 kp46) rfl hl.1 (Nat.le_of_ble_eq_true rfl) dX10_look_84 ⟨Nat.zero_le _, Nat.zero_le _⟩ (fun r84 u84 H locs hh hw => ?_) rfl
        exact hR _ _ _ (u84.1, u84.2.1, u84.2.2) _ _ dX10_look_87 rfl hh hw
    · replace hh := hh.2.2.2.2 ho
      refine lv_tableOut (tgt := 88) C.1 C.2.1 dX10_look_22 ho (by decide) ?_
      exact hXN _ (u5.1, u5.2.1, u5.2.2) _ _ hl.1 hh hw
  · replace hh := hh.2 c8
    exact hXI _ (u5.1, u5.2.1, u5.2.2) _ _ hl.1 hh hw
end
theorem ctX10_lookX (l : Launch) (hl0 : l.stackTraces = false) (D : va_G) (h : Nat → Nat) (cI cL cF cM : ClassId) (F : Nat → Nat → Int32) (L : Nat → Nat → Int64) (r : Nat → Nat → Nat) (x1 : Int32) (x2 : Int32) {K : Int32 → cS → Prop} {KX : String → cS → Prop} (hh : wpX10_lookX F L r x1 x2 K KX) : Cx l yX10_look wsX10_look rmX10_lookX [.ref (h 0), .int x1, .int x2] D (cT cI cL cF cM) (cWu h cI cL cF cM) (F, L, r) K KX := by
  intro sz
  refine vx_ofW (cc := cX10_look) (maxL := 3) (ret := some .int) (by decide) rfl ?_
  intro p e s m args below meth c s₁ B hml htab hv
  obtain ⟨rfl, ⟨hsz, hP, hK, hD0, hE⟩, hT, hZ⟩ := hv
  have hts := atoms_spec (ws := wsX10_look) B.pre
  have hown : s.vm.findClass RX10 = some m.cls := findClass_of_methodNamed B.named
  subst hsz
  have hD := hD0.self (sz := s.heap.size)
  have hle := lv_entry [Value.ref (h 0), Value.int x1, Value.int x2] (n := 3) (Nat.le_of_ble_eq_true rfl)
  have hws : ∀ w ∈ WL, w.before [Value.ref (h 0), Value.int x1, Value.int x2].toArray s = true := fun w hw => hts w (List.mem_cons_of_mem _ hw)
  have hbx : ∀ w ∈ Bx, w.before [Value.ref (h 0), Value.int x1, Value.int x2].toArray s = true := fun w hw => (hT.1 w hw).use (Bx_t w hw)
  have fin : ∀ (E : String) (u : cS) (H : Heap) (locs : List Loc), KX E u → Wd D (va_A (cWu h cI cL cF cM (F, L, r)) s.heap.size) s (cT cI cL cF cM) (cWu h cI cL cF cM u) H locs → ∀ t : State, s.vm.Alike t.vm → H.size ≤ t.heap.size → (∀ q : Nat, q < H.size → t.heap[q]? = H[q]?) → vx_X (fun _ : cS => True) (fun E u t => KX E u ∧ Cpost D (cT cI cL cF cM) (cWu h cI cL cF cM) (cWu h cI cL cF cM (F, L, r)) s.heap.size u t) (va_A (cWu h cI cL cF cM (F, L, r)) s.heap.size) E s t := by
    intro E u H locs hk hw t hvm hz hq
    obtain ⟨wK, wP, wD, wS, -⟩ := hw
    exact ⟨u, trivial, ⟨hk, wP.kept (fun k q hk => hq q.1 (wP k q hk).lt), va_K.moved hvm wK, wD⟩, Nat.le_trans wS.1 hz, fun q h1 h2 => by rw [hq q (Nat.lt_of_lt_of_le h1 wS.1)]; exact wS.2.1 q h1 h2⟩
  rw [lg_entry_eq]
  refine tX10_lookX (A := va_A (cWu h cI cL cF cM (F, L, r)) s.heap.size) (K := K) (KX := KX) ⟨B.exec, B.bytes, hml, hown, hts⟩ (fun pc ls r' u H locs hd hn hk hw => ?_) (fun ls u H locs hsz hk hw => ?_) (fun ls u H locs hsz hk hw => ?_) hh ⟨hK, hP, hD, va_S.rf, fun q h => Or.inr h, hE⟩ hle
  · obtain ⟨wK, wP, wD, wS, -⟩ := hw
    exact vx_ret (W.widen (Nat.zero_le 1) (Nat.zero_le 6) (W.zret B.exec B.bytes B.returns hn (fun t ht hW => ⟨⟨r', u, rfl, hk, by rw [ht]; exact wP, va_K.moved hW.alike wK, wD⟩, wS.F ht⟩) wS.2.2 hd B.notSynchronized))
  · obtain ⟨qs, hq⟩ := hE.2.2.1
    exact vx_throwS (names := xch) (cls := XI) (text := "no such square") (A := va_A (cWu h cI cL cF cM (F, L, r)) s.heap.size) B.exec B.bytes hl0 hown (by decide) (by decide) (hws _ wxI1) (hws _ wxI2) hq (vx_hat (fun w hw => hws w (atI_g w hw)) atI_b hbx) atI_o hZ.1 hZ.2 hw.2.2.2.1 (hsz.trans hml.symm) dX10_look_11 dX10_look_14 dX10_look_15 dX10_look_17 dX10_look_20 (fun x hx => (htab x hx).elim) (by decide) (by decide) (by decide) (by decide) B.notSynchronized (fin XI u H locs hk hw) hw.2.2.2.1.2.2 (by decide) (by decide)
  · obtain ⟨qs, hq⟩ := hE.2.2.2.1
    exact v_throwX (names := xch) (cls := XN) (text := "no such what") (A := va_A (cWu h cI cL cF cM (F, L, r)) s.heap.size) B.exec B.bytes hl0 rxN_0 rxN_1 rxN_2 rxN_5 hown (by decide) (by decide) (hws _ wxN1) (hws _ wxN2) hq (vx_hat (fun w hw => hws w (atN_g w hw)) atN_b hbx) atN_o hZ.1 hZ.2 hw.2.2.2.1 (hsz.trans hml.symm) dX10_look_88 dX10_look_91 dX10_look_92 dX10_look_94 dX10_look_97 (fun x hx => (htab x hx).elim) (by decide) (by decide) (by decide) (by decide) B.notSynchronized (fin XN u H locs hk hw) hw.2.2.2.1.2.2 (by decide) (by decide)
