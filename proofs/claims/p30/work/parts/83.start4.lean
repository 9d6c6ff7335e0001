/-! THE CLAIM OUT OF ONE WALK OF THE LAW'S BODY. Your part is whole_start (and what it stands on); all else here is the same for every law, but numbers. -/
def R_law : String := "RelayMouseLaw"
def lw_P (b : Addr) (xs : List Int32) (args : Array Value) (s : State) : Prop := args = #[.ref b] ∧ s.IntsAt b xs ∧ xs.length ≤ 3072 ∧ (Jvm.Cond.and given_1 narrow_1).before args s = true
def lw_Q (_ : Array Value) (s : State) (o : Outcome) (t : State) : Prop := o = .returned (some (.int 1)) ∧ Framed s o t [] 601024 7293034
def lw_Z (below : List Frame) (a : Array Value) (s : State) : State → Prop := fun t => ∃ o, t.status = .running ∧ Ended t below o ∧ lw_Q a s o t
/-- the law's own end, with 1 on the stack, nothing written that was there before, its room as the claim has it -/
theorem lw_ret {p : Program} {l : Launch} {e : Env} {s : State} {m : MethodId} {below : List Frame} {meth : Method} {c : Code} {b : Nat} (hx : p.tables.exec = Jvm.exec) (hb : c.code = code) (hr : meth.sig.returnType = ret) (hlocks : meth.locks = false) {pc : Nat} {H : Heap} {ls : Array Slot} (hdg : decode code pc = .ok (.ireturn, 1)) : W p l e room_1 s m #[Value.ref b] below meth c H [] 601024 7293034 (lw_Z below #[Value.ref b] s) (F0 m pc ls [.int 1]) := by
  intro T hT X
  obtain ⟨fs, hret, hrun, hended, hW, hframe⟩ := X.leave (v := some (.int 1)) (hlocks := hlocks) (fun h => by rw [hr] at h; cases h)
  have hmeth' : T.vm.method? m = some meth := X.method'
  refine ⟨T.setFrames fs, ?_, .returned (some (.int 1)), hrun, hended, rfl, ⟨_, rfl⟩, hW, hframe⟩
  jvm_step X.here [X.here.top, hx, hb, hdg, hmeth', hr, ret, narrow_b1]
  (try refine ⟨rfl, ?_⟩); (try refine ⟨rfl, ?_⟩)
  first | (intro acts; rw [hret _ acts rfl rfl rfl]) | rw [hret _ _ rfl rfl rfl]
  exact Steps.refl _
/-- what holds at the law's entry: the machine, the code, the tables' words (any of lw_tbl by 'hts w (by decide +kernel)'), the script of L ints xs at the cell b, what the Statement gives of the start (any of its parts by flat_of_before) -/
def lw_At (p : Program) (s : State) (m : MethodId) (meth : Method) (c : Code) (b L : Nat) (xs : Nat → Int32) : Prop :=
  p.tables.exec = Jvm.exec ∧ c.code = code ∧ meth.sig.returnType = ret ∧ c.maxLocals = 7 ∧ s.vm.findClass R_law = some m.cls ∧ (∀ w ∈ lw_tbl, w.before #[Value.ref b] s = true) ∧ va_X b L xs s s.heap ∧ b < s.heap.size ∧ meth.locks = false ∧ (Jvm.Cond.and given_1 narrow_1).before #[Value.ref b] s = true
set_option maxHeartbeats 4000000 in
set_option maxRecDepth 100000 in
theorem whole_start {p : Program} {e : Env} {s : State} {m : MethodId} {below : List Frame} {meth : Method} {c : Code} (l : Launch) (hl0 : l.stackTraces = false) {b L : Nat} {xs : Nat → Int32} (hL : L ≤ 3072) (C0 : lw_At p s m meth c b L xs) : W p l e room_1 s m #[Value.ref b] below meth c s.heap [] 0 0 (lw_Z below #[Value.ref b] s) (entryFrame m ([Value.ref b] : List Value).toArray 7) := by
  obtain ⟨hx, hb, hr, hml, hown, hts, hX, hbl, hlocks, hgv⟩ := id C0
  have hbA : ¬ (fun q : Nat => s.heap.size ≤ q) b := Nat.not_le.mpr hbl
  obtain ⟨D0, cI, cZ, cL, cF, cM, hK0⟩ := ws_K hts
  obtain ⟨D, hK, hE⟩ := ws_E hts hgv hK0
  have hT := ws_T hts hgv
  have hZ := ws_Z hts hgv
  have hw : Wd D (fun q : Nat => s.heap.size ≤ q) s (T0 cI cZ cL cF cM) [] s.heap [] := ⟨hK, fun k q h => by simp at h, ⟨fun i j p q h => by simp at h, fun k q h => by simp at h⟩, va_S.rf, fun _ h => h, hE⟩
  have hl := lv_entry ([.ref b]) (n := 7) (Nat.le_of_ble_eq_true rfl)
  rw [lg_entry_eq]
  have C : CallFix p m c code 7 s #[Value.ref b] (Cond.initialized RX10 :: WL) RL := ⟨hx, hb, hml, hown, fun w hw => (List.mem_cons.mp hw).elim (fun e => by rw [e]; exact lw_at hts 114 (by decide +kernel)) (fun h => hts w (WL_tbl w h))⟩
  refine i_new (ci := 10) C hw (inC inW10) tyX10 tyX10_ok (wc wz_0) (wc wz_1) (wc wl_g) rfl (fs := [.null, .null, .null, .null, .null, .null, .null, .null, .null, .null, .null, .int 0, .null, .null, .null]) (fun j hj => by rcases (show j = 0 ∨ j = 1 ∨ j = 2 ∨ j = 3 ∨ j = 4 ∨ j = 5 ∨ j = 6 ∨ j = 7 ∨ j = 8 ∨ j = 9 ∨ j = 10 ∨ j = 11 ∨ j = 12 ∨ j = 13 ∨ j = 14 by omega) with rfl | rfl | rfl | rfl | rfl | rfl | rfl | rfl | rfl | rfl | rfl | rfl | rfl | rfl | rfl <;> rfl) (c1 := 1) (s1 := 15) rfl rfl (Nat.le_of_ble_eq_true rfl) (Nat.le_of_ble_eq_true rfl) dL_law_0 (fun a H0 hw0 => ?_)
  refine lv_dup C.1 C.2.1 dL_law_3 rfl ?_
  refine i_init C (wc := [(a, .inr (10, [.null, .null, .null, .null, .null, .null, .null, .null, .null, .null, .null, .int 0, .null, .null, .null]))]) (wr := []) hw0 (iX10 l D cI cZ cL cF cM a) (cwI 0 C.2.2.2.2 (gd_m wz_4) rfl rfl rfl (C.2.2.2.2 _ (wc wl_g)) (C.2.2.2.2 _ (wc wz_2)) (C.2.2.2.2 _ (wc wz_3)) rfl (by decide +kernel) ⟨Nat.le_of_ble_eq_true rfl, Nat.le_of_ble_eq_true rfl⟩) rfl hl.1 (Nat.le_of_ble_eq_true rfl) dL_law_4 (c1 := 104) (s1 := 5023) rfl rfl ⟨Nat.le_of_ble_eq_true rfl, Nat.le_of_ble_eq_true rfl⟩ (fun h H1 locs1 hh0 hw1 => ?_) rfl
  subst hh0
  refine lv_astore_n (lv' := [(1, .ref (h 0)), (0, .ref b)]) C.1 C.2.1 dL_law_7 rfl hl (by decide) rfl (fun ls hl => ?_)
  refine i_new (ci := 11) C hw1 (inC inW11) tyX11 tyX11_ok (wc wz_5) (wc wz_6) (wc w_125) rfl (fs := [.null, .int 0, .int 0, .null, .int 0, .int 0, .int 0, .int 0, .int 0, .int 0, .int 0, .int 0, .int 0, .null, .null, .null, .null, .null, .null, .null, .int 0, .int 0, .int 0, .int 0, .null, .null, .null, .null, .null, .null, .null, .null, .null, .int 0, .int 0, .int 0, .int 0, .int 0, .int 0, .int 0, .int 0, .int 0, .int 0, .int 0, .int 0, .int 0, .null, .null, .null, .int 0, .int 0, .int 0, .int 0, .int 0, .null, .null, .null, .null, .null, .null, .null, .null, .null, .null, .null, .null, .int 0, .int 0, .int 0, .int 0, .null, .null, .int 0, .int 0]) (fun j hj => by rcases (show j = 0 ∨ j = 1 ∨ j = 2 ∨ j = 3 ∨ j = 4 ∨ j = 5 ∨ j = 6 ∨ j = 7 ∨ j = 8 ∨ j = 9 ∨ j = 10 ∨ j = 11 ∨ j = 12 ∨ j = 13 ∨ j = 14 ∨ j = 15 ∨ j = 16 ∨ j = 17 ∨ j = 18 ∨ j = 19 ∨ j = 20 ∨ j = 21 ∨ j = 22 ∨ j = 23 ∨ j = 24 ∨ j = 25 ∨ j = 26 ∨ j = 27 ∨ j = 28 ∨ j = 29 ∨ j = 30 ∨ j = 31 ∨ j = 32 ∨ j = 33 ∨ j = 34 ∨ j = 35 ∨ j = 36 ∨ j = 37 ∨ j = 38 ∨ j = 39 ∨ j = 40 ∨ j = 41 ∨ j = 42 ∨ j = 43 ∨ j = 44 ∨ j = 45 ∨ j = 46 ∨ j = 47 ∨ j = 48 ∨ j = 49 ∨ j = 50 ∨ j = 51 ∨ j = 52 ∨ j = 53 ∨ j = 54 ∨ j = 55 ∨ j = 56 ∨ j = 57 ∨ j = 58 ∨ j = 59 ∨ j = 60 ∨ j = 61 ∨ j = 62 ∨ j = 63 ∨ j = 64 ∨ j = 65 ∨ j = 66 ∨ j = 67 ∨ j = 68 ∨ j = 69 ∨ j = 70 ∨ j = 71 ∨ j = 72 ∨ j = 73 by omega) with rfl | rfl | rfl | rfl | rfl | rfl | rfl | rfl | rfl | rfl | rfl | rfl | rfl | rfl | rfl | rfl | rfl | rfl | rfl | rfl | rfl | rfl | rfl | rfl | rfl | rfl | rfl | rfl | rfl | rfl | rfl | rfl | rfl | rfl | rfl | rfl | rfl | rfl | rfl | rfl | rfl | rfl | rfl | rfl | rfl | rfl | rfl | rfl | rfl | rfl | rfl | rfl | rfl | rfl | rfl | rfl | rfl | rfl | rfl | rfl | rfl | rfl | rfl | rfl | rfl | rfl | rfl | rfl | rfl | rfl | rfl | rfl | rfl | rfl <;> rfl) (c1 := 105) (s1 := 5097) rfl rfl (Nat.le_of_ble_eq_true rfl) (Nat.le_of_ble_eq_true rfl) dL_law_8 (fun o H2 hw2 => ?_)
  refine lv_dup C.1 C.2.1 dL_law_11 rfl ?_
  refine i_init C (wc := [(o, .inr (11, [.null, .int 0, .int 0, .null, .int 0, .int 0, .int 0, .int 0, .int 0, .int 0, .int 0, .int 0, .int 0, .null, .null, .null, .null, .null, .null, .null, .int 0, .int 0, .int 0, .int 0, .null, .null, .null, .null, .null, .null, .null, .null, .null, .int 0, .int 0, .int 0, .int 0, .int 0, .int 0, .int 0, .int 0, .int 0, .int 0, .int 0, .int 0, .int 0, .null, .null, .null, .int 0, .int 0, .int 0, .int 0, .int 0, .null, .null, .null, .null, .null, .null, .null, .null, .null, .null, .null, .null, .int 0, .int 0, .int 0, .int 0, .null, .null, .int 0, .int 0]))]) (wr := cW h cI cL cF cM cF0 cL0 cr0 ++ []) hw2 (iX11 l D cI cZ cL cF cM o (K := fun u => MX 5 5 u) m_fresh) (cwI 0 C.2.2.2.2 (gd_m wz_9) rfl rfl rfl (C.2.2.2.2 _ (wc w_125)) (C.2.2.2.2 _ (wc wz_7)) (C.2.2.2.2 _ (wc wz_8)) rfl (by decide +kernel) ⟨Nat.le_of_ble_eq_true rfl, Nat.le_of_ble_eq_true rfl⟩) rfl hl.1 (Nat.le_of_ble_eq_true rfl) dL_law_12 (c1 := 140) (s1 := 12057) rfl rfl ⟨Nat.le_of_ble_eq_true rfl, Nat.le_of_ble_eq_true rfl⟩ (fun u H3 locs3 hu hw3 => ?_) rfl
  obtain ⟨hm, mf1, mg1⟩ := u
  have hu : MX 5 5 (mf1, mg1) := hu
  refine lv_astore_n (lv' := [(2, .ref o), (1, .ref (h 0)), (0, .ref b)]) C.1 C.2.1 dL_law_15 rfl hl (by decide) rfl (fun ls hl => ?_)
  refine lv_iconst (v := (1 : Int32)) C.1 C.2.1 dL_law_16 (by decide) ?_
  have hwA : Wd D (fun q : Nat => s.heap.size ≤ q) s (T0 cI cZ cL cF cM) (cW h cI cL cF cM cF0 cL0 cr0 ++ mW o hm cI cZ mf1 mg1) H3 locs3 := hw3.permP (by rw [List.append_nil]; exact List.perm_append_comm)
  have hwB : Wd D (fun q : Nat => s.heap.size ≤ q) s (T0 cI cZ cL cF cM) ((h 0, .inr (10, fl10 h 0 (cF0 0) (cL0 0) (cr0 0))) :: ((cW h cI cL cF cM cF0 cL0 cr0).tail ++ mW o hm cI cZ mf1 mg1)) H3 locs3 := hwA
  refine i_newa C hwB (ty := .long) (wc w_385) rfl (fun _ _ h => h) 2 rfl (N' := 1) (a0 := (1, .inr (.inl (fun _ => 0)))) (fun cA => by first | rfl | (rw [vp_cell_l]; rfl)) (by decide) (by decide) (by decide) (c1 := 141) (s1 := 12058) rfl rfl (Nat.le_of_ble_eq_true rfl) (Nat.le_of_ble_eq_true rfl) dL_law_17 (fun q H4 hw4 => ?_)
  have hwC : Wd D (fun q : Nat => s.heap.size ≤ q) s (T0 cI cZ cL cF cM) (lW h o hm q cI cZ cL cF cM cF0 cL0 cr0 mf1 mg1 (fun _ => 0)) H4 locs3 := hw4.permP (by
    refine List.Perm.cons _ ?_
    refine (List.perm_append_singleton _ _).symm.trans ?_
    rw [List.append_assoc]
    exact List.Perm.refl _)
  refine lv_astore_n (lv' := [(3, .ref q), (2, .ref o), (1, .ref (h 0)), (0, .ref b)]) C.1 C.2.1 dL_law_19 rfl hl (by decide) rfl (fun ls hl => ?_)
  refine lv_iconst (v := (0 : Int32)) C.1 C.2.1 dL_law_20 (by decide) ?_
  refine lv_istore (lv' := [(4, .int 0), (3, .ref q), (2, .ref o), (1, .ref (h 0)), (0, .ref b)]) C.1 C.2.1 dL_law_21 hl (by decide) rfl (fun ls hl => ?_)
  obtain ⟨n, hn, hwp⟩ := lawG (N := L) (xs := xs) (ou := fun _ => 0) hL hu
  refine tL_lawX_b23 (K := fun r _ => r = 1) C (fun ca sa h1 h2 pc ls r' u H locs hd hnr hk hw => ?_) hX hbl hbA hT hZ hl0 n 141 12058 (by omega) (by omega) cF0 cL0 cr0 mf1 mg1 (fun _ => 0) 0 H4 locs3 ls hwp hwC (lv_sub hl [4, 3, 2, 1, 0] rfl)
  have hk : r' = 1 := hk
  subst hk
  exact va_forget (fun z hz => hw.2.2.2.1.2.2 z hz) (W.widen h1 h2 (lw_ret hx hb hr hlocks hd))
