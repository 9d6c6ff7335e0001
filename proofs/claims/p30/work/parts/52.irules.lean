/-! Rules of the constructors: worlds that grow, the newest cells near the front. -/
theorem va_D_iff {A : Nat → Prop} {ws : va_W} : va_D A ws ↔ List.Pairwise (fun a b : Nat × va_E => a.1 ≠ b.1) ws ∧ ∀ q ∈ ws, A q.1 := by
  constructor
  · intro h
    refine ⟨List.pairwise_iff_getElem.mpr fun i j hi hj hij e => ?_, fun q hq => ?_⟩
    · have := h.1 i j _ _ (List.getElem?_eq_getElem hi) (List.getElem?_eq_getElem hj) e
      omega
    · obtain ⟨i, hi⟩ := List.getElem?_of_mem hq
      exact h.2 i q hi
  · intro h
    refine ⟨fun i j p q hp hq e => ?_, fun k q hk => h.2 q (List.mem_of_getElem? hk)⟩
    obtain ⟨hi, rfl⟩ := List.getElem?_eq_some_iff.mp hp
    obtain ⟨hj, rfl⟩ := List.getElem?_eq_some_iff.mp hq
    rcases Nat.lt_trichotomy i j with hl | hl | hl
    · exact absurd e (List.pairwise_iff_getElem.mp h.1 i j hi hj hl)
    · exact hl
    · exact absurd e.symm (List.pairwise_iff_getElem.mp h.1 j i hj hi hl)
theorem re_i {cA : ClassId} {n : Nat} {f g : Nat → Int32} (h : ∀ j, j < n → f j = g j) : vp_cell cA (n, .inl f) = vp_cell cA (n, .inl g) := by
  rw [vp_cell_i, vp_cell_i]
  unfold arrV
  congr 2
  funext j
  exact congrArg Value.int (h j.1 j.2)
theorem re_l {cA : ClassId} {n : Nat} {f g : Nat → Int64} (h : ∀ j, j < n → f j = g j) : vp_cell cA (n, .inr (.inl f)) = vp_cell cA (n, .inr (.inl g)) := by
  rw [vp_cell_l, vp_cell_l]
  unfold arrV
  congr 2
  funext j
  exact congrArg Value.long (h j.1 j.2)
theorem re_q {cA : ClassId} {n : Nat} {f g : Nat → Option Nat} (h : ∀ j, j < n → f j = g j) : vp_cell cA (n, .inr (.inr (.inr (.inr f)))) = vp_cell cA (n, .inr (.inr (.inr (.inr g)))) := by
  rw [vp_cell_q, vp_cell_q]
  unfold arrV
  congr 2
  funext j
  exact congrArg va_rf (h j.1 j.2)
theorem i_re {D : va_G} {A : Nat → Prop} {s : State} {tys : List (ClassId × FieldType)} {ws ws' : va_W} {H : Heap} {locs : List Loc} {a : Nat} {x y : ClassId × vp_A} (hw : Wd D A s tys ws H locs) (k : Nat) (hk : ws[k]? = some (a, .inl x)) (he : vp_cell x.1 x.2 = vp_cell y.1 y.2) (hset : ws.set k (a, .inl y) = ws') : Wd D A s tys ws' H locs := by
  subst hset
  obtain ⟨hK, hP, hD, hS, hA⟩ := hw
  have hlt : k < ws.length := (List.getElem?_eq_some_iff.mp hk).1
  have key : ∀ (i : Nat) (q : Nat × va_E), (ws.set k (a, .inl y))[i]? = some q → ∃ q', ws[i]? = some q' ∧ q'.1 = q.1 ∧ (va_at D vwCl q' H → va_at D vwCl q H) := by
    intro i q hq
    by_cases hi : i = k
    · subst hi
      rw [List.getElem?_set_self hlt] at hq
      cases hq
      exact ⟨_, hk, rfl, fun h => by
        show H[a]? = some (vp_cell y.1 y.2)
        rw [← he]
        exact h⟩
    · rw [List.getElem?_set_ne (fun e => hi e.symm)] at hq
      exact ⟨q, hq, rfl, fun h => h⟩
  refine ⟨hK, fun i q hq => ?_, ⟨fun i j p q hp hq e => ?_, fun i q hq => ?_⟩, hS, hA⟩
  · obtain ⟨q', h1, h2, h3⟩ := key i q hq
    exact h3 (hP i q' h1)
  · obtain ⟨p', h1, h2, -⟩ := key i p hp
    obtain ⟨q', h3, h4, -⟩ := key j q hq
    exact hD.1 i j p' q' h1 h3 (h2.trans (e.trans h4.symm))
  · obtain ⟨q', h1, h2, -⟩ := key i q hq
    rw [← h2]
    exact hD.2 i q' h1
section IR
variable {p : Program} {l : Launch} {e : Env} {R : Room} {s : State} {m : MethodId} {args : Array Value} {below : List Frame} {meth : Method} {c : Code} {H : Heap} {locs : List Loc} {cells slots : Nat} {Q : State → Prop}
variable {cc : ByteArray} {pc : Nat} {ls : Array Slot} {rest : List Value} {D : va_G} {A : Nat → Prop} {a : Nat} {tys : List (ClassId × FieldType)} {ws ws' : va_W} {nL : Nat} {Ts : List Cond} {own : String} {c1 s1 : Nat} {t : Nat × va_E}
theorem Wd.permP (hw : Wd D A s tys ws H locs) (hp : ws.Perm ws') : Wd D A s tys ws' H locs := by
  obtain ⟨hK, hP, hD, hS, hA⟩ := hw
  have hd := va_D_iff.mp hD
  refine ⟨hK, fun k q hk => ?_, va_D_iff.mpr ⟨(List.Perm.pairwise_iff (fun h => Ne.symm h) hp).mp hd.1, fun q hq => hd.2 q (hp.mem_iff.mpr hq)⟩, hS, hA⟩
  obtain ⟨i, hi⟩ := List.getElem?_of_mem (hp.mem_iff.mpr (List.mem_of_getElem? hk))
  exact hP i q hi
theorem i_new (C : CallFix p m c cc nL s args Ts own) (hw : Wd D A s tys ws H locs) {Cn : String} {T : u_T} {N ci index : Nat} (hin : ∀ w ∈ u_ws Cn T N, w ∈ Ts) (ty : Nat → FieldType) (hty : ∀ k, k < N → parseFieldDescriptor (T k).2.2.1 = some (ty k)) (hcl : Cond.classLink own index Cn ∈ Ts) (hinst : Cond.instantiable Cn N ∈ Ts) (hini : Cond.initialized Cn ∈ Ts) (hc : vwCl[ci]? = some (Cn, T, N)) {fs : List Value} (hfs : ∀ j, j < N → defaultValue (ty j) = vp_V fs j) (h1 : cells + 1 = c1) (h2 : slots + N = s1) (hcells : c1 ≤ R.cells) (hslots : s1 ≤ R.slots) (hdg : decode cc pc = .ok (.new index, 3))
    (kk : ∀ (q : Nat) (H1 : Heap), Wd D A s tys ((q, .inr (ci, fs)) :: ws) H1 locs → W p l e R s m args below meth c H1 locs c1 s1 Q (F0 m (pc + 3) ls (.ref q :: rest))) : W p l e R s m args below meth c H locs cells slots Q (F0 m pc ls rest) := by
  subst h1 h2
  refine va_new C.1 C.2.1 C.2.2.2.2 hin ty hty C.2.2.2.1 (C.2.2.2.2 _ hcl) (C.2.2.2.2 _ hinst) (C.2.2.2.2 _ hini) hw.1 hw.2.1 hw.2.2.1 hw.2.2.2.1 hw.2.2.2.2.1 hc hfs hcells hslots hdg (fun q H1 hP hD hS => ?_)
  exact kk q H1 (Wd.permP (ws := ws ++ [(q, .inr (ci, fs))]) ⟨hw.1, hP, hD, hS, hw.2.2.2.2⟩ (List.perm_append_singleton _ _))
theorem i_newa (C : CallFix p m c cc nL s args Ts own) (hw : Wd D A s tys (t :: ws) H locs) {atype : ArrayType} {ty : FieldType} (harr : Cond.arrayClass ty ∈ Ts) (hty : newarray.typeOf atype = ty) (hpr : ∀ (x : State) (cA : ClassId), va_RA x cA ty → x.vm.findClass ("[" ++ ty.toString) = some cA) (t0 : Nat) {cA0 : ClassId} (ht : tys[t0]? = some (cA0, ty)) {n : Int32} {N' : Nat} {a0 : vp_A} (ha : ∀ cA : ClassId, vp_cell cA a0 = arrV cA N' (fun _ => defaultValue ty)) (hn : ¬ n < 0) (hN : n.toNatClampNeg = N') (hbytes : N' * componentBytes ty ≤ 536870912) (h1 : cells + 1 = c1) (h2 : slots + N' = s1) (hcells : c1 ≤ R.cells) (hslots : s1 ≤ R.slots) (hdg : decode cc pc = .ok (.newarray atype, 2))
    (kk : ∀ (q : Nat) (H1 : Heap), Wd D A s tys (t :: (q, .inl (cA0, a0)) :: ws) H1 locs → W p l e R s m args below meth c H1 locs c1 s1 Q (F0 m (pc + 2) ls (.ref q :: rest))) : W p l e R s m args below meth c H locs cells slots Q (F0 m pc ls (.int n :: rest)) := by
  subst h1 h2
  refine va_newa C.1 C.2.1 (by rw [hty]; exact C.2.2.2.2 _ harr) hty hw.1 hw.2.1 hw.2.2.1 hw.2.2.2.1 hw.2.2.2.2.1 ha hn hN hbytes hcells hslots hdg (fun q cA H1 hK hP hD hS => ?_)
  have e1 := hpr s cA (hK.2 tys.length (cA, ty) (by simp)).2
  have e2 := hpr s cA0 (hw.1.2 t0 (cA0, ty) ht).2
  have e3 : cA = cA0 := Option.some.inj (e1.symm.trans e2)
  subst e3
  exact kk q H1 (Wd.permP (ws := (t :: ws) ++ [(q, .inl (cA, a0))]) ⟨hw.1, hP, hD, hS, hw.2.2.2.2⟩ (List.Perm.cons _ (List.perm_append_singleton _ _)))
theorem i_newq (C : CallFix p m c cc nL s args Ts own) (hw : Wd D A s tys (t :: ws) H locs) {Cn : String} {index : Nat} (hcl : Cond.classLink own index Cn ∈ Ts) (hover : va_AO Cn s) (t0 : Nat) {cA0 : ClassId} (ht : tys[t0]? = some (cA0, .object Cn)) {n : Int32} {N' : Nat} (hn : ¬ n < 0) (hN : n.toNatClampNeg = N') (hbytes : N' * 4 ≤ 536870912) (h1 : cells + 1 = c1) (h2 : slots + N' = s1) (hcells : c1 ≤ R.cells) (hslots : s1 ≤ R.slots) (hdg : decode cc pc = .ok (.anewarray index, 3))
    (kk : ∀ (q : Nat) (H1 : Heap), Wd D A s tys (t :: (q, .inl (cA0, N', .inr (.inr (.inr (.inr (fun _ => none)))))) :: ws) H1 locs → W p l e R s m args below meth c H1 locs c1 s1 Q (F0 m (pc + 3) ls (.ref q :: rest))) : W p l e R s m args below meth c H locs cells slots Q (F0 m pc ls (.int n :: rest)) := by
  subst h1 h2
  refine va_newq C.1 C.2.1 C.2.2.2.1 (C.2.2.2.2 _ hcl) hover hw.1 hw.2.1 hw.2.2.1 hw.2.2.2.1 hw.2.2.2.2.1 hn hN hbytes hcells hslots hdg (fun q cA H1 hK hP hD hS => ?_)
  obtain ⟨-, -, -, -, -, e1⟩ := (hK.2 tys.length (cA, .object Cn) (by simp)).2
  obtain ⟨-, -, -, -, -, e2⟩ := (hw.1.2 t0 (cA0, .object Cn) ht).2
  have e3 : cA = cA0 := Option.some.inj (e1.symm.trans e2)
  subst e3
  exact kk q H1 (Wd.permP (ws := (t :: ws) ++ [(q, .inl (cA, N', .inr (.inr (.inr (.inr (fun _ => none))))))]) ⟨hw.1, hP, hD, hS, hw.2.2.2.2⟩ (List.Perm.cons _ (List.perm_append_singleton _ _)))
theorem i_putF (C : CallFix p m c cc nL s args Ts own) (hin2 : meth.name = "<init>") (hw : Wd D A s tys ws H locs) {Cn : String} {T : u_T} {N ci index : Nat} (hin : ∀ w ∈ u_ws Cn T N, w ∈ Ts) (ty0 : Nat → FieldType) (hty : ∀ k, k < N → parseFieldDescriptor (T k).2.2.1 = some (ty0 k)) (hnm : ∀ a, a < N → ∀ b, b < N → a ≠ b → (T a).2.1 ≠ (T b).2.1) (q0 : Nat) {fs : List Value} (he : ws[q0]? = some (a, .inr (ci, fs))) (hc : vwCl[ci]? = some (Cn, T, N)) (k : Nat) (hk : k < N) (hlink : Cond.fieldLink own index (T k).1 (T k).2.1 (T k).2.2.1 ∈ Ts) (hfin : (T k).2.2.2 = true) (hdecl : (T k).1 = own) {ty : FieldType} {v : Value} (hd : parseFieldDescriptor (T k).2.2.1 = some ty) (hn : narrow ty v = v) (hfit : fits ty v = true) (hl : k < fs.length) (hset : ws.set q0 (a, .inr (ci, fs.set k v)) = ws') (hdg : decode cc pc = .ok (.putfield index, 3))
    (kk : ∀ (H1 : Heap) (locs1 : List Loc), Wd D A s tys ws' H1 locs1 → W p l e R s m args below meth c H1 locs1 cells slots Q (F0 m (pc + 3) ls rest)) : W p l e R s m args below meth c H locs cells slots Q (F0 m pc ls (v :: .ref a :: rest)) := by
  obtain ⟨hK, hP, hD, hS, hA⟩ := hw
  refine va_putF C.1 C.2.1 C.2.2.2.2 hin ty0 hty hnm C.2.2.2.1 hK hP hD hS q0 he hc k hk (C.2.2.2.2 _ hlink) (fun _ h => h) hfin hin2 hdecl hd hn hfit hl hdg (fun H1 locs1 h1 h2 h3 => ?_)
  rw [hset] at h1 h2
  exact kk H1 locs1 ⟨hK, h1, h2, h3, hA⟩
theorem i_aas (C : CallFix p m c cc nL s args Ts own) (hw : Wd D A s tys ws H locs) (q0 t0 qk ci : Nat) {cA : ClassId} {r : vw_C} {n v : Nat} {vs : List Value} {f : Nat → Option Nat} (ha : ws[q0]? = some (a, .inl (cA, n, .inr (.inr (.inr (.inr f)))))) (ht : tys[t0]? = some (cA, .object r.1)) (hv : ws[qk]? = some (v, .inr (ci, vs))) (hc : vwCl[ci]? = some r) {i : Int32} (hin : vp_in i n) (hset : ws.set q0 (a, .inl (cA, n, .inr (.inr (.inr (.inr (va_up f i.toNatClampNeg (some v))))))) = ws') (hdg : decode cc pc = .ok (.aastore, 1))
    (kk : ∀ (H1 : Heap) (locs1 : List Loc), Wd D A s tys ws' H1 locs1 → W p l e R s m args below meth c H1 locs1 cells slots Q (F0 m (pc + 1) ls rest)) : W p l e R s m args below meth c H locs cells slots Q (F0 m pc ls (.ref v :: .int i :: .ref a :: rest)) := by
  obtain ⟨hK, hP, hD, hS, hA⟩ := hw
  refine va_astq C.1 C.2.1 hK hP hD hS q0 t0 qk ci ha ht hv hc hin hdg (fun H1 locs1 h1 h2 h3 => ?_)
  rw [hset] at h1 h2
  exact kk H1 locs1 ⟨hK, h1, h2, h3, hA⟩
theorem i_wst (C : CallFix p m c cc nL s args Ts own) {q n : Nat} {cA : ClassId} {f f' : Nat → Int32} (hw : Wd D A s tys (t :: (q, .inl (cA, n, .inl f)) :: ws) H locs) (t0 : Nat) (ht : tys[t0]? = some (cA, .int)) {i x : Int32} (hin : vp_in i n) (hf : upd f i.toNatClampNeg x = f') (hdg : decode cc pc = .ok (.iastore, 1))
    (kk : ∀ (H1 : Heap) (locs1 : List Loc), Wd D A s tys (t :: (q, .inl (cA, n, .inl f')) :: ws) H1 locs1 → W p l e R s m args below meth c H1 locs1 cells slots Q (F0 m (pc + 1) ls rest)) : W p l e R s m args below meth c H locs cells slots Q (F0 m pc ls (.int x :: .int i :: .ref q :: rest)) := by
  subst hf
  exact wd_ias C hw 1 t0 rfl ht hin rfl hdg kk
/-- a method that makes cells -/
def Cn (mc ms : Nat) (l : Launch) (y : MethodName) (wsY : List Cond) (rm : Room) (av : List Value) (D : va_G) (tys : List (ClassId × FieldType)) {S : Type} (w0 : va_W) (w : S → va_W) (K : S → Prop) : Prop :=
  ∀ sz : Nat, Met l y wsY rm (Cpre av D tys w0 sz) (va_Qv K (Cpost D tys w w0 sz) (va_A w0 sz)) mc ms (va_A w0 sz)
theorem Cn_of {y : MethodName} {wsY ws2 : List Cond} {rm : Room} {av : List Value} {S : Type} {w0 : va_W} {w : S → va_W} {K : S → Prop} {maxL mc ms : Nat}
    (hpl : plainName y.cls = true) (hws : wsY = Cond.code y cc maxL none :: ws2) (hlen : (lg_sl av).length ≤ maxL)
    (body : ∀ (p : Program) (e : Env) (s : State) (m : MethodId) (below : List Frame) (meth : Method) (c : Code) (A : Nat → Prop) (Q : State → Prop), CallFix p m c cc maxL s av.toArray wsY y.cls → meth.name = y.name → Wd D A s tys w0 s.heap [] → (∀ (pc : Nat) (ls : Array Slot) (u : S) (H : Heap) (locs : List Loc), decode cc pc = .ok (.return_, 1) → K u → Wd D A s tys (w u) H locs → W p l e rm s m av.toArray below meth c H locs mc ms Q (F0 m pc ls [])) → ∀ ls : Array Slot, lv_has ls maxL (lv_args 0 av) → W p l e rm s m av.toArray below meth c s.heap [] 0 0 Q (F0 m 0 ls [])) : Cn mc ms l y wsY rm av D tys w0 w K := by
  intro sz
  refine Met.ofW (cc := cc) (maxL := maxL) (ret := none) hpl hws ?_
  intro p e s m args below meth c s₁ B hml hv
  obtain ⟨rfl, hsz, hP, hK, hD0, hE⟩ := hv
  have hts := atoms_spec (ws := wsY) B.pre
  have hown : s.vm.findClass y.cls = some m.cls := findClass_of_methodNamed B.named
  have hin : meth.name = y.name := (name_of_methodNamed B.named B.method).1
  subst hsz
  have hD := hD0.self (sz := s.heap.size)
  have hl := lv_entry av (n := maxL) hlen
  rw [lg_entry_eq]
  refine body p e s m below meth c (va_A w0 s.heap.size) _ ⟨B.exec, B.bytes, hml, hown, hts⟩ hin ⟨hK, hP, hD, va_S.rf, fun q h => Or.inr h, hE⟩ (fun pc ls u H locs hd hk hw => ?_) _ hl
  obtain ⟨hK, hP, hD, hS, -⟩ := hw
  exact W.vret B.exec B.bytes B.returns (fun t ht hW => ⟨⟨u, rfl, hk, by rw [ht]; exact hP, va_K.moved hW.alike hK, hD⟩, hS.F ht⟩) hS.2.2 hd B.notSynchronized
/-- what stays beside a callee's cells -/
theorem i_back {wc wr w1 : va_W} {H1 : Heap} {locs1 : List Loc} {tt : State} (hw : Wd D A s tys (wc ++ wr) H locs) (ht : tt.heap = H1) (hP1 : va_P D vwCl w1 tt.heap) (hD1 : va_D (va_A wc H.size) w1) (hk1 : ∀ q : Nat, q < H.size → ¬ va_A wc H.size q → H1[q]? = H[q]?) (hF : ∀ q, va_A wc H.size q → A q) (hS : va_S A s.heap H1 locs1) : Wd D A s tys (w1 ++ wr) H1 locs1 := by
  obtain ⟨hK, hP, hD, -, hA⟩ := hw
  have hd := va_D_iff.mp hD
  have hd1 := va_D_iff.mp hD1
  have hpw := List.pairwise_append.mp hd.1
  have hlt : ∀ q ∈ wr, q.1 < H.size := fun q hq => by
    obtain ⟨i, hi⟩ := List.getElem?_of_mem (List.mem_append_right wc hq)
    exact (hP i q hi).lt
  have hnot : ∀ q ∈ wr, ¬ va_A wc H.size q.1 := fun q hq h => by
    rcases h with ⟨k, e, h⟩ | h
    · exact hpw.2.2 _ (List.mem_of_getElem? h) q hq rfl
    · exact absurd (hlt q hq) (Nat.not_lt.mpr h)
  rw [ht] at hP1
  refine ⟨hK, fun k q hk => ?_, va_D_iff.mpr ⟨List.pairwise_append.mpr ⟨hd1.1, hpw.2.1, fun a ha b hb e => hnot b hb (e ▸ hd1.2 a ha)⟩, fun q hq => ?_⟩, hS, hA⟩
  · rcases List.mem_append.mp (List.mem_of_getElem? hk) with h | h
    · obtain ⟨i, hi⟩ := List.getElem?_of_mem h
      exact hP1 i q hi
    · obtain ⟨i, hi⟩ := List.getElem?_of_mem (List.mem_append_right wc h)
      exact (hP i q hi).kept (hk1 q.1 (hlt q h) (hnot q h))
  · rcases List.mem_append.mp hq with h | h
    · exact hF _ (hd1.2 q h)
    · exact hd.2 q (List.mem_append_right wc h)
theorem i_cut {wc wr : va_W} (hw : Wd D A s tys (wc ++ wr) H locs) : (va_P D vwCl wc H ∧ va_D A wc) ∧ ∀ q, va_A wc H.size q → A q := by
  obtain ⟨hK, hP, hD, hS, hA⟩ := hw
  have hd := va_D_iff.mp hD
  refine ⟨⟨fun k q hk => ?_, va_D_iff.mpr ⟨(List.pairwise_append.mp hd.1).1, fun q hq => hd.2 q (List.mem_append_left _ hq)⟩⟩, fun q h => ?_⟩
  · obtain ⟨i, hi⟩ := List.getElem?_of_mem (List.mem_append_left wr (List.mem_of_getElem? hk))
    exact hP i q hi
  · rcases h with ⟨k, e, h⟩ | h
    · exact hd.2 _ (List.mem_append_left _ (List.mem_of_getElem? h))
    · exact hA.1 q (Nat.le_trans hS.1 h)
section ICalls
variable {S : Type} {w : S → va_W} {K : S → Prop} {y : MethodName} {wsY : List Cond} {rm : Room} {As : List Value} {index maxL n mc ms b : Nat} {bytes : ByteArray} {wc wr : va_W} {ret : Option FieldType}
/-- a constructor of the class's own kind -/
theorem i_init (C : CallFix p m c cc nL s args Ts own) (hw : Wd D A s tys (wc ++ wr) H locs) (hM : Cn mc ms l y wsY rm (.ref b :: As) D tys wc w K) (cw : CallB R s args own index y bytes maxL none wsY rm mc ms n ∧ y.name = "<init>" ∧ (Cond.instanceMethod y).before args s = true) (hlen : As.length = n) (hsize : ls.size = nL) (hroom : (rest.map fun v => v.category).sum ≤ 8) (hdg : decode cc pc = .ok (.invokespecial index, 3)) (h1 : cells + mc = c1) (h2 : slots + ms = s1) (hf : c1 ≤ R.cells ∧ s1 ≤ R.slots)
    (kk : ∀ (u : S) (H1 : Heap) (locs1 : List Loc), K u → Wd D A s tys (w u ++ wr) H1 locs1 → W p l e R s m args below meth c H1 locs1 c1 s1 Q (F0 m (pc + 3) ls rest)) {st : List Value} (hst : st = As.reverse ++ .ref b :: rest) : W p l e R s m args below meth c H locs cells slots Q (F0 m pc ls st) := by
  subst hst h1 h2
  obtain ⟨⟨hPc, hDc⟩, hFc⟩ := i_cut hw
  exact va_callv (va_runI (As := As) (rest := rest) C (hM H.size) cw ⟨Cpre_blind, fun U hU hW => ⟨rfl, by rw [hU], by rw [hU]; exact hPc, va_K.moved hW.alike hw.1, hDc.weaken (fun _ _ _ _ => trivial), EXs.warm hW hU hw.2.2.2.1 hFc hw.2.2.2.2.2⟩⟩ rfl hlen hsize rfl (lv_room hroom) hdg hf) hw.2.2.2.1 (fun q _ h => hFc q h) hFc
    (fun u t H1 locs1 ht hvm hk hB hz1 hk1 hS => kk u H1 locs1 hk (i_back hw ht hB.1 hB.2.2 hk1 hFc hS))
/-- a private constructor, by its nest -/
theorem i_initN (C : CallFix p m c cc nL s args Ts own) (hw : Wd D A s tys (wc ++ wr) H locs) (hM : Cn mc ms l y wsY rm (.ref b :: As) D tys wc w K) {host : String} (cw : va_CN R s args own index y host bytes maxL none wsY rm mc ms n ∧ y.name = "<init>" ∧ (Cond.instanceMethod y).before args s = true) (hlen : As.length = n) (hsize : ls.size = nL) (hroom : (rest.map fun v => v.category).sum ≤ 8) (hdg : decode cc pc = .ok (.invokespecial index, 3)) (h1 : cells + mc = c1) (h2 : slots + ms = s1) (hf : c1 ≤ R.cells ∧ s1 ≤ R.slots)
    (kk : ∀ (u : S) (H1 : Heap) (locs1 : List Loc), K u → Wd D A s tys (w u ++ wr) H1 locs1 → W p l e R s m args below meth c H1 locs1 c1 s1 Q (F0 m (pc + 3) ls rest)) {st : List Value} (hst : st = As.reverse ++ .ref b :: rest) : W p l e R s m args below meth c H locs cells slots Q (F0 m pc ls st) := by
  subst hst h1 h2
  obtain ⟨⟨hPc, hDc⟩, hFc⟩ := i_cut hw
  exact va_callv (va_runIN (As := As) (rest := rest) C (hM H.size) cw ⟨Cpre_blind, fun U hU hW => ⟨rfl, by rw [hU], by rw [hU]; exact hPc, va_K.moved hW.alike hw.1, hDc.weaken (fun _ _ _ _ => trivial), EXs.warm hW hU hw.2.2.2.1 hFc hw.2.2.2.2.2⟩⟩ rfl hlen hsize rfl (lv_room hroom) hdg hf) hw.2.2.2.1 (fun q _ h => hFc q h) hFc
    (fun u t H1 locs1 ht hvm hk hB hz1 hk1 hS => kk u H1 locs1 hk (i_back hw ht hB.1 hB.2.2 hk1 hFc hS))
/-- a method that answers nothing, on the front cells -/
theorem i_Vv (C : CallFix p m c cc nL s args Ts own) (hw : Wd D A s tys (wc ++ wr) H locs) (hM : Cn mc ms l y wsY rm (.ref b :: As) D tys wc w K) {Cx : String} (cw : CallW R s args own Cx index y bytes maxL ret wsY rm mc ms n) {q0 ci N : Nat} {T : u_T} {fs : List Value} (hrc : vwCl[ci]? = some (Cx, T, N)) (hre : (wc ++ wr)[q0]? = some (b, .inr (ci, fs))) (hlen : As.length = n) (hsize : ls.size = nL) (hroom : (rest.map fun v => v.category).sum ≤ 8) (hdg : decode cc pc = .ok (.invokevirtual index, 3)) (h1 : cells + mc = c1) (h2 : slots + ms = s1) (hf : c1 ≤ R.cells ∧ s1 ≤ R.slots)
    (kk : ∀ (u : S) (H1 : Heap) (locs1 : List Loc), K u → Wd D A s tys (w u ++ wr) H1 locs1 → W p l e R s m args below meth c H1 locs1 c1 s1 Q (F0 m (pc + 3) ls rest)) {st : List Value} (hst : st = As.reverse ++ .ref b :: rest) : W p l e R s m args below meth c H locs cells slots Q (F0 m pc ls st) := by
  subst hst h1 h2
  obtain ⟨⟨hPc, hDc⟩, hFc⟩ := i_cut hw
  exact va_callv (va_runV (As := As) (rest := rest) C (hM H.size) cw ⟨Cpre_blind, va_recv hw.1 hw.2.1 hrc hre, fun U hU hW => ⟨rfl, by rw [hU], by rw [hU]; exact hPc, va_K.moved hW.alike hw.1, hDc.weaken (fun _ _ _ _ => trivial), EXs.warm hW hU hw.2.2.2.1 hFc hw.2.2.2.2.2⟩⟩ rfl hlen hsize rfl (lv_room hroom) hdg hf) hw.2.2.2.1 (fun q _ h => hFc q h) hFc
    (fun u t H1 locs1 ht hvm hk hB hz1 hk1 hS => kk u H1 locs1 hk (i_back hw ht hB.1 hB.2.2 hk1 hFc hS))
end ICalls
end IR
