/-! The rules of the walks: a world is a list of cells made from a state; a contract says what holds behind. -/
abbrev ix (i : Int32) : Nat := i.toNatClampNeg
def jrem (x y : Int32) : Int32 := x - x / y * y
def jshl (x y : Int32) : Int32 := x <<< (y &&& 31)
def jshr (x y : Int32) : Int32 := x >>> (y &&& 31)
def jushr (x y : Int32) : Int32 := (x.toUInt32 >>> (y.toUInt32 &&& Int32.toUInt32 31)).toInt32
def jlshl (x : Int64) (y : Int32) : Int64 := x <<< (y.toInt64 &&& 63)
def jlshr (x : Int64) (y : Int32) : Int64 := x >>> (y.toInt64 &&& 63)
def jlushr (x : Int64) (y : Int32) : Int64 := (x.toUInt64 >>> (y.toInt64.toUInt64 &&& Int64.toUInt64 63)).toInt64
/-- an int that is a boolean -/
def isB (x : Int32) : Prop := x = 0 ∨ x = 1
theorem isB_nar {x : Int32} (h : isB x) : narrow .boolean (.int x) = .int x := by rcases h with h | h <;> subst h <;> rfl
theorem isB_fit {x : Int32} (h : isB x) : fits .boolean (.int x) = true := by rcases h with h | h <;> subst h <;> rfl
theorem sw_in {x : Int32} {lo hi : Int} {P : Prop} (h1 : ¬ x.toInt < lo → ¬ hi < x.toInt → P) (h2 : x.toInt < lo ∨ hi < x.toInt → P) : P := by
  rcases Classical.em (x.toInt < lo) with a | a
  · exact h2 (Or.inl a)
  · rcases Classical.em (hi < x.toInt) with b | b
    · exact h2 (Or.inr b)
    · exact h1 a b
theorem sw_eq {x k : Int32} {a : Int} (h : x.toInt = a) (hk : k.toInt = a) : x = k := Int32.toInt_inj.mp (h.trans hk.symm)
section GR1
variable {p : Program} {l : Launch} {e : Env} {R : Room} {s : State} {m : MethodId} {args : Array Value} {below : List Frame} {meth : Method} {c : Code} {H : Heap} {locs : List Loc} {cells slots : Nat} {Q : State → Prop}
variable {cc : ByteArray} {pc : Nat} {ls : Array Slot} {rest : List Value} {nL : Nat} {Ts : List Cond} {own : String}
theorem g_irem (C : CallFix p m c cc nL s args Ts own) {x y : Int32} (hdg : decode cc pc = .ok (.irem, 1)) (hne : ¬ y = 0) (k : W p l e R s m args below meth c H locs cells slots Q (F0 m (pc + 1) ls (.int (jrem x y) :: rest))) : W p l e R s m args below meth c H locs cells slots Q (F0 m pc ls (.int y :: .int x :: rest)) := lv_irem C.1 C.2.1 hdg hne k
theorem g_ishl (C : CallFix p m c cc nL s args Ts own) {x y : Int32} (hdg : decode cc pc = .ok (.ishl, 1)) (k : W p l e R s m args below meth c H locs cells slots Q (F0 m (pc + 1) ls (.int (jshl x y) :: rest))) : W p l e R s m args below meth c H locs cells slots Q (F0 m pc ls (.int y :: .int x :: rest)) := lv_ishl C.1 C.2.1 hdg k
theorem g_ishr (C : CallFix p m c cc nL s args Ts own) {x y : Int32} (hdg : decode cc pc = .ok (.ishr, 1)) (k : W p l e R s m args below meth c H locs cells slots Q (F0 m (pc + 1) ls (.int (jshr x y) :: rest))) : W p l e R s m args below meth c H locs cells slots Q (F0 m pc ls (.int y :: .int x :: rest)) := lv_ishr C.1 C.2.1 hdg k
theorem g_iushr (C : CallFix p m c cc nL s args Ts own) {x y : Int32} (hdg : decode cc pc = .ok (.iushr, 1)) (k : W p l e R s m args below meth c H locs cells slots Q (F0 m (pc + 1) ls (.int (jushr x y) :: rest))) : W p l e R s m args below meth c H locs cells slots Q (F0 m pc ls (.int y :: .int x :: rest)) := lv_iushr C.1 C.2.1 hdg rfl k
end GR1
/-- what a call may use beside its words: String constants, links to private constructors, array classes -/
def EXq : List (String × Nat × MethodName) := [(RX10, 9, yX9_init), (RX7, 17, yX6_init), (RX5, 26, yX4_init), (RX10, 34, yX6_init), (RX10, 41, yX4_init), (RX10, 55, yX3_init), (RX10, 62, yX0_init), (RX10, 84, yX8_init), (RX8, 20, yX3_init), (RX10, 91, yX2_init), (RX2, 17, yX4_init), (RX2, 24, yX3_init), (RX2, 31, yX0_init)]
/-- the two vocabularies as the heap has them: their numbers 0, 1; D names their cells -/
def zl (i : Nat) : Nat := if i = 0 then 91 else 54
def SX1 (D : va_G) (i : Nat) (A : Nat → Prop) (U : State) (H : Heap) : Prop :=
  va_O "java/lang/String" (D.2 1000 i) A U H ∧ va_OF "java/lang/String" "coder" "B" (.int 0) (D.2 1000 i) A U H ∧ va_OF "java/lang/String" "value" "[B" (.ref (D.2 1001 i)) (D.2 1000 i) A U H ∧ ∃ f : Nat → Int32, va_T .byte (D.2 1001 i) (zl i) (fun j => .int (f j)) A U H
def SX (D : va_G) (A : Nat → Prop) (U : State) (H : Heap) : Prop :=
  (∀ i : Nat, i < 2 → SX1 D i A U H) ∧ va_Z "java/lang/String" "COMPACT_STRINGS" "Z" (.int 1) A U H ∧ va_Zq "jdk/internal/util/Preconditions" "SIOOBE_FORMATTER" "Ljava/util/function/BiFunction;" A U H
theorem SX.moved {D : va_G} {A : Nat → Prop} {u U : State} {H : Heap} (hvm : u.vm.Alike U.vm) (h : SX D A u H) : SX D A U H :=
  ⟨fun i hi => ⟨va_O.moved hvm (h.1 i hi).1, va_OF.moved hvm (h.1 i hi).2.1, va_OF.moved hvm (h.1 i hi).2.2.1, (h.1 i hi).2.2.2.imp fun _ h => va_T.moved hvm h⟩, va_Z.moved hvm h.2.1, va_Zq.moved hvm h.2.2⟩
theorem SX.kept {D : va_G} {A : Nat → Prop} {U : State} {H H1 : Heap} (h : SX D A U H) (hq : ∀ a : Nat, a < H.size → ¬ A a → H1[a]? = H[a]?) : SX D A U H1 :=
  ⟨fun i hi => ⟨(h.1 i hi).1.kept hq, (h.1 i hi).2.1.kept hq, (h.1 i hi).2.2.1.kept hq, (h.1 i hi).2.2.2.imp fun _ h => h.kept hq⟩, va_Z.kept h.2.1 hq, va_Zq.kept h.2.2 hq⟩
theorem SX.narrow {D : va_G} {A B : Nat → Prop} {U : State} {H : Heap} (h : SX D A U H) (hAB : ∀ q, B q → A q) : SX D B U H :=
  ⟨fun i hi => ⟨(h.1 i hi).1.narrow hAB, (h.1 i hi).2.1.narrow hAB, (h.1 i hi).2.2.1.narrow hAB, (h.1 i hi).2.2.2.imp fun _ h => h.narrow hAB⟩, va_Z.narrow h.2.1 hAB, va_Zq.narrow h.2.2 hAB⟩
def EXs (D : va_G) (A : Nat → Prop) (s : State) : Prop := vk_R RX7 30 "if do not bump bell way yes count mode set drop right left back face keep go add zero wipe " (D.2 1000 0) s ∧ vk_R RX5 45 "relay go left right keep or and not bump bell one two " (D.2 1000 1) s ∧ (∃ q, vk_R RX10 202 "no such square" q s) ∧ (∃ q, vk_R RX10 222 "no such what" q s) ∧ (∀ x ∈ EXq, va_Nw (.methodLinkNest x.1 x.2.1 x.2.2 RX10) s) ∧ va_AO RX1 s ∧ va_AO RX3 s ∧ SX D A s s.heap
theorem EXs.warm {D : va_G} {A B : Nat → Prop} {s U : State} {H : Heap} {locs : List Loc} (hW : s.WarmedH U.vm) (hU : U.heap = H) (hS : va_S A s.heap H locs) (hAB : ∀ q, B q → A q) (h : EXs D A s) : EXs D B U := ⟨h.1.warm hW, h.2.1.warm hW, h.2.2.1.imp fun _ h => h.warm hW, h.2.2.2.1.imp fun _ h => h.warm hW, fun x hx => (h.2.2.2.2.1 x hx).warmM hW, h.2.2.2.2.2.1.moved hW.alike, h.2.2.2.2.2.2.1.moved hW.alike, by rw [hU]; exact ((SX.moved hW.alike h.2.2.2.2.2.2.2).kept hS.2.1).narrow hAB⟩
theorem EXs.same {D : va_G} {A : Nat → Prop} {s U : State} (hv : U.vm = s.vm) (hH : U.heap = s.heap) (h : EXs D A s) : EXs D A U := ⟨h.1.same hv, h.2.1.same hv, h.2.2.1.imp fun _ h => h.same hv, h.2.2.2.1.imp fun _ h => h.same hv, fun x hx => va_Nw.same rfl hv.symm (h.2.2.2.2.1 x hx), h.2.2.2.2.2.1.moved (hv ▸ Vm.Alike.refl s.vm), h.2.2.2.2.2.2.1.moved (hv ▸ Vm.Alike.refl s.vm), by rw [hH]; exact SX.moved (hv ▸ Vm.Alike.refl s.vm) h.2.2.2.2.2.2.2⟩
def pt (g : Nat → Nat → Int32) (k i : Nat) (v : Int32) : Nat → Nat → Int32 := va_up g k (upd (g k) i v)
def ptL (g : Nat → Nat → Int64) (k i : Nat) (v : Int64) : Nat → Nat → Int64 := va_up g k (vp_updL (g k) i v)
section GR
variable {p : Program} {l : Launch} {e : Env} {R : Room} {s : State} {m : MethodId} {args : Array Value} {below : List Frame} {meth : Method} {c : Code} {H : Heap} {locs : List Loc} {cells slots : Nat} {Q : State → Prop}
variable {cc : ByteArray} {pc : Nat} {ls : Array Slot} {rest : List Value} {D : va_G} {A : Nat → Prop} {a : Nat} {tys : List (ClassId × FieldType)} {ws : va_W} {nL : Nat} {Ts : List Cond} {own : String}
/-- the world at a point of a method -/
def Wd (D : va_G) (A : Nat → Prop) (s : State) (tys : List (ClassId × FieldType)) (ws : va_W) (H : Heap) (locs : List Loc) : Prop :=
  va_K D vwCl tys s ∧ va_P D vwCl ws H ∧ va_D A ws ∧ va_S A s.heap H locs ∧ (∀ q, s.heap.size ≤ q → A q) ∧ EXs D A s
/-- the same cells in another order -/
theorem Wd.perm {ws' : va_W} (hw : Wd D A s tys ws H locs) (is : List Nat) (hn : va_nd is = true) (hs : is.map (fun i => ws[i]?) = ws'.map some) : Wd D A s tys ws' H locs := by
  obtain ⟨hK, hP, hD, hS, hA⟩ := hw
  refine ⟨hK, ?_, hD.sub is hn hs, hS, hA⟩
  intro k q hk
  have h1 : (is.map (fun i => ws[i]?))[k]? = some (some q) := by rw [hs, List.getElem?_map, hk]; rfl
  rw [List.getElem?_map] at h1
  cases hi : is[k]? with
  | none => rw [hi] at h1; cases h1
  | some i => rw [hi] at h1; exact hP i q (Option.some.inj h1)
theorem wd_get (C : CallFix p m c cc nL s args Ts own) (hw : Wd D A s tys ws H locs) {Cn : String} {T : u_T} {N ci index : Nat} (hin : ∀ w ∈ u_ws Cn T N, w ∈ Ts) (q0 : Nat) {fs : List Value} (he : ws[q0]? = some (a, .inr (ci, fs))) (hc : vwCl[ci]? = some (Cn, T, N)) (k : Nat) (hk : k < N) (hlink : Cond.fieldLink own index (T k).1 (T k).2.1 (T k).2.2.1 ∈ Ts) {v : Value} (hv : fs[k]? = some v) (hdg : decode cc pc = .ok (.getfield index, 3))
    (kk : W p l e R s m args below meth c H locs cells slots Q (F0 m (pc + 3) ls (v :: rest))) : W p l e R s m args below meth c H locs cells slots Q (F0 m pc ls (.ref a :: rest)) :=
  va_get C.1 C.2.1 C.2.2.2.2 hin C.2.2.2.1 hw.1 hw.2.1 q0 he hc k hk (C.2.2.2.2 _ hlink) (fun _ h => h) hv hdg kk
theorem wd_put (C : CallFix p m c cc nL s args Ts own) (hw : Wd D A s tys ws H locs) {Cn : String} {T : u_T} {N ci index : Nat} (hin : ∀ w ∈ u_ws Cn T N, w ∈ Ts) (ty0 : Nat → FieldType) (hty : ∀ k, k < N → parseFieldDescriptor (T k).2.2.1 = some (ty0 k)) (hnm : ∀ a, a < N → ∀ b, b < N → a ≠ b → (T a).2.1 ≠ (T b).2.1) (q0 : Nat) {fs : List Value} (he : ws[q0]? = some (a, .inr (ci, fs))) (hc : vwCl[ci]? = some (Cn, T, N)) (k : Nat) (hk : k < N) (hlink : Cond.fieldLink own index (T k).1 (T k).2.1 (T k).2.2.1 ∈ Ts) (hfin : (T k).2.2.2 = false) {ty : FieldType} {v : Value} (hd : parseFieldDescriptor (T k).2.2.1 = some ty) (hn : narrow ty v = v) (hfit : fits ty v = true) (hl : k < fs.length) {ws' : va_W} (hset : ws.set q0 (a, .inr (ci, fs.set k v)) = ws')
    (hdg : decode cc pc = .ok (.putfield index, 3)) (kk : ∀ (H1 : Heap) (locs1 : List Loc), Wd D A s tys ws' H1 locs1 → W p l e R s m args below meth c H1 locs1 cells slots Q (F0 m (pc + 3) ls rest)) : W p l e R s m args below meth c H locs cells slots Q (F0 m pc ls (v :: .ref a :: rest)) := by
  obtain ⟨hK, hP, hD, hS, hA⟩ := hw
  refine va_put C.1 C.2.1 C.2.2.2.2 hin ty0 hty hnm C.2.2.2.1 hK hP hD hS q0 he hc k hk (C.2.2.2.2 _ hlink) (fun _ h => h) hfin hd hn hfit hl hdg (fun H1 locs1 h1 h2 h3 => ?_)
  rw [hset] at h1 h2
  exact kk H1 locs1 ⟨hK, h1, h2, h3, hA⟩
theorem wd_ial (C : CallFix p m c cc nL s args Ts own) (hw : Wd D A s tys ws H locs) (q0 t0 : Nat) {cA : ClassId} {n : Nat} {f : Nat → Int32} (ha : ws[q0]? = some (a, .inl (cA, n, .inl f))) (ht : tys[t0]? = some (cA, .int)) {i : Int32} (hin : vp_in i n) (hdg : decode cc pc = .ok (.iaload, 1))
    (kk : W p l e R s m args below meth c H locs cells slots Q (F0 m (pc + 1) ls (.int (f i.toNatClampNeg) :: rest))) : W p l e R s m args below meth c H locs cells slots Q (F0 m pc ls (.int i :: .ref a :: rest)) :=
  va_iald C.1 C.2.1 hw.1 hw.2.1 q0 t0 ha ht hin hdg kk
theorem wd_zal (C : CallFix p m c cc nL s args Ts own) (hw : Wd D A s tys ws H locs) (q0 t0 : Nat) {cA : ClassId} {n : Nat} {f : Nat → Int32} (ha : ws[q0]? = some (a, .inl (cA, n, .inl f))) (ht : tys[t0]? = some (cA, .boolean)) {i : Int32} (hin : vp_in i n) (hdg : decode cc pc = .ok (.baload, 1))
    (kk : W p l e R s m args below meth c H locs cells slots Q (F0 m (pc + 1) ls (.int (f i.toNatClampNeg) :: rest))) : W p l e R s m args below meth c H locs cells slots Q (F0 m pc ls (.int i :: .ref a :: rest)) :=
  va_zald C.1 C.2.1 hw.1 hw.2.1 q0 t0 ha ht hin hdg kk
theorem wd_lal (C : CallFix p m c cc nL s args Ts own) (hw : Wd D A s tys ws H locs) (q0 t0 : Nat) {cA : ClassId} {n : Nat} {f : Nat → Int64} (ha : ws[q0]? = some (a, .inl (cA, n, .inr (.inl f)))) (ht : tys[t0]? = some (cA, .long)) {i : Int32} (hin : vp_in i n) (hdg : decode cc pc = .ok (.laload, 1))
    (kk : W p l e R s m args below meth c H locs cells slots Q (F0 m (pc + 1) ls (.long (f i.toNatClampNeg) :: rest))) : W p l e R s m args below meth c H locs cells slots Q (F0 m pc ls (.int i :: .ref a :: rest)) :=
  va_lald C.1 C.2.1 hw.1 hw.2.1 q0 t0 ha ht hin hdg kk
theorem wd_ias (C : CallFix p m c cc nL s args Ts own) (hw : Wd D A s tys ws H locs) (q0 t0 : Nat) {cA : ClassId} {n : Nat} {f : Nat → Int32} (ha : ws[q0]? = some (a, .inl (cA, n, .inl f))) (ht : tys[t0]? = some (cA, .int)) {i x : Int32} (hin : vp_in i n) {ws' : va_W} (hset : ws.set q0 (a, .inl (cA, n, .inl (upd f i.toNatClampNeg x))) = ws') (hdg : decode cc pc = .ok (.iastore, 1))
    (kk : ∀ (H1 : Heap) (locs1 : List Loc), Wd D A s tys ws' H1 locs1 → W p l e R s m args below meth c H1 locs1 cells slots Q (F0 m (pc + 1) ls rest)) : W p l e R s m args below meth c H locs cells slots Q (F0 m pc ls (.int x :: .int i :: .ref a :: rest)) := by
  obtain ⟨hK, hP, hD, hS, hA⟩ := hw
  refine va_iast C.1 C.2.1 hK hP hD hS q0 t0 ha ht hin hdg (fun H1 locs1 h1 h2 h3 => ?_)
  rw [hset] at h1 h2
  exact kk H1 locs1 ⟨hK, h1, h2, h3, hA⟩
theorem wd_zas (C : CallFix p m c cc nL s args Ts own) (hw : Wd D A s tys ws H locs) (q0 t0 : Nat) {cA : ClassId} {n : Nat} {f : Nat → Int32} (ha : ws[q0]? = some (a, .inl (cA, n, .inl f))) (ht : tys[t0]? = some (cA, .boolean)) {i x : Int32} (hin : vp_in i n) {ws' : va_W} (hset : ws.set q0 (a, .inl (cA, n, .inl (upd f i.toNatClampNeg (vp_nar .boolean x)))) = ws') (hdg : decode cc pc = .ok (.bastore, 1))
    (kk : ∀ (H1 : Heap) (locs1 : List Loc), Wd D A s tys ws' H1 locs1 → W p l e R s m args below meth c H1 locs1 cells slots Q (F0 m (pc + 1) ls rest)) : W p l e R s m args below meth c H locs cells slots Q (F0 m pc ls (.int x :: .int i :: .ref a :: rest)) := by
  obtain ⟨hK, hP, hD, hS, hA⟩ := hw
  refine va_zast C.1 C.2.1 hK hP hD hS q0 t0 ha ht hin hdg (fun H1 locs1 h1 h2 h3 => ?_)
  rw [hset] at h1 h2
  exact kk H1 locs1 ⟨hK, h1, h2, h3, hA⟩
theorem wd_las (C : CallFix p m c cc nL s args Ts own) (hw : Wd D A s tys ws H locs) (q0 t0 : Nat) {cA : ClassId} {n : Nat} {f : Nat → Int64} (ha : ws[q0]? = some (a, .inl (cA, n, .inr (.inl f)))) (ht : tys[t0]? = some (cA, .long)) {i : Int32} {x : Int64} (hin : vp_in i n) {ws' : va_W} (hset : ws.set q0 (a, .inl (cA, n, .inr (.inl (vp_updL f i.toNatClampNeg x)))) = ws') (hdg : decode cc pc = .ok (.lastore, 1))
    (kk : ∀ (H1 : Heap) (locs1 : List Loc), Wd D A s tys ws' H1 locs1 → W p l e R s m args below meth c H1 locs1 cells slots Q (F0 m (pc + 1) ls rest)) : W p l e R s m args below meth c H locs cells slots Q (F0 m pc ls (.long x :: .int i :: .ref a :: rest)) := by
  obtain ⟨hK, hP, hD, hS, hA⟩ := hw
  refine va_last C.1 C.2.1 hK hP hD hS q0 t0 ha ht hin hdg (fun H1 locs1 h1 h2 h3 => ?_)
  rw [hset] at h1 h2
  exact kk H1 locs1 ⟨hK, h1, h2, h3, hA⟩
/-- a contract's start -/
def Cpre (av : List Value) (D : va_G) (tys : List (ClassId × FieldType)) (w0 : va_W) (sz : Nat) : Array Value → State → Prop :=
  va_Pc av (fun U => U.heap.size = sz ∧ va_P D vwCl w0 U.heap ∧ va_K D vwCl tys U ∧ va_D (fun _ => True) w0 ∧ EXs D (va_A w0 sz) U)
/-- a contract's world behind it -/
def Cpost {S : Type} (D : va_G) (tys : List (ClassId × FieldType)) (w : S → va_W) (w0 : va_W) (sz : Nat) (u : S) (t : State) : Prop :=
  va_P D vwCl (w u) t.heap ∧ va_K D vwCl tys t ∧ va_D (va_A w0 sz) (w u)
/-- a method that makes nothing and answers an int: from the world w u0 it comes to a world w u, and K holds of answer and u -/
def Ci (l : Launch) (y : MethodName) (wsY : List Cond) (rm : Room) (av : List Value) (D : va_G) (tys : List (ClassId × FieldType)) {S : Type} (w : S → va_W) (u0 : S) (K : Int32 → S → Prop) : Prop :=
  ∀ sz : Nat, Met l y wsY rm (Cpre av D tys (w u0) sz) (va_Qi K (Cpost D tys w (w u0) sz) (va_A (w u0) sz)) 0 0 (va_A (w u0) sz)
def Cl (l : Launch) (y : MethodName) (wsY : List Cond) (rm : Room) (av : List Value) (D : va_G) (tys : List (ClassId × FieldType)) {S : Type} (w : S → va_W) (u0 : S) (K : Int64 → S → Prop) : Prop :=
  ∀ sz : Nat, Met l y wsY rm (Cpre av D tys (w u0) sz) (va_Ql K (Cpost D tys w (w u0) sz) (va_A (w u0) sz)) 0 0 (va_A (w u0) sz)
def Cv (l : Launch) (y : MethodName) (wsY : List Cond) (rm : Room) (av : List Value) (D : va_G) (tys : List (ClassId × FieldType)) {S : Type} (w : S → va_W) (u0 : S) (K : S → Prop) : Prop :=
  ∀ sz : Nat, Met l y wsY rm (Cpre av D tys (w u0) sz) (va_Qv K (Cpost D tys w (w u0) sz) (va_A (w u0) sz)) 0 0 (va_A (w u0) sz)
/-- what a return may use -/
def Rti (ty : FieldType) (p : Program) (l : Launch) (e : Env) (R : Room) (s : State) (m : MethodId) (args : Array Value) (below : List Frame) (meth : Method) (c : Code) (cc : ByteArray) (D : va_G) (A : Nat → Prop) (tys : List (ClassId × FieldType)) {S : Type} (w : S → va_W) (K : Int32 → S → Prop) (Q : State → Prop) : Prop :=
  ∀ (pc : Nat) (ls : Array Slot) (r : Int32) (u : S) (H : Heap) (locs : List Loc), decode cc pc = .ok (.ireturn, 1) → narrow ty (.int r) = .int r → K r u → Wd D A s tys (w u) H locs → W p l e R s m args below meth c H locs 0 0 Q (F0 m pc ls [.int r])
def Rtl (p : Program) (l : Launch) (e : Env) (R : Room) (s : State) (m : MethodId) (args : Array Value) (below : List Frame) (meth : Method) (c : Code) (cc : ByteArray) (D : va_G) (A : Nat → Prop) (tys : List (ClassId × FieldType)) {S : Type} (w : S → va_W) (K : Int64 → S → Prop) (Q : State → Prop) : Prop :=
  ∀ (pc : Nat) (ls : Array Slot) (r : Int64) (u : S) (H : Heap) (locs : List Loc), decode cc pc = .ok (.lreturn, 1) → K r u → Wd D A s tys (w u) H locs → W p l e R s m args below meth c H locs 0 0 Q (F0 m pc ls [.long r])
def Rtv (p : Program) (l : Launch) (e : Env) (R : Room) (s : State) (m : MethodId) (args : Array Value) (below : List Frame) (meth : Method) (c : Code) (cc : ByteArray) (D : va_G) (A : Nat → Prop) (tys : List (ClassId × FieldType)) {S : Type} (w : S → va_W) (K : S → Prop) (Q : State → Prop) : Prop :=
  ∀ (pc : Nat) (ls : Array Slot) (u : S) (H : Heap) (locs : List Loc), decode cc pc = .ok (.return_, 1) → K u → Wd D A s tys (w u) H locs → W p l e R s m args below meth c H locs 0 0 Q (F0 m pc ls [])
theorem Ci_of {y : MethodName} {wsY ws' : List Cond} {rm : Room} {av : List Value} {S : Type} {w : S → va_W} {u0 : S} {K : Int32 → S → Prop} {maxL : Nat} {ty : FieldType}
    (hpl : plainName y.cls = true) (hws : wsY = Cond.code y cc maxL (some ty) :: ws') (hlen : (lg_sl av).length ≤ maxL)
    (body : ∀ (p : Program) (e : Env) (s : State) (m : MethodId) (below : List Frame) (meth : Method) (c : Code) (A : Nat → Prop) (Q : State → Prop), CallFix p m c cc maxL s av.toArray wsY y.cls → Wd D A s tys (w u0) s.heap [] → Rti ty p l e rm s m av.toArray below meth c cc D A tys w K Q → ∀ ls : Array Slot, lv_has ls maxL (lv_args 0 av) → W p l e rm s m av.toArray below meth c s.heap [] 0 0 Q (F0 m 0 ls [])) : Ci l y wsY rm av D tys w u0 K := by
  intro sz
  refine Met.ofW (cc := cc) (maxL := maxL) (ret := some ty) hpl hws ?_
  intro p e s m args below meth c s₁ B hml hv
  obtain ⟨rfl, hsz, hP, hK, hD0, hE⟩ := hv
  have hts := atoms_spec (ws := wsY) B.pre
  have hown : s.vm.findClass y.cls = some m.cls := findClass_of_methodNamed B.named
  subst hsz
  have hD := hD0.self (sz := s.heap.size)
  have hl := lv_entry av (n := maxL) hlen
  rw [lg_entry_eq]
  refine body p e s m below meth c (va_A (w u0) s.heap.size) _ ⟨B.exec, B.bytes, hml, hown, hts⟩ ⟨hK, hP, hD, va_S.rf, fun q h => Or.inr h, hE⟩ (fun pc ls r u H locs hd hn hk hw => ?_) _ hl
  obtain ⟨hK, hP, hD, hS, -⟩ := hw
  exact W.zret B.exec B.bytes B.returns hn (fun t ht hW => ⟨⟨r, u, rfl, hk, by rw [ht]; exact hP, va_K.moved hW.alike hK, hD⟩, hS.F ht⟩) hS.2.2 hd B.notSynchronized
theorem Cl_of {y : MethodName} {wsY ws' : List Cond} {rm : Room} {av : List Value} {S : Type} {w : S → va_W} {u0 : S} {K : Int64 → S → Prop} {maxL : Nat}
    (hpl : plainName y.cls = true) (hws : wsY = Cond.code y cc maxL (some .long) :: ws') (hlen : (lg_sl av).length ≤ maxL)
    (body : ∀ (p : Program) (e : Env) (s : State) (m : MethodId) (below : List Frame) (meth : Method) (c : Code) (A : Nat → Prop) (Q : State → Prop), CallFix p m c cc maxL s av.toArray wsY y.cls → Wd D A s tys (w u0) s.heap [] → Rtl p l e rm s m av.toArray below meth c cc D A tys w K Q → ∀ ls : Array Slot, lv_has ls maxL (lv_args 0 av) → W p l e rm s m av.toArray below meth c s.heap [] 0 0 Q (F0 m 0 ls [])) : Cl l y wsY rm av D tys w u0 K := by
  intro sz
  refine Met.ofW (cc := cc) (maxL := maxL) (ret := some .long) hpl hws ?_
  intro p e s m args below meth c s₁ B hml hv
  obtain ⟨rfl, hsz, hP, hK, hD0, hE⟩ := hv
  have hts := atoms_spec (ws := wsY) B.pre
  have hown : s.vm.findClass y.cls = some m.cls := findClass_of_methodNamed B.named
  subst hsz
  have hD := hD0.self (sz := s.heap.size)
  have hl := lv_entry av (n := maxL) hlen
  rw [lg_entry_eq]
  refine body p e s m below meth c (va_A (w u0) s.heap.size) _ ⟨B.exec, B.bytes, hml, hown, hts⟩ ⟨hK, hP, hD, va_S.rf, fun q h => Or.inr h, hE⟩ (fun pc ls r u H locs hd hk hw => ?_) _ hl
  obtain ⟨hK, hP, hD, hS, -⟩ := hw
  exact W.lret B.exec B.bytes B.returns (fun t ht hW => ⟨⟨r, u, rfl, hk, by rw [ht]; exact hP, va_K.moved hW.alike hK, hD⟩, hS.F ht⟩) hS.2.2 hd B.notSynchronized
theorem Cv_of {y : MethodName} {wsY ws' : List Cond} {rm : Room} {av : List Value} {S : Type} {w : S → va_W} {u0 : S} {K : S → Prop} {maxL : Nat}
    (hpl : plainName y.cls = true) (hws : wsY = Cond.code y cc maxL none :: ws') (hlen : (lg_sl av).length ≤ maxL)
    (body : ∀ (p : Program) (e : Env) (s : State) (m : MethodId) (below : List Frame) (meth : Method) (c : Code) (A : Nat → Prop) (Q : State → Prop), CallFix p m c cc maxL s av.toArray wsY y.cls → Wd D A s tys (w u0) s.heap [] → Rtv p l e rm s m av.toArray below meth c cc D A tys w K Q → ∀ ls : Array Slot, lv_has ls maxL (lv_args 0 av) → W p l e rm s m av.toArray below meth c s.heap [] 0 0 Q (F0 m 0 ls [])) : Cv l y wsY rm av D tys w u0 K := by
  intro sz
  refine Met.ofW (cc := cc) (maxL := maxL) (ret := none) hpl hws ?_
  intro p e s m args below meth c s₁ B hml hv
  obtain ⟨rfl, hsz, hP, hK, hD0, hE⟩ := hv
  have hts := atoms_spec (ws := wsY) B.pre
  have hown : s.vm.findClass y.cls = some m.cls := findClass_of_methodNamed B.named
  subst hsz
  have hD := hD0.self (sz := s.heap.size)
  have hl := lv_entry av (n := maxL) hlen
  rw [lg_entry_eq]
  refine body p e s m below meth c (va_A (w u0) s.heap.size) _ ⟨B.exec, B.bytes, hml, hown, hts⟩ ⟨hK, hP, hD, va_S.rf, fun q h => Or.inr h, hE⟩ (fun pc ls u H locs hd hk hw => ?_) _ hl
  obtain ⟨hK, hP, hD, hS, -⟩ := hw
  exact W.vret B.exec B.bytes B.returns (fun t ht hW => ⟨⟨u, rfl, hk, by rw [ht]; exact hP, va_K.moved hW.alike hK, hD⟩, hS.F ht⟩) hS.2.2 hd B.notSynchronized
/-- a method that makes nothing and answers a cell of its world, by its number -/
def Cr (l : Launch) (y : MethodName) (wsY : List Cond) (rm : Room) (av : List Value) (D : va_G) (tys : List (ClassId × FieldType)) {S : Type} (w : S → va_W) (hh : Nat → Nat) (u0 : S) (K : Nat → S → Prop) : Prop :=
  ∀ sz : Nat, Met l y wsY rm (Cpre av D tys (w u0) sz) (va_Qr (S := Nat × S) (fun u => K u.1 u.2) (fun u a t => a = hh u.1 ∧ Cpost D tys w (w u0) sz u.2 t) (va_A (w u0) sz)) 0 0 (va_A (w u0) sz)
def Rtr (p : Program) (l : Launch) (e : Env) (R : Room) (s : State) (m : MethodId) (args : Array Value) (below : List Frame) (meth : Method) (c : Code) (cc : ByteArray) (D : va_G) (A : Nat → Prop) (tys : List (ClassId × FieldType)) {S : Type} (w : S → va_W) (hh : Nat → Nat) (K : Nat → S → Prop) (Q : State → Prop) : Prop :=
  ∀ (pc : Nat) (ls : Array Slot) (r : Nat) (u : S) (H : Heap) (locs : List Loc), decode cc pc = .ok (.areturn, 1) → K r u → Wd D A s tys (w u) H locs → W p l e R s m args below meth c H locs 0 0 Q (F0 m pc ls [.ref (hh r)])
theorem Cr_of {y : MethodName} {wsY ws' : List Cond} {rm : Room} {av : List Value} {S : Type} {w : S → va_W} {hh : Nat → Nat} {u0 : S} {K : Nat → S → Prop} {maxL : Nat} {ty : String}
    (hpl : plainName y.cls = true) (hws : wsY = Cond.code y cc maxL (some (.object ty)) :: ws') (hlen : (lg_sl av).length ≤ maxL)
    (body : ∀ (p : Program) (e : Env) (s : State) (m : MethodId) (below : List Frame) (meth : Method) (c : Code) (A : Nat → Prop) (Q : State → Prop), CallFix p m c cc maxL s av.toArray wsY y.cls → Wd D A s tys (w u0) s.heap [] → Rtr p l e rm s m av.toArray below meth c cc D A tys w hh K Q → ∀ ls : Array Slot, lv_has ls maxL (lv_args 0 av) → W p l e rm s m av.toArray below meth c s.heap [] 0 0 Q (F0 m 0 ls [])) : Cr l y wsY rm av D tys w hh u0 K := by
  intro sz
  refine Met.ofW (cc := cc) (maxL := maxL) (ret := some (.object ty)) hpl hws ?_
  intro p e s m args below meth c s₁ B hml hv
  obtain ⟨rfl, hsz, hP, hK, hD0, hE⟩ := hv
  have hts := atoms_spec (ws := wsY) B.pre
  have hown : s.vm.findClass y.cls = some m.cls := findClass_of_methodNamed B.named
  subst hsz
  have hD := hD0.self (sz := s.heap.size)
  have hl := lv_entry av (n := maxL) hlen
  rw [lg_entry_eq]
  refine body p e s m below meth c (va_A (w u0) s.heap.size) _ ⟨B.exec, B.bytes, hml, hown, hts⟩ ⟨hK, hP, hD, va_S.rf, fun q h => Or.inr h, hE⟩ (fun pc ls r u H locs hd hk hw => ?_) _ hl
  obtain ⟨hK, hP, hD, hS, -⟩ := hw
  exact W.aret B.exec B.bytes B.returns (Or.inl ⟨_, rfl⟩) (Or.inr ⟨_, rfl⟩) (fun t ht hW => ⟨⟨(r, u), _, rfl, hk, rfl, by rw [ht]; exact hP, va_K.moved hW.alike hK, hD⟩, hS.F ht⟩) hS.2.2 hd B.notSynchronized
theorem Cpre_blind {av : List Value} {w0 : va_W} {sz : Nat} : FrameBlind (Cpre av D tys w0 sz) := fun a U g mk q => by
  obtain ⟨q0, q1, qP, qK, qD, qE⟩ := q
  exact ⟨q0, q1, qP, va_K.moved (u := U) (U := U.calling g mk a) (Vm.Alike.refl U.vm) qK, qD, EXs.same (U := U.calling g mk a) rfl rfl qE⟩
section Calls
variable {S : Type} {w : S → va_W} {u0 : S} {y : MethodName} {wsY : List Cond} {rm : Room} {As : List Value} {tysC : List (ClassId × FieldType)} {Cn : String} {index maxL n : Nat} {bytes : ByteArray} {ret : Option FieldType} {b : Nat} {wr : va_W}
theorem wd_cut (hw : Wd D A s tys ws H locs) (isC : List Nat) (hnC : va_nd isC = true) {wc : va_W} (hC : isC.map (fun i => ws[i]?) = wc.map some) (isT : List Nat) (hT : isT.filterMap (fun i => tys[i]?) = tysC) :
    (va_P D vwCl wc H ∧ va_D A wc ∧ va_K D vwCl tysC s) ∧ ∀ q, va_A wc H.size q → A q := by
  have h2 := hw.perm isC hnC hC
  exact ⟨⟨h2.2.1, h2.2.2.1, hw.1.sub isT hT⟩, va_free hw.2.2.1 hw.2.2.2.1 hw.2.2.2.2.1 isC hC⟩
theorem wd_back (hw : Wd D A s tys ws H locs) {wc w1 : va_W} {H1 : Heap} {locs1 : List Loc} {t : State} (isC isR : List Nat) (hC : isC.map (fun i => ws[i]?) = wc.map some) (hR : isR.map (fun i => ws[i]?) = wr.map some) (hn : va_nd isR = true) (hdis : ∀ i ∈ isR, i ∉ isC)
    (hF : ∀ q, va_A wc H.size q → A q) (ht : t.heap = H1) (hP1 : va_P D vwCl w1 t.heap) (hD1 : va_D (va_A wc H.size) w1) (hk1 : ∀ q : Nat, q < H.size → ¬ va_A wc H.size q → H1[q]? = H[q]?) (hS : va_S A s.heap H1 locs1) : Wd D A s tys (wr ++ w1) H1 locs1 := by
  rw [ht] at hP1
  obtain ⟨h1, h2⟩ := va_join hw.2.1 hw.2.2.1 isC isR hC hR hn hdis hk1 hF hP1 hD1
  exact ⟨hw.1, h1, h2, hS, hw.2.2.2.2⟩
theorem wd_Vi {K : Int32 → S → Prop} (C : CallFix p m c cc nL s args Ts own) (hw : Wd D A s tys ws H locs) (isC isR isT : List Nat) (hM : Ci l y wsY rm (.ref b :: As) D tysC w u0 K) (hC : isC.map (fun i => ws[i]?) = (w u0).map some) (hR : isR.map (fun i => ws[i]?) = wr.map some) (hnC : va_nd isC = true) (hn : va_nd isR = true) (hdis : ∀ i ∈ isR, i ∉ isC) (hT : isT.filterMap (fun i => tys[i]?) = tysC)
    (cw : CallW R s args own Cn index y bytes maxL ret wsY rm 0 0 n) {q0 ci : Nat} {fs : List Value} {T : u_T} {N : Nat} (hrc : vwCl[ci]? = some (Cn, T, N)) (hre : ws[q0]? = some (b, .inr (ci, fs))) (hlen : As.length = n) (hsize : ls.size = nL) (hroom : (rest.map fun v => v.category).sum ≤ 8) (hdg : decode cc pc = .ok (.invokevirtual index, 3)) (hf : cells ≤ R.cells ∧ slots ≤ R.slots)
    (kk : ∀ (r : Int32) (u : S) (H1 : Heap) (locs1 : List Loc), K r u → Wd D A s tys (wr ++ w u) H1 locs1 → W p l e R s m args below meth c H1 locs1 cells slots Q (F0 m (pc + 3) ls (.int r :: rest))) {st : List Value} (hst : st = As.reverse ++ .ref b :: rest) : W p l e R s m args below meth c H locs cells slots Q (F0 m pc ls st) := by
  subst hst
  obtain ⟨⟨hPc, hDc, hKc⟩, hFc⟩ := wd_cut hw isC hnC hC isT hT
  exact va_calli (va_runV (As := As) (rest := rest) C (hM H.size) cw ⟨Cpre_blind, va_recv hw.1 hw.2.1 hrc hre, fun U hU hW => ⟨rfl, by rw [hU], by rw [hU]; exact hPc, va_K.moved hW.alike hKc, hDc.weaken (fun _ _ _ _ => trivial), EXs.warm hW hU hw.2.2.2.1 hFc hw.2.2.2.2.2⟩⟩ rfl hlen hsize rfl (lv_room hroom) hdg hf) hw.2.2.2.1 (fun q _ h => hFc q h) hFc
    (fun r u t H1 locs1 ht hvm hk hB hz1 hk1 hS => kk r u H1 locs1 hk (wd_back hw isC isR hC hR hn hdis hFc ht hB.1 hB.2.2 hk1 hS))
theorem wd_Vl {K : Int64 → S → Prop} (C : CallFix p m c cc nL s args Ts own) (hw : Wd D A s tys ws H locs) (isC isR isT : List Nat) (hM : Cl l y wsY rm (.ref b :: As) D tysC w u0 K) (hC : isC.map (fun i => ws[i]?) = (w u0).map some) (hR : isR.map (fun i => ws[i]?) = wr.map some) (hnC : va_nd isC = true) (hn : va_nd isR = true) (hdis : ∀ i ∈ isR, i ∉ isC) (hT : isT.filterMap (fun i => tys[i]?) = tysC)
    (cw : CallW R s args own Cn index y bytes maxL ret wsY rm 0 0 n) {q0 ci : Nat} {fs : List Value} {T : u_T} {N : Nat} (hrc : vwCl[ci]? = some (Cn, T, N)) (hre : ws[q0]? = some (b, .inr (ci, fs))) (hlen : As.length = n) (hsize : ls.size = nL) (hroom : (rest.map fun v => v.category).sum ≤ 8) (hdg : decode cc pc = .ok (.invokevirtual index, 3)) (hf : cells ≤ R.cells ∧ slots ≤ R.slots)
    (kk : ∀ (r : Int64) (u : S) (H1 : Heap) (locs1 : List Loc), K r u → Wd D A s tys (wr ++ w u) H1 locs1 → W p l e R s m args below meth c H1 locs1 cells slots Q (F0 m (pc + 3) ls (.long r :: rest))) {st : List Value} (hst : st = As.reverse ++ .ref b :: rest) : W p l e R s m args below meth c H locs cells slots Q (F0 m pc ls st) := by
  subst hst
  obtain ⟨⟨hPc, hDc, hKc⟩, hFc⟩ := wd_cut hw isC hnC hC isT hT
  exact va_calll (va_runV (As := As) (rest := rest) C (hM H.size) cw ⟨Cpre_blind, va_recv hw.1 hw.2.1 hrc hre, fun U hU hW => ⟨rfl, by rw [hU], by rw [hU]; exact hPc, va_K.moved hW.alike hKc, hDc.weaken (fun _ _ _ _ => trivial), EXs.warm hW hU hw.2.2.2.1 hFc hw.2.2.2.2.2⟩⟩ rfl hlen hsize rfl (lv_room hroom) hdg hf) hw.2.2.2.1 (fun q _ h => hFc q h) hFc
    (fun r u t H1 locs1 ht hvm hk hB hz1 hk1 hS => kk r u H1 locs1 hk (wd_back hw isC isR hC hR hn hdis hFc ht hB.1 hB.2.2 hk1 hS))
theorem wd_Vv {K : S → Prop} (C : CallFix p m c cc nL s args Ts own) (hw : Wd D A s tys ws H locs) (isC isR isT : List Nat) (hM : Cv l y wsY rm (.ref b :: As) D tysC w u0 K) (hC : isC.map (fun i => ws[i]?) = (w u0).map some) (hR : isR.map (fun i => ws[i]?) = wr.map some) (hnC : va_nd isC = true) (hn : va_nd isR = true) (hdis : ∀ i ∈ isR, i ∉ isC) (hT : isT.filterMap (fun i => tys[i]?) = tysC)
    (cw : CallW R s args own Cn index y bytes maxL ret wsY rm 0 0 n) {q0 ci : Nat} {fs : List Value} {T : u_T} {N : Nat} (hrc : vwCl[ci]? = some (Cn, T, N)) (hre : ws[q0]? = some (b, .inr (ci, fs))) (hlen : As.length = n) (hsize : ls.size = nL) (hroom : (rest.map fun v => v.category).sum ≤ 8) (hdg : decode cc pc = .ok (.invokevirtual index, 3)) (hf : cells ≤ R.cells ∧ slots ≤ R.slots)
    (kk : ∀ (u : S) (H1 : Heap) (locs1 : List Loc), K u → Wd D A s tys (wr ++ w u) H1 locs1 → W p l e R s m args below meth c H1 locs1 cells slots Q (F0 m (pc + 3) ls rest)) {st : List Value} (hst : st = As.reverse ++ .ref b :: rest) : W p l e R s m args below meth c H locs cells slots Q (F0 m pc ls st) := by
  subst hst
  obtain ⟨⟨hPc, hDc, hKc⟩, hFc⟩ := wd_cut hw isC hnC hC isT hT
  exact va_callv (va_runV (As := As) (rest := rest) C (hM H.size) cw ⟨Cpre_blind, va_recv hw.1 hw.2.1 hrc hre, fun U hU hW => ⟨rfl, by rw [hU], by rw [hU]; exact hPc, va_K.moved hW.alike hKc, hDc.weaken (fun _ _ _ _ => trivial), EXs.warm hW hU hw.2.2.2.1 hFc hw.2.2.2.2.2⟩⟩ rfl hlen hsize rfl (lv_room hroom) hdg hf) hw.2.2.2.1 (fun q _ h => hFc q h) hFc
    (fun u t H1 locs1 ht hvm hk hB hz1 hk1 hS => kk u H1 locs1 hk (wd_back hw isC isR hC hR hn hdis hFc ht hB.1 hB.2.2 hk1 hS))
theorem wd_Vr {K : Nat → S → Prop} {hh : Nat → Nat} (C : CallFix p m c cc nL s args Ts own) (hw : Wd D A s tys ws H locs) (isC isR isT : List Nat) (hM : Cr l y wsY rm (.ref b :: As) D tysC w hh u0 K) (hC : isC.map (fun i => ws[i]?) = (w u0).map some) (hR : isR.map (fun i => ws[i]?) = wr.map some) (hnC : va_nd isC = true) (hn : va_nd isR = true) (hdis : ∀ i ∈ isR, i ∉ isC) (hT : isT.filterMap (fun i => tys[i]?) = tysC)
    (cw : CallW R s args own Cn index y bytes maxL ret wsY rm 0 0 n) {q0 ci : Nat} {fs : List Value} {T : u_T} {N : Nat} (hrc : vwCl[ci]? = some (Cn, T, N)) (hre : ws[q0]? = some (b, .inr (ci, fs))) (hlen : As.length = n) (hsize : ls.size = nL) (hroom : (rest.map fun v => v.category).sum ≤ 8) (hdg : decode cc pc = .ok (.invokevirtual index, 3)) (hf : cells ≤ R.cells ∧ slots ≤ R.slots)
    (kk : ∀ (r : Nat) (u : S) (H1 : Heap) (locs1 : List Loc), K r u → Wd D A s tys (wr ++ w u) H1 locs1 → W p l e R s m args below meth c H1 locs1 cells slots Q (F0 m (pc + 3) ls (.ref (hh r) :: rest))) {st : List Value} (hst : st = As.reverse ++ .ref b :: rest) : W p l e R s m args below meth c H locs cells slots Q (F0 m pc ls st) := by
  subst hst
  obtain ⟨⟨hPc, hDc, hKc⟩, hFc⟩ := wd_cut hw isC hnC hC isT hT
  refine va_callr (va_runV (As := As) (rest := rest) C (hM H.size) cw ⟨Cpre_blind, va_recv hw.1 hw.2.1 hrc hre, fun U hU hW => ⟨rfl, by rw [hU], by rw [hU]; exact hPc, va_K.moved hW.alike hKc, hDc.weaken (fun _ _ _ _ => trivial), EXs.warm hW hU hw.2.2.2.1 hFc hw.2.2.2.2.2⟩⟩ rfl hlen hsize rfl (lv_room hroom) hdg hf) hw.2.2.2.1 (fun q _ h => hFc q h) hFc
    (fun u ra t H1 locs1 ht hvm hk hB hz1 hk1 hS => ?_)
  obtain ⟨rfl, hB⟩ := hB
  exact kk u.1 u.2 H1 locs1 hk (wd_back hw isC isR hC hR hn hdis hFc ht hB.1 hB.2.2 hk1 hS)
/-- a static method without a world -/
theorem wd_Si {K : Int32 → Unit → Prop} (C : CallFix p m c cc nL s args Ts own) (hw : Wd D A s tys ws H locs) (hM : Ci l y wsY rm As D [] (fun _ : Unit => []) () K)
    (cw : CallB R s args own index y bytes maxL ret wsY rm 0 0 n ∧ (Cond.static y).before args s = true) (hlen : As.length = n) (hsize : ls.size = nL) (hroom : (rest.map fun v => v.category).sum ≤ 8) (hdg : decode cc pc = .ok (.invokestatic index, 3)) (hf : cells ≤ R.cells ∧ slots ≤ R.slots)
    (kk : ∀ (r : Int32) (H1 : Heap) (locs1 : List Loc), K r () → Wd D A s tys ws H1 locs1 → W p l e R s m args below meth c H1 locs1 cells slots Q (F0 m (pc + 3) ls (.int r :: rest))) {st : List Value} (hst : st = As.reverse ++ rest) : W p l e R s m args below meth c H locs cells slots Q (F0 m pc ls st) := by
  subst hst
  have hFc : ∀ q, va_A [] H.size q → A q := fun q h => by
    rcases h with ⟨k, e, h⟩ | h
    · simp at h
    · exact hw.2.2.2.2.1 q (Nat.le_trans hw.2.2.2.1.1 h)
  refine va_calli (va_runS (As := As) (rest := rest) C (hM H.size) cw ⟨Cpre_blind, fun U hU hW => ⟨rfl, by rw [hU], fun k q h => by simp at h, ⟨(va_K.moved hW.alike hw.1).1, fun k q h => by simp at h⟩, ⟨fun i j x y h => by simp at h, fun k q h => by simp at h⟩, EXs.warm hW hU hw.2.2.2.1 hFc hw.2.2.2.2.2⟩⟩ rfl hlen hsize rfl (lv_room hroom) hdg hf) hw.2.2.2.1 (fun q _ h => hFc q h) hFc
    (fun r u t H1 locs1 ht hvm hk hB hz1 hk1 hS => kk r H1 locs1 hk ⟨hw.1, ?_, hw.2.2.1, hS, hw.2.2.2.2⟩)
  refine hw.2.1.kept (fun k q h => hk1 q.1 (hw.2.1 k q h).lt (fun h2 => ?_))
  rcases h2 with ⟨k2, e2, h2⟩ | h2
  · simp at h2
  · exact absurd (hw.2.1 k q h).lt (Nat.not_lt.mpr h2)
end Calls
end GR
