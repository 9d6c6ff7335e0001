/-! The law's world: the class's cells, the reference's, the answer's array. -/
abbrev lS : Type := cS × mS × (Nat → Int64)
def lW (h : Nat → Nat) (o : Nat) (hm : Nat → Nat) (q : Nat) (cI cZ cL cF cM : ClassId) (F : Nat → Nat → Int32) (L : Nat → Nat → Int64) (r : Nat → Nat → Nat) (f : Nat → Int32) (g : Nat → Nat → Int32) (ou : Nat → Int64) : va_W := cW h cI cL cF cM F L r ++ (mW o hm cI cZ f g ++ [(q, .inl (cL, 1, .inr (.inl ou)))])
abbrev lWu (h : Nat → Nat) (o : Nat) (hm : Nat → Nat) (q : Nat) (cI cZ cL cF cM : ClassId) (u : lS) : va_W := lW h o hm q cI cZ cL cF cM u.1.1 u.1.2.1 u.1.2.2 u.2.1.1 u.2.1.2 u.2.2
section LR
variable {p : Program} {l : Launch} {e : Env} {R : Room} {s : State} {m : MethodId} {args : Array Value} {below : List Frame} {meth : Method} {c : Code} {H : Heap} {locs : List Loc} {cells slots : Nat} {Q : State → Prop}
variable {cc : ByteArray} {pc : Nat} {ls : Array Slot} {rest : List Value} {D : va_G} {A : Nat → Prop} {nL : Nat} {Ts : List Cond} {own : String} {h : Nat → Nat} {o : Nat} {hm : Nat → Nat} {q : Nat} {cI cZ cL cF cM : ClassId} {F : Nat → Nat → Int32} {L : Nat → Nat → Int64} {r : Nat → Nat → Nat} {f : Nat → Int32} {g : Nat → Nat → Int32} {ou : Nat → Int64} {index n : Nat}
theorem mW_len : (mW o hm cI cZ f g).length = 36 := rfl
theorem lW_x : (lW h o hm q cI cZ cL cF cM F L r f g ou)[0]? = some (h 0, .inr (10, fl10 h 0 (F 0) (L 0) (r 0))) := by
  unfold lW
  rw [List.getElem?_append_left (by rw [cW_len]; decide), cW_get (by decide), ce10 (by decide)]
theorem lW_out : (lW h o hm q cI cZ cL cF cM F L r f g ou)[140]? = some (q, .inl (cL, 1, .inr (.inl ou))) := by
  unfold lW
  rw [List.getElem?_append_right (by rw [cW_len]; decide), cW_len]
  rfl
theorem lW_outs {y : Nat → Int64} : (lW h o hm q cI cZ cL cF cM F L r f g ou).set 140 (q, .inl (cL, 1, .inr (.inl y))) = lW h o hm q cI cZ cL cF cM F L r f g y := by
  unfold lW
  rw [List.set_append_right _ _ (by rw [cW_len]; decide), cW_len]
  rfl
section LCalls
variable {S : Type} {w : S → va_W} {u0 : S} {y : MethodName} {wsY : List Cond} {rm : Room} {As : List Value} {tys tysC : List (ClassId × FieldType)} {Cn : String} {maxL : Nat} {bytes : ByteArray} {ret : Option FieldType} {b : Nat} {wr : va_W}
theorem w_Vi {K : Int32 → S → Prop} (C : CallFix p m c cc nL s args Ts own) (hw : Wd D A s tys (w u0 ++ wr) H locs) (isT : List Nat) (hT : isT.filterMap (fun i => tys[i]?) = tysC) (hM : Ci l y wsY rm (.ref b :: As) D tysC w u0 K) (cw : CallW R s args own Cn index y bytes maxL ret wsY rm 0 0 n) {q0 ci N : Nat} {T : u_T} {fs : List Value} (hrc : vwCl[ci]? = some (Cn, T, N)) (hre : (w u0 ++ wr)[q0]? = some (b, .inr (ci, fs))) (hlen : As.length = n) (hsize : ls.size = nL) (hroom : (rest.map fun v => v.category).sum ≤ 8) (hdg : decode cc pc = .ok (.invokevirtual index, 3)) (hf : cells ≤ R.cells ∧ slots ≤ R.slots)
    (kk : ∀ (r : Int32) (u : S) (H1 : Heap) (locs1 : List Loc), K r u → Wd D A s tys (w u ++ wr) H1 locs1 → W p l e R s m args below meth c H1 locs1 cells slots Q (F0 m (pc + 3) ls (.int r :: rest))) {st : List Value} (hst : st = As.reverse ++ .ref b :: rest) : W p l e R s m args below meth c H locs cells slots Q (F0 m pc ls st) := by
  subst hst
  obtain ⟨⟨hPc, hDc⟩, hFc⟩ := i_cut hw
  exact va_calli (va_runV (As := As) (rest := rest) C (hM H.size) cw ⟨Cpre_blind, va_recv hw.1 hw.2.1 hrc hre, fun U hU hW => ⟨rfl, by rw [hU], by rw [hU]; exact hPc, va_K.moved hW.alike (hw.1.sub isT hT), hDc.weaken (fun _ _ _ _ => trivial), EXs.warm hW hU hw.2.2.2.1 hFc hw.2.2.2.2.2⟩⟩ rfl hlen hsize rfl (lv_room hroom) hdg hf) hw.2.2.2.1 (fun q _ h => hFc q h) hFc
    (fun r u t H1 locs1 ht hvm hk hB hz1 hk1 hS => kk r u H1 locs1 hk (i_back hw ht hB.1 hB.2.2 hk1 hFc hS))
end LCalls
variable {y : MethodName} {wsY : List Cond} {rm : Room} {As : List Value} {maxL : Nat} {bytes : ByteArray} {ret : Option FieldType}
theorem lx_Vi {K : Int32 → cS → Prop} (C : CallFix p m c cc nL s args Ts own) (hw : Wd D A s (T0 cI cZ cL cF cM) (lW h o hm q cI cZ cL cF cM F L r f g ou) H locs) (hM : Ci l y wsY rm (.ref (h 0) :: As) D (cT cI cL cF cM) (cWu h cI cL cF cM) (F, L, r) K) (cw : CallW R s args own RX10 index y bytes maxL ret wsY rm 0 0 n) (hlen : As.length = n) (hsize : ls.size = nL) (hroom : (rest.map fun v => v.category).sum ≤ 8) (hdg : decode cc pc = .ok (.invokevirtual index, 3)) (hf : cells ≤ R.cells ∧ slots ≤ R.slots)
    (kk : ∀ (r1 : Int32) (u : cS) (H1 : Heap) (locs1 : List Loc), K r1 u → Wd D A s (T0 cI cZ cL cF cM) (lW h o hm q cI cZ cL cF cM u.1 u.2.1 u.2.2 f g ou) H1 locs1 → W p l e R s m args below meth c H1 locs1 cells slots Q (F0 m (pc + 3) ls (.int r1 :: rest))) {st : List Value} (hst : st = As.reverse ++ .ref (h 0) :: rest) : W p l e R s m args below meth c H locs cells slots Q (F0 m pc ls st) :=
  w_Vi (w := cWu h cI cL cF cM) (u0 := (F, L, r)) C hw [0, 2, 3, 4] rfl hM cw (q0 := 0) (ci := 10) rfl lW_x hlen hsize hroom hdg hf kk hst
theorem lm_Vi {K : Int32 → mS → Prop} (C : CallFix p m c cc nL s args Ts own) (hw : Wd D A s (T0 cI cZ cL cF cM) (lW h o hm q cI cZ cL cF cM F L r f g ou) H locs) (hM : Ci l y wsY rm (.ref o :: As) D (mT cI cZ) (mWu o hm cI cZ) (f, g) K) (cw : CallW R s args own RX11 index y bytes maxL ret wsY rm 0 0 n) (hlen : As.length = n) (hsize : ls.size = nL) (hroom : (rest.map fun v => v.category).sum ≤ 8) (hdg : decode cc pc = .ok (.invokevirtual index, 3)) (hf : cells ≤ R.cells ∧ slots ≤ R.slots)
    (kk : ∀ (r1 : Int32) (u : mS) (H1 : Heap) (locs1 : List Loc), K r1 u → Wd D A s (T0 cI cZ cL cF cM) (lW h o hm q cI cZ cL cF cM F L r u.1 u.2 ou) H1 locs1 → W p l e R s m args below meth c H1 locs1 cells slots Q (F0 m (pc + 3) ls (.int r1 :: rest))) {st : List Value} (hst : st = As.reverse ++ .ref o :: rest) : W p l e R s m args below meth c H locs cells slots Q (F0 m pc ls st) :=
  w_Vi (w := mWu o hm cI cZ) (u0 := (f, g)) C (hw.permP (List.perm_append_comm_assoc _ _ _)) [0, 1] rfl hM cw (q0 := 0) (ci := 11) rfl rfl hlen hsize hroom hdg hf (fun r1 u H1 locs1 hk hw => kk r1 u H1 locs1 hk (hw.permP (List.perm_append_comm_assoc _ _ _))) hst
theorem l_out (C : CallFix p m c cc nL s args Ts own) (hw : Wd D A s (T0 cI cZ cL cF cM) (lW h o hm q cI cZ cL cF cM F L r f g ou) H locs) {i : Int32} (hin : vp_in i 1) (hdg : decode cc pc = .ok (.laload, 1))
    (kk : W p l e R s m args below meth c H locs cells slots Q (F0 m (pc + 1) ls (.long (ou (ix i)) :: rest))) : W p l e R s m args below meth c H locs cells slots Q (F0 m pc ls (.int i :: .ref q :: rest)) :=
  wd_lal C hw 140 2 lW_out rfl hin hdg kk
end LR
/-- what a return of the law may use -/
def LRt (cells slots : Nat) (p : Program) (l : Launch) (e : Env) (R : Room) (s : State) (m : MethodId) (args : Array Value) (below : List Frame) (meth : Method) (c : Code) (cc : ByteArray) (D : va_G) (A : Nat → Prop) (tys : List (ClassId × FieldType)) {S : Type} (w : S → va_W) (K : Int32 → S → Prop) (Q : State → Prop) : Prop :=
  ∀ (pc : Nat) (ls : Array Slot) (r : Int32) (u : S) (H : Heap) (locs : List Loc), decode cc pc = .ok (.ireturn, 1) → narrow .boolean (.int r) = .int r → K r u → Wd D A s tys (w u) H locs → W p l e R s m args below meth c H locs cells slots Q (F0 m pc ls [.int r])
