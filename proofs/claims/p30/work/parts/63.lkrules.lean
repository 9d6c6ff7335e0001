/-! A call of the law's own look out of the law. -/
theorem rmc {a : Nat} (h : a ≤ 601024) : a ≤ room_1.cells := h
theorem rms {a : Nat} (h : a ≤ 7293034) : a ≤ room_1.slots := h
theorem wl_h : Cond.methodLink RL 75 yL_look ∈ WL := WL_in 1340 (by decide +kernel) (by decide +kernel)
theorem wl_i : Cond.static yL_look ∈ WL := WL_in 1341 (by decide +kernel) (by decide +kernel)
theorem wl_j : Cond.codeWith yL_look cL_look 5 (some .int) hhL ∈ WL := WL_in 1342 (by decide +kernel) (by decide +kernel)
theorem wl_k : Cond.initialized yL_look.cls ∈ WL := WL_in 113 (by decide +kernel) (by decide +kernel)
theorem cdL_look : yL_look.cls ≠ "java/lang/invoke/MethodHandle" ∧ yL_look.cls ≠ "java/lang/invoke/VarHandle" ∧ (parseMethodDescriptor yL_look.desc).map (fun d => d.parameters.length) = some 4 := by decide +kernel
section LK
variable {p : Program} {l : Launch} {e : Env} {R : Room} {s : State} {m : MethodId} {args : Array Value} {below : List Frame} {meth : Method} {c : Code} {H : Heap} {locs : List Loc} {cells slots : Nat} {Q : State → Prop}
variable {cc : ByteArray} {pc : Nat} {ls : Array Slot} {rest : List Value} {D : va_G} {A : Nat → Prop} {nL : Nat} {Ts : List Cond} {own : String} {h : Nat → Nat} {o : Nat} {hm : Nat → Nat} {q : Nat} {cI cZ cL cF cM : ClassId} {F : Nat → Nat → Int32} {L : Nat → Nat → Int64} {r : Nat → Nat → Nat} {f : Nat → Int32} {g : Nat → Nat → Int32} {ou : Nat → Int64} {index : Nat} {x1 x2 : Int32}
theorem lk_Si {K : Int32 → kS → Prop} (C : CallFix p m c cc nL s args Ts own) (hT : EXt s) (hZ : Zs A s s.heap) (hw : Wd D A s (T0 cI cZ cL cF cM) (lW h o hm q cI cZ cL cF cM F L r f g ou) H locs) (hM : Ck l yL_look wsL_look rmL_look [.ref (h 0), .int x1, .int x2, .ref q] D (cT cI cL cF cM) (kWu h q cI cL cF cM) ((F, L, r), ou) K) (cw : vx_CSW R s args own index yL_look cL_look 5 (some .int) hhL wsL_look rmL_look 1 6 4) (hsize : ls.size = nL) (hroom : (rest.map fun v => v.category).sum ≤ 8) (hdg : decode cc pc = .ok (.invokestatic index, 3)) (hf : cells + 1 ≤ R.cells ∧ slots + 6 ≤ R.slots)
    (kk : ∀ (r1 : Int32) (u : kS) (H1 : Heap) (locs1 : List Loc), K r1 u → Wd D A s (T0 cI cZ cL cF cM) (lW h o hm q cI cZ cL cF cM u.1.1 u.1.2.1 u.1.2.2 f g u.2) H1 locs1 → W p l e R s m args below meth c H1 locs1 (cells + 1) (slots + 6) Q (F0 m (pc + 3) ls (.int r1 :: rest))) : W p l e R s m args below meth c H locs cells slots Q (F0 m pc ls (.ref q :: .int x2 :: .int x1 :: .ref (h 0) :: rest)) := by
  have pm : ∀ (F : Nat → Nat → Int32) (L : Nat → Nat → Int64) (r : Nat → Nat → Nat) (ou : Nat → Int64), (lW h o hm q cI cZ cL cF cM F L r f g ou).Perm (kW h q cI cL cF cM F L r ou ++ mW o hm cI cZ f g) := fun F L r ou => by
    unfold lW kW
    rw [List.append_assoc]
    exact List.Perm.append_left _ List.perm_append_comm
  have hw' := hw.permP (pm F L r ou)
  obtain ⟨⟨hPc, hDc⟩, hFc⟩ := i_cut hw'
  exact va_calli (vx_runSW (As := [.ref (h 0), .int x1, .int x2, .ref q]) (rest := rest) C (hM H.size) cw ⟨CpreX_blind, fun U hU hW => ⟨rfl, ⟨by rw [hU], by rw [hU]; exact hPc, va_K.moved hW.alike (hw.1.sub [0, 2, 3, 4] rfl), hDc.weaken (fun _ _ _ _ => trivial), EXs.warm hW hU hw.2.2.2.1 (fun q h => hFc q h) hw.2.2.2.2.2⟩, EXt.warm hW hT, by rw [hU]; exact ((hZ.kept hw.2.2.2.1.2.1).narrow (fun q h => hFc q h)).moved hW.alike⟩⟩ rfl rfl hsize rfl (lv_room hroom) hdg hf) hw'.2.2.2.1 (fun q _ h => hFc q h) hFc
    (fun r1 u t H1 locs1 ht hvm hk hB hz1 hk1 hS => kk r1 u H1 locs1 hk ((i_back hw' ht hB.1 hB.2.2 hk1 hFc hS).permP (pm u.1.1 u.1.2.1 u.1.2.2 u.2).symm))
end LK
