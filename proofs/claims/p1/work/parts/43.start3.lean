/-! What calls may use beside words, at the start. -/
theorem ws_str {s : State} {args : Array Value} {own tx : String} {k : Nat} (h1 : (Cond.stringRef own k tx).before args s = true) (h2 : (Cond.exactly (.string own k) "java/lang/String").before args s = true) : ∃ q, vk_R own k tx q s := by
  obtain ⟨a, c, cell, kc, he, -⟩ := Cond.exactly_spec h2
  exact ⟨a, vk_R.of h1 he⟩
def Mx : List Cond := lw_tbl.filter (fun w => match w with | .methodLinkNest .. => true | _ => false)
theorem ws_E {s : State} {args : Array Value} (hts : ∀ w ∈ lw_tbl, w.before args s = true) (hg : (Jvm.Cond.and given_1 narrow_1).before args s = true) : EXs s := by
  refine ⟨ws_str (lw_at hts 636 (by decide +kernel)) (flat_of_before _ hg _ (by decide +kernel)), ws_str (lw_at hts 824 (by decide +kernel)) (flat_of_before _ hg _ (by decide +kernel)), ws_str (lw_at hts 1389 (by decide +kernel)) (flat_of_before _ hg _ (by decide +kernel)), ws_str (lw_at hts 1433 (by decide +kernel)) (flat_of_before _ hg _ (by decide +kernel)), fun x hx => ?_, va_AO.of (lw_at hts 463 (by decide +kernel)), va_AO.of (lw_at hts 464 (by decide +kernel))⟩
  have h : ∀ x ∈ EXq, Cond.methodLinkNest x.1 x.2.1 x.2.2 RX10 ∈ Mx := by decide +kernel
  exact va_Nw.of rfl (hts _ (List.mem_filter.mp (h x hx)).1)
