set_option maxHeartbeats 1000000 in
theorem s_X11_actRead {w h : Nat} {f0 : Nat → Int32} {g0 : Nat → Nat → Int32} {f : Nat → Int32} {g : Nat → Nat → Int32} {x1 : Int32} {K : Int32 → ((Nat → Int32) × (Nat → Nat → Int32)) → Prop} (hV : V w h f0 g0 f g) (hp : 0 ≤ x1 ∧ x1 < 60) (hK : ∀ v : Int32, ∀ u : mS, V w h f0 g0 u.1 u.2 → isB v → (v = 0 ∨ u.2 14 (ix x1) = g 14 (ix x1) + 1) → K v u) : wpX11_actRead f g x1 K := by
  have e14_i := hV.g14 (i := ix x1)
  unfold wpX11_actRead
  unfold wpX11_actRead_b0
  refine ⟨fun c0 => ?_, fun c0 => ?_⟩
  · unfold wpX11_actRead_b35
    refine s_X11_wrong hV (fun r37 f37 hV37 hb37 hp37 hk37 => ?_)
    try dsimp only
    have e14_37 := hV37.g14 (i := ix x1)
    refine ⟨(by first | exact Or.inl rfl | exact Or.inr rfl | assumption), ?_⟩
    exact hK _ _ hV37 (by first | exact Or.inl rfl | exact Or.inr rfl | assumption) (by first | assumption | grind | (simp [pt_r, upd_r] <;> grind))
  · refine ⟨fun c1 => ?_, fun c1 => ?_⟩
    · unfold wpX11_actRead_b41
      refine ⟨vI (c := 60) rfl (by first | assumption | grind | (simp [pt_r, upd_r] <;> grind)) (by first | assumption | grind | (simp [pt_r, upd_r] <;> grind)), ?_⟩
      refine ⟨fun c2 => ?_, fun c2 => ?_⟩
      · refine ⟨vI (c := 60) rfl (by first | assumption | grind | (simp [pt_r, upd_r] <;> grind)) (by first | assumption | grind | (simp [pt_r, upd_r] <;> grind)), ?_⟩
        refine ⟨vI (c := 720) rfl (by first | assumption | grind | (simp [pt_r, upd_r] <;> grind)) (by first | assumption | grind | (simp [pt_r, upd_r] <;> grind)), ?_⟩
        refine ⟨vI (c := 720) rfl (by first | assumption | grind | (simp [pt_r, upd_r] <;> grind)) (by first | assumption | grind | (simp [pt_r, upd_r] <;> grind)), ?_⟩
        refine s_X11_take (Vg (k := 19) rfl (Vg (k := 18) rfl hV)) (fun f88 hV88 hk88 => ?_)
        try dsimp only
        have e14_88 := hV88.g14 (i := ix x1)
        refine ⟨vI (c := 720) rfl (by first | assumption | grind | (simp [pt_r, upd_r] <;> grind)) (by first | assumption | grind | (simp [pt_r, upd_r] <;> grind)), ?_⟩
        refine ⟨fun c3 => ?_, fun c3 => ?_⟩
        · unfold wpX11_actRead_b124
          refine ⟨vI (c := 720) rfl (by first | assumption | grind | (simp [pt_r, upd_r] <;> grind)) (by first | assumption | grind | (simp [pt_r, upd_r] <;> grind)), ?_⟩
          refine ⟨fun c4 => ?_, fun c4 => ?_⟩
          · unfold wpX11_actRead_b142
            refine s_X11_numberRead hV88 (fun r142 f142 hV142 hb142 hk142 => ?_)
            try dsimp only
            have e14_142 := hV142.g14 (i := ix x1)
            refine ⟨fun c5 => ?_, fun c5 => ?_⟩
            · refine ⟨vI (c := 720) rfl (by first | assumption | grind | (simp [pt_r, upd_r] <;> grind)) (by first | assumption | grind | (simp [pt_r, upd_r] <;> grind)), ?_⟩
              refine s_X11_take (Vg (k := 19) rfl hV142) (fun f161 hV161 hk161 => ?_)
              try dsimp only
              have e14_161 := hV161.g14 (i := ix x1)
              unfold wpX11_actRead_b164
              refine ⟨vI (c := 60) rfl (by first | assumption | grind | (simp [pt_r, upd_r] <;> grind)) (by first | assumption | grind | (simp [pt_r, upd_r] <;> grind)), ?_⟩
              refine ⟨vI (c := 60) rfl (by first | assumption | grind | (simp [pt_r, upd_r] <;> grind)) (by first | assumption | grind | (simp [pt_r, upd_r] <;> grind)), ?_⟩
              exact hK _ _ (Vg14 (by first | assumption | grind | (simp [pt_r, upd_r] <;> grind)) hV161) (by first | exact Or.inl rfl | exact Or.inr rfl | assumption) (by first | assumption | grind | (simp [pt_r, upd_r] <;> grind))
            · exact hK _ _ hV142 (by first | exact Or.inl rfl | exact Or.inr rfl | assumption) (by first | assumption | grind | (simp [pt_r, upd_r] <;> grind))
          · unfold wpX11_actRead_b142
            refine s_X11_numberRead hV88 (fun r142 f142 hV142 hb142 hk142 => ?_)
            try dsimp only
            have e14_142 := hV142.g14 (i := ix x1)
            refine ⟨fun c5 => ?_, fun c5 => ?_⟩
            · refine ⟨vI (c := 720) rfl (by first | assumption | grind | (simp [pt_r, upd_r] <;> grind)) (by first | assumption | grind | (simp [pt_r, upd_r] <;> grind)), ?_⟩
              refine s_X11_take (Vg (k := 19) rfl hV142) (fun f161 hV161 hk161 => ?_)
              try dsimp only
              have e14_161 := hV161.g14 (i := ix x1)
              unfold wpX11_actRead_b164
              refine ⟨vI (c := 60) rfl (by first | assumption | grind | (simp [pt_r, upd_r] <;> grind)) (by first | assumption | grind | (simp [pt_r, upd_r] <;> grind)), ?_⟩
              refine ⟨vI (c := 60) rfl (by first | assumption | grind | (simp [pt_r, upd_r] <;> grind)) (by first | assumption | grind | (simp [pt_r, upd_r] <;> grind)), ?_⟩
              exact hK _ _ (Vg14 (by first | assumption | grind | (simp [pt_r, upd_r] <;> grind)) hV161) (by first | exact Or.inl rfl | exact Or.inr rfl | assumption) (by first | assumption | grind | (simp [pt_r, upd_r] <;> grind))
            · exact hK _ _ hV142 (by first | exact Or.inl rfl | exact Or.inr rfl | assumption) (by first | assumption | grind | (simp [pt_r, upd_r] <;> grind))
        · refine ⟨vI (c := 720) rfl (by first | assumption | grind | (simp [pt_r, upd_r] <;> grind)) (by first | assumption | grind | (simp [pt_r, upd_r] <;> grind)), ?_⟩
          refine ⟨fun c4 => ?_, fun c4 => ?_⟩
          · unfold wpX11_actRead_b124
            refine ⟨vI (c := 720) rfl (by first | assumption | grind | (simp [pt_r, upd_r] <;> grind)) (by first | assumption | grind | (simp [pt_r, upd_r] <;> grind)), ?_⟩
            refine ⟨fun c5 => ?_, fun c5 => ?_⟩
            · unfold wpX11_actRead_b142
              refine s_X11_numberRead hV88 (fun r142 f142 hV142 hb142 hk142 => ?_)
              try dsimp only
              have e14_142 := hV142.g14 (i := ix x1)
              refine ⟨fun c6 => ?_, fun c6 => ?_⟩
              · refine ⟨vI (c := 720) rfl (by first | assumption | grind | (simp [pt_r, upd_r] <;> grind)) (by first | assumption | grind | (simp [pt_r, upd_r] <;> grind)), ?_⟩
                refine s_X11_take (Vg (k := 19) rfl hV142) (fun f161 hV161 hk161 => ?_)
                try dsimp only
                have e14_161 := hV161.g14 (i := ix x1)
                unfold wpX11_actRead_b164
                refine ⟨vI (c := 60) rfl (by first | assumption | grind | (simp [pt_r, upd_r] <;> grind)) (by first | assumption | grind | (simp [pt_r, upd_r] <;> grind)), ?_⟩
                refine ⟨vI (c := 60) rfl (by first | assumption | grind | (simp [pt_r, upd_r] <;> grind)) (by first | assumption | grind | (simp [pt_r, upd_r] <;> grind)), ?_⟩
                exact hK _ _ (Vg14 (by first | assumption | grind | (simp [pt_r, upd_r] <;> grind)) hV161) (by first | exact Or.inl rfl | exact Or.inr rfl | assumption) (by first | assumption | grind | (simp [pt_r, upd_r] <;> grind))
              · exact hK _ _ hV142 (by first | exact Or.inl rfl | exact Or.inr rfl | assumption) (by first | assumption | grind | (simp [pt_r, upd_r] <;> grind))
            · unfold wpX11_actRead_b142
              refine s_X11_numberRead hV88 (fun r142 f142 hV142 hb142 hk142 => ?_)
              try dsimp only
              have e14_142 := hV142.g14 (i := ix x1)
              refine ⟨fun c6 => ?_, fun c6 => ?_⟩
              · refine ⟨vI (c := 720) rfl (by first | assumption | grind | (simp [pt_r, upd_r] <;> grind)) (by first | assumption | grind | (simp [pt_r, upd_r] <;> grind)), ?_⟩
                refine s_X11_take (Vg (k := 19) rfl hV142) (fun f161 hV161 hk161 => ?_)
                try dsimp only
                have e14_161 := hV161.g14 (i := ix x1)
                unfold wpX11_actRead_b164
                refine ⟨vI (c := 60) rfl (by first | assumption | grind | (simp [pt_r, upd_r] <;> grind)) (by first | assumption | grind | (simp [pt_r, upd_r] <;> grind)), ?_⟩
                refine ⟨vI (c := 60) rfl (by first | assumption | grind | (simp [pt_r, upd_r] <;> grind)) (by first | assumption | grind | (simp [pt_r, upd_r] <;> grind)), ?_⟩
                exact hK _ _ (Vg14 (by first | assumption | grind | (simp [pt_r, upd_r] <;> grind)) hV161) (by first | exact Or.inl rfl | exact Or.inr rfl | assumption) (by first | assumption | grind | (simp [pt_r, upd_r] <;> grind))
              · exact hK _ _ hV142 (by first | exact Or.inl rfl | exact Or.inr rfl | assumption) (by first | assumption | grind | (simp [pt_r, upd_r] <;> grind))
          · refine ⟨vI (c := 720) rfl (by first | assumption | grind | (simp [pt_r, upd_r] <;> grind)) (by first | assumption | grind | (simp [pt_r, upd_r] <;> grind)), ?_⟩
            refine ⟨fun c5 => ?_, fun c5 => ?_⟩
            · unfold wpX11_actRead_b164
              refine ⟨vI (c := 60) rfl (by first | assumption | grind | (simp [pt_r, upd_r] <;> grind)) (by first | assumption | grind | (simp [pt_r, upd_r] <;> grind)), ?_⟩
              refine ⟨vI (c := 60) rfl (by first | assumption | grind | (simp [pt_r, upd_r] <;> grind)) (by first | assumption | grind | (simp [pt_r, upd_r] <;> grind)), ?_⟩
              exact hK _ _ (Vg14 (by first | assumption | grind | (simp [pt_r, upd_r] <;> grind)) hV88) (by first | exact Or.inl rfl | exact Or.inr rfl | assumption) (by first | assumption | grind | (simp [pt_r, upd_r] <;> grind))
            · unfold wpX11_actRead_b124
              refine ⟨vI (c := 720) rfl (by first | assumption | grind | (simp [pt_r, upd_r] <;> grind)) (by first | assumption | grind | (simp [pt_r, upd_r] <;> grind)), ?_⟩
              refine ⟨fun c6 => ?_, fun c6 => ?_⟩
              · unfold wpX11_actRead_b142
                refine s_X11_numberRead hV88 (fun r142 f142 hV142 hb142 hk142 => ?_)
                try dsimp only
                have e14_142 := hV142.g14 (i := ix x1)
                refine ⟨fun c7 => ?_, fun c7 => ?_⟩
                · refine ⟨vI (c := 720) rfl (by first | assumption | grind | (simp [pt_r, upd_r] <;> grind)) (by first | assumption | grind | (simp [pt_r, upd_r] <;> grind)), ?_⟩
                  refine s_X11_take (Vg (k := 19) rfl hV142) (fun f161 hV161 hk161 => ?_)
                  try dsimp only
                  have e14_161 := hV161.g14 (i := ix x1)
                  unfold wpX11_actRead_b164
                  refine ⟨vI (c := 60) rfl (by first | assumption | grind | (simp [pt_r, upd_r] <;> grind)) (by first | assumption | grind | (simp [pt_r, upd_r] <;> grind)), ?_⟩
                  refine ⟨vI (c := 60) rfl (by first | assumption | grind | (simp [pt_r, upd_r] <;> grind)) (by first | assumption | grind | (simp [pt_r, upd_r] <;> grind)), ?_⟩
                  exact hK _ _ (Vg14 (by first | assumption | grind | (simp [pt_r, upd_r] <;> grind)) hV161) (by first | exact Or.inl rfl | exact Or.inr rfl | assumption) (by first | assumption | grind | (simp [pt_r, upd_r] <;> grind))
                · exact hK _ _ hV142 (by first | exact Or.inl rfl | exact Or.inr rfl | assumption) (by first | assumption | grind | (simp [pt_r, upd_r] <;> grind))
              · unfold wpX11_actRead_b142
                refine s_X11_numberRead hV88 (fun r142 f142 hV142 hb142 hk142 => ?_)
                try dsimp only
                have e14_142 := hV142.g14 (i := ix x1)
                refine ⟨fun c7 => ?_, fun c7 => ?_⟩
                · refine ⟨vI (c := 720) rfl (by first | assumption | grind | (simp [pt_r, upd_r] <;> grind)) (by first | assumption | grind | (simp [pt_r, upd_r] <;> grind)), ?_⟩
                  refine s_X11_take (Vg (k := 19) rfl hV142) (fun f161 hV161 hk161 => ?_)
                  try dsimp only
                  have e14_161 := hV161.g14 (i := ix x1)
                  unfold wpX11_actRead_b164
                  refine ⟨vI (c := 60) rfl (by first | assumption | grind | (simp [pt_r, upd_r] <;> grind)) (by first | assumption | grind | (simp [pt_r, upd_r] <;> grind)), ?_⟩
                  refine ⟨vI (c := 60) rfl (by first | assumption | grind | (simp [pt_r, upd_r] <;> grind)) (by first | assumption | grind | (simp [pt_r, upd_r] <;> grind)), ?_⟩
                  exact hK _ _ (Vg14 (by first | assumption | grind | (simp [pt_r, upd_r] <;> grind)) hV161) (by first | exact Or.inl rfl | exact Or.inr rfl | assumption) (by first | assumption | grind | (simp [pt_r, upd_r] <;> grind))
                · exact hK _ _ hV142 (by first | exact Or.inl rfl | exact Or.inr rfl | assumption) (by first | assumption | grind | (simp [pt_r, upd_r] <;> grind))
      · refine s_X11_wrong hV (fun r54 f54 hV54 hb54 hp54 hk54 => ?_)
        try dsimp only
        have e14_54 := hV54.g14 (i := ix x1)
        refine ⟨(by first | exact Or.inl rfl | exact Or.inr rfl | assumption), ?_⟩
        exact hK _ _ hV54 (by first | exact Or.inl rfl | exact Or.inr rfl | assumption) (by first | assumption | grind | (simp [pt_r, upd_r] <;> grind))
    · refine ⟨fun c2 => ?_, fun c2 => ?_⟩
      · unfold wpX11_actRead_b35
        refine s_X11_wrong hV (fun r37 f37 hV37 hb37 hp37 hk37 => ?_)
        try dsimp only
        have e14_37 := hV37.g14 (i := ix x1)
        refine ⟨(by first | exact Or.inl rfl | exact Or.inr rfl | assumption), ?_⟩
        exact hK _ _ hV37 (by first | exact Or.inl rfl | exact Or.inr rfl | assumption) (by first | assumption | grind | (simp [pt_r, upd_r] <;> grind))
      · refine ⟨fun c3 => ?_, fun c3 => ?_⟩
        · unfold wpX11_actRead_b41
          refine ⟨vI (c := 60) rfl (by first | assumption | grind | (simp [pt_r, upd_r] <;> grind)) (by first | assumption | grind | (simp [pt_r, upd_r] <;> grind)), ?_⟩
          refine ⟨fun c4 => ?_, fun c4 => ?_⟩
          · refine ⟨vI (c := 60) rfl (by first | assumption | grind | (simp [pt_r, upd_r] <;> grind)) (by first | assumption | grind | (simp [pt_r, upd_r] <;> grind)), ?_⟩
            refine ⟨vI (c := 720) rfl (by first | assumption | grind | (simp [pt_r, upd_r] <;> grind)) (by first | assumption | grind | (simp [pt_r, upd_r] <;> grind)), ?_⟩
            refine ⟨vI (c := 720) rfl (by first | assumption | grind | (simp [pt_r, upd_r] <;> grind)) (by first | assumption | grind | (simp [pt_r, upd_r] <;> grind)), ?_⟩
            refine s_X11_take (Vg (k := 19) rfl (Vg (k := 18) rfl hV)) (fun f88 hV88 hk88 => ?_)
            try dsimp only
            have e14_88 := hV88.g14 (i := ix x1)
            refine ⟨vI (c := 720) rfl (by first | assumption | grind | (simp [pt_r, upd_r] <;> grind)) (by first | assumption | grind | (simp [pt_r, upd_r] <;> grind)), ?_⟩
            refine ⟨fun c5 => ?_, fun c5 => ?_⟩
            · unfold wpX11_actRead_b124
              refine ⟨vI (c := 720) rfl (by first | assumption | grind | (simp [pt_r, upd_r] <;> grind)) (by first | assumption | grind | (simp [pt_r, upd_r] <;> grind)), ?_⟩
              refine ⟨fun c6 => ?_, fun c6 => ?_⟩
              · unfold wpX11_actRead_b142
                refine s_X11_numberRead hV88 (fun r142 f142 hV142 hb142 hk142 => ?_)
                try dsimp only
                have e14_142 := hV142.g14 (i := ix x1)
                refine ⟨fun c7 => ?_, fun c7 => ?_⟩
                · refine ⟨vI (c := 720) rfl (by first | assumption | grind | (simp [pt_r, upd_r] <;> grind)) (by first | assumption | grind | (simp [pt_r, upd_r] <;> grind)), ?_⟩
                  refine s_X11_take (Vg (k := 19) rfl hV142) (fun f161 hV161 hk161 => ?_)
                  try dsimp only
                  have e14_161 := hV161.g14 (i := ix x1)
                  unfold wpX11_actRead_b164
                  refine ⟨vI (c := 60) rfl (by first | assumption | grind | (simp [pt_r, upd_r] <;> grind)) (by first | assumption | grind | (simp [pt_r, upd_r] <;> grind)), ?_⟩
                  refine ⟨vI (c := 60) rfl (by first | assumption | grind | (simp [pt_r, upd_r] <;> grind)) (by first | assumption | grind | (simp [pt_r, upd_r] <;> grind)), ?_⟩
                  exact hK _ _ (Vg14 (by first | assumption | grind | (simp [pt_r, upd_r] <;> grind)) hV161) (by first | exact Or.inl rfl | exact Or.inr rfl | assumption) (by first | assumption | grind | (simp [pt_r, upd_r] <;> grind))
                · exact hK _ _ hV142 (by first | exact Or.inl rfl | exact Or.inr rfl | assumption) (by first | assumption | grind | (simp [pt_r, upd_r] <;> grind))
              · unfold wpX11_actRead_b142
                refine s_X11_numberRead hV88 (fun r142 f142 hV142 hb142 hk142 => ?_)
                try dsimp only
                have e14_142 := hV142.g14 (i := ix x1)
                refine ⟨fun c7 => ?_, fun c7 => ?_⟩
                · refine ⟨vI (c := 720) rfl (by first | assumption | grind | (simp [pt_r, upd_r] <;> grind)) (by first | assumption | grind | (simp [pt_r, upd_r] <;> grind)), ?_⟩
                  refine s_X11_take (Vg (k := 19) rfl hV142) (fun f161 hV161 hk161 => ?_)
                  try dsimp only
                  have e14_161 := hV161.g14 (i := ix x1)
                  unfold wpX11_actRead_b164
                  refine ⟨vI (c := 60) rfl (by first | assumption | grind | (simp [pt_r, upd_r] <;> grind)) (by first | assumption | grind | (simp [pt_r, upd_r] <;> grind)), ?_⟩
                  refine ⟨vI (c := 60) rfl (by first | assumption | grind | (simp [pt_r, upd_r] <;> grind)) (by first | assumption | grind | (simp [pt_r, upd_r] <;> grind)), ?_⟩
                  exact hK _ _ (Vg14 (by first | assumption | grind | (simp [pt_r, upd_r] <;> grind)) hV161) (by first | exact Or.inl rfl | exact Or.inr rfl | assumption) (by first | assumption | grind | (simp [pt_r, upd_r] <;> grind))
                · exact hK _ _ hV142 (by first | exact Or.inl rfl | exact Or.inr rfl | assumption) (by first | assumption | grind | (simp [pt_r, upd_r] <;> grind))
            · refine ⟨vI (c := 720) rfl (by first | assumption | grind | (simp [pt_r, upd_r] <;> grind)) (by first | assumption | grind | (simp [pt_r, upd_r] <;> grind)), ?_⟩
              refine ⟨fun c6 => ?_, fun c6 => ?_⟩
              · unfold wpX11_actRead_b124
                refine ⟨vI (c := 720) rfl (by first | assumption | grind | (simp [pt_r, upd_r] <;> grind)) (by first | assumption | grind | (simp [pt_r, upd_r] <;> grind)), ?_⟩
                refine ⟨fun c7 => ?_, fun c7 => ?_⟩
                · unfold wpX11_actRead_b142
                  refine s_X11_numberRead hV88 (fun r142 f142 hV142 hb142 hk142 => ?_)
                  try dsimp only
                  have e14_142 := hV142.g14 (i := ix x1)
                  refine ⟨fun c8 => ?_, fun c8 => ?_⟩
                  · refine ⟨vI (c := 720) rfl (by first | assumption | grind | (simp [pt_r, upd_r] <;> grind)) (by first | assumption | grind | (simp [pt_r, upd_r] <;> grind)), ?_⟩
                    refine s_X11_take (Vg (k := 19) rfl hV142) (fun f161 hV161 hk161 => ?_)
                    try dsimp only
                    have e14_161 := hV161.g14 (i := ix x1)
                    unfold wpX11_actRead_b164
                    refine ⟨vI (c := 60) rfl (by first | assumption | grind | (simp [pt_r, upd_r] <;> grind)) (by first | assumption | grind | (simp [pt_r, upd_r] <;> grind)), ?_⟩
                    refine ⟨vI (c := 60) rfl (by first | assumption | grind | (simp [pt_r, upd_r] <;> grind)) (by first | assumption | grind | (simp [pt_r, upd_r] <;> grind)), ?_⟩
                    exact hK _ _ (Vg14 (by first | assumption | grind | (simp [pt_r, upd_r] <;> grind)) hV161) (by first | exact Or.inl rfl | exact Or.inr rfl | assumption) (by first | assumption | grind | (simp [pt_r, upd_r] <;> grind))
                  · exact hK _ _ hV142 (by first | exact Or.inl rfl | exact Or.inr rfl | assumption) (by first | assumption | grind | (simp [pt_r, upd_r] <;> grind))
                · unfold wpX11_actRead_b142
                  refine s_X11_numberRead hV88 (fun r142 f142 hV142 hb142 hk142 => ?_)
                  try dsimp only
                  have e14_142 := hV142.g14 (i := ix x1)
                  refine ⟨fun c8 => ?_, fun c8 => ?_⟩
                  · refine ⟨vI (c := 720) rfl (by first | assumption | grind | (simp [pt_r, upd_r] <;> grind)) (by first | assumption | grind | (simp [pt_r, upd_r] <;> grind)), ?_⟩
                    refine s_X11_take (Vg (k := 19) rfl hV142) (fun f161 hV161 hk161 => ?_)
                    try dsimp only
                    have e14_161 := hV161.g14 (i := ix x1)
                    unfold wpX11_actRead_b164
                    refine ⟨vI (c := 60) rfl (by first | assumption | grind | (simp [pt_r, upd_r] <;> grind)) (by first | assumption | grind | (simp [pt_r, upd_r] <;> grind)), ?_⟩
                    refine ⟨vI (c := 60) rfl (by first | assumption | grind | (simp [pt_r, upd_r] <;> grind)) (by first | assumption | grind | (simp [pt_r, upd_r] <;> grind)), ?_⟩
                    exact hK _ _ (Vg14 (by first | assumption | grind | (simp [pt_r, upd_r] <;> grind)) hV161) (by first | exact Or.inl rfl | exact Or.inr rfl | assumption) (by first | assumption | grind | (simp [pt_r, upd_r] <;> grind))
                  · exact hK _ _ hV142 (by first | exact Or.inl rfl | exact Or.inr rfl | assumption) (by first | assumption | grind | (simp [pt_r, upd_r] <;> grind))
              · refine ⟨vI (c := 720) rfl (by first | assumption | grind | (simp [pt_r, upd_r] <;> grind)) (by first | assumption | grind | (simp [pt_r, upd_r] <;> grind)), ?_⟩
                refine ⟨fun c7 => ?_, fun c7 => ?_⟩
                · unfold wpX11_actRead_b164
                  refine ⟨vI (c := 60) rfl (by first | assumption | grind | (simp [pt_r, upd_r] <;> grind)) (by first | assumption | grind | (simp [pt_r, upd_r] <;> grind)), ?_⟩
                  refine ⟨vI (c := 60) rfl (by first | assumption | grind | (simp [pt_r, upd_r] <;> grind)) (by first | assumption | grind | (simp [pt_r, upd_r] <;> grind)), ?_⟩
                  exact hK _ _ (Vg14 (by first | assumption | grind | (simp [pt_r, upd_r] <;> grind)) hV88) (by first | exact Or.inl rfl | exact Or.inr rfl | assumption) (by first | assumption | grind | (simp [pt_r, upd_r] <;> grind))
                · unfold wpX11_actRead_b124
                  refine ⟨vI (c := 720) rfl (by first | assumption | grind | (simp [pt_r, upd_r] <;> grind)) (by first | assumption | grind | (simp [pt_r, upd_r] <;> grind)), ?_⟩
                  refine ⟨fun c8 => ?_, fun c8 => ?_⟩
                  · unfold wpX11_actRead_b142
                    refine s_X11_numberRead hV88 (fun r142 f142 hV142 hb142 hk142 => ?_)
                    try dsimp only
                    have e14_142 := hV142.g14 (i := ix x1)
                    refine ⟨fun c9 => ?_, fun c9 => ?_⟩
                    · refine ⟨vI (c := 720) rfl (by first | assumption | grind | (simp [pt_r, upd_r] <;> grind)) (by first | assumption | grind | (simp [pt_r, upd_r] <;> grind)), ?_⟩
                      refine s_X11_take (Vg (k := 19) rfl hV142) (fun f161 hV161 hk161 => ?_)
                      try dsimp only
                      have e14_161 := hV161.g14 (i := ix x1)
                      unfold wpX11_actRead_b164
                      refine ⟨vI (c := 60) rfl (by first | assumption | grind | (simp [pt_r, upd_r] <;> grind)) (by first | assumption | grind | (simp [pt_r, upd_r] <;> grind)), ?_⟩
                      refine ⟨vI (c := 60) rfl (by first | assumption | grind | (simp [pt_r, upd_r] <;> grind)) (by first | assumption | grind | (simp [pt_r, upd_r] <;> grind)), ?_⟩
                      exact hK _ _ (Vg14 (by first | assumption | grind | (simp [pt_r, upd_r] <;> grind)) hV161) (by first | exact Or.inl rfl | exact Or.inr rfl | assumption) (by first | assumption | grind | (simp [pt_r, upd_r] <;> grind))
                    · exact hK _ _ hV142 (by first | exact Or.inl rfl | exact Or.inr rfl | assumption) (by first | assumption | grind | (simp [pt_r, upd_r] <;> grind))
                  · unfold wpX11_actRead_b142
                    refine s_X11_numberRead hV88 (fun r142 f142 hV142 hb142 hk142 => ?_)
                    try dsimp only
                    have e14_142 := hV142.g14 (i := ix x1)
                    refine ⟨fun c9 => ?_, fun c9 => ?_⟩
                    · refine ⟨vI (c := 720) rfl (by first | assumption | grind | (simp [pt_r, upd_r] <;> grind)) (by first | assumption | grind | (simp [pt_r, upd_r] <;> grind)), ?_⟩
                      refine s_X11_take (Vg (k := 19) rfl hV142) (fun f161 hV161 hk161 => ?_)
                      try dsimp only
                      have e14_161 := hV161.g14 (i := ix x1)
                      unfold wpX11_actRead_b164
                      refine ⟨vI (c := 60) rfl (by first | assumption | grind | (simp [pt_r, upd_r] <;> grind)) (by first | assumption | grind | (simp [pt_r, upd_r] <;> grind)), ?_⟩
                      refine ⟨vI (c := 60) rfl (by first | assumption | grind | (simp [pt_r, upd_r] <;> grind)) (by first | assumption | grind | (simp [pt_r, upd_r] <;> grind)), ?_⟩
                      exact hK _ _ (Vg14 (by first | assumption | grind | (simp [pt_r, upd_r] <;> grind)) hV161) (by first | exact Or.inl rfl | exact Or.inr rfl | assumption) (by first | assumption | grind | (simp [pt_r, upd_r] <;> grind))
                    · exact hK _ _ hV142 (by first | exact Or.inl rfl | exact Or.inr rfl | assumption) (by first | assumption | grind | (simp [pt_r, upd_r] <;> grind))
          · refine s_X11_wrong hV (fun r54 f54 hV54 hb54 hp54 hk54 => ?_)
            try dsimp only
            have e14_54 := hV54.g14 (i := ix x1)
            refine ⟨(by first | exact Or.inl rfl | exact Or.inr rfl | assumption), ?_⟩
            exact hK _ _ hV54 (by first | exact Or.inl rfl | exact Or.inr rfl | assumption) (by first | assumption | grind | (simp [pt_r, upd_r] <;> grind))
        · unfold wpX11_actRead_b35
          refine s_X11_wrong hV (fun r37 f37 hV37 hb37 hp37 hk37 => ?_)
          try dsimp only
          have e14_37 := hV37.g14 (i := ix x1)
          refine ⟨(by first | exact Or.inl rfl | exact Or.inr rfl | assumption), ?_⟩
          exact hK _ _ hV37 (by first | exact Or.inl rfl | exact Or.inr rfl | assumption) (by first | assumption | grind | (simp [pt_r, upd_r] <;> grind))
