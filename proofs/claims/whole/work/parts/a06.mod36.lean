/-! ===== the reference reads a land: w ===== -/
theorem stW_w1 {A : MAs} {b : Int → Int} {n i x i' w : Int} {X : DrS} (hsw : xSw X < 20) (h0 : 0 ≤ i) (h1 : i ≤ n) (hN : NuM A b n (nuS b n i 1 99) 1 99 (-1) (-1) x i' w) : (w ≠ -1 → (stW b n i X).1 = w) ∧ (w = -1 → (nuS b n i 1 99).1 = -1 ∧ x = (nuS b n i 1 99).2.2 ∧ i' = (nuS b n i 1 99).2.1 ∧ 1 ≤ (nuS b n i 1 99).2.2 ∧ (nuS b n i 1 99).2.2 ≤ 99 ∧ 0 ≤ (nuS b n i 1 99).2.1 ∧ (nuS b n i 1 99).2.1 ≤ n) := by
  have zb := nuS_b (b := b) (lo := 1) (hi := 99) h0 h1
  by_cases q : (nuS b n i 1 99).1 ≠ -1
  · have := hN.2.1 q
    refine ⟨fun _ => ?_, fun z => by omega⟩
    unfold stW
    rw [if_neg (by omega), if_pos q]
    exact this.symm
  · have q2 : (nuS b n i 1 99).1 = -1 := by omega
    have zb2 := zb.2.2.2.2 q2
    obtain ⟨y0, y⟩ := (hN.2.2 q2).2 (fun z => by rcases z with z | z; (· omega); exact z.1 rfl)
    rcases y with ⟨y1, y2, y3⟩ | ⟨y1, y2⟩
    · exact ⟨fun z => absurd y1 z, fun _ => ⟨q2, y0, y2, by omega, by omega, by omega, by omega⟩⟩
    · refine ⟨fun _ => ?_, fun z => by omega⟩
      unfold stW
      rw [if_neg (by omega), if_neg q, if_pos (by rw [nuS_dg y2]; omega)]
      show (nuS b n (nuS b n i 1 99).2.1 1 9).1 = w
      rw [nuS_dg y2, y1]
theorem stW_w2 {A : MAs} {b : Int → Int} {n i x i' w : Int} {X : DrS} (hsw : xSw X < 20) (q1 : (nuS b n i 1 99).1 = -1) (h0 : 0 ≤ (nuS b n i 1 99).2.1) (h1 : (nuS b n i 1 99).2.1 ≤ n) (hN : NuM A b n (nuS b n (nuS b n i 1 99).2.1 1 9) 1 9 (-1) (-1) x i' w) : (w ≠ -1 → ((stW b n i X).1 = w ∧ (stW b n i X).1 ≠ -1) ∨ ((stW b n i X).1 = -1 ∧ w = (stW b n i X).2.1 ∧ dgS (hrS b n (stW b n i X).2.1))) ∧ (w = -1 → (nuS b n (nuS b n i 1 99).2.1 1 9).1 = -1 ∧ x = (nuS b n (nuS b n i 1 99).2.1 1 9).2.2 ∧ i' = (nuS b n (nuS b n i 1 99).2.1 1 9).2.1 ∧ 1 ≤ (nuS b n (nuS b n i 1 99).2.1 1 9).2.2 ∧ (nuS b n (nuS b n i 1 99).2.1 1 9).2.2 ≤ 9 ∧ 0 ≤ (nuS b n (nuS b n i 1 99).2.1 1 9).2.1 ∧ (nuS b n (nuS b n i 1 99).2.1 1 9).2.1 ≤ n ∧ stW b n i X = (-1, (nuS b n (nuS b n i 1 99).2.1 1 9).2.1, (xSe X, xEa X + (nuS b n (nuS b n i 1 99).2.1 1 9).2.2, xCo X, xMi X, xRo X, xSw X + 1, fu (xCn X) (nuS b n i 1 99).2.2 (xCn X (nuS b n i 1 99).2.2 + (nuS b n (nuS b n i 1 99).2.1 1 9).2.2), xHv X, xWs X, xSk X, xWt X))) := by
  have zb := nuS_b (b := b) (lo := 1) (hi := 9) h0 h1
  by_cases q : (nuS b n (nuS b n i 1 99).2.1 1 9).1 ≠ -1
  · have := hN.2.1 q
    have e : stW b n i X = ((nuS b n (nuS b n i 1 99).2.1 1 9).1, 0, X) := by
      unfold stW
      rw [if_neg (by omega), if_neg (by omega), if_pos q]
    rw [e]
    exact ⟨fun _ => Or.inl ⟨this.symm, q⟩, fun z => by omega⟩
  · have q3 : (nuS b n (nuS b n i 1 99).2.1 1 9).1 = -1 := by omega
    have zb2 := zb.2.2.2.2 q3
    have e : stW b n i X = (-1, (nuS b n (nuS b n i 1 99).2.1 1 9).2.1, (xSe X, xEa X + (nuS b n (nuS b n i 1 99).2.1 1 9).2.2, xCo X, xMi X, xRo X, xSw X + 1, fu (xCn X) (nuS b n i 1 99).2.2 (xCn X (nuS b n i 1 99).2.2 + (nuS b n (nuS b n i 1 99).2.1 1 9).2.2), xHv X, xWs X, xSk X, xWt X)) := by
      unfold stW
      rw [if_neg (by omega), if_neg (by omega), if_neg q]
    rw [e]
    obtain ⟨y0, y⟩ := (hN.2.2 q3).2 (fun z => by rcases z with z | z; (· omega); exact z.1 rfl)
    rcases y with ⟨y1, y2, y3⟩ | ⟨y1, y2⟩
    · exact ⟨fun z => absurd y1 z, fun _ => ⟨q3, y0, y2, by omega, by omega, by omega, by omega, rfl⟩⟩
    · exact ⟨fun _ => Or.inr ⟨rfl, y1, y2⟩, fun z => by omega⟩
set_option maxRecDepth 100000 in
set_option maxHeartbeats 4000000 in
theorem tw_1 {k : WC} {d : Nat} {w : MC} {h0 h : AH} {s s2 : Int → Int} {A A2 : MAs} {b : Int → Int} {n : Int} {l : Int} {r : RdS} {v v4 : Int} {z4 z5 z6 : Option AV} (hd : 4 ≤ d) (hl0 : 0 ≤ l) (hl6 : l ≤ 6) (hv : inI v) (hS2 : MdS h s2 A2) (hw : s2 4 ≠ -1) (hn : n ≤ 240) (hm2 : SmR s s2) (hA2 : AgL A A2 l) (hF2 : Fr isLm h0 h) (h32 : 0 ≤ s2 3 ∧ s2 3 ≤ n + 1) (h42 : -1 ≤ s2 4 ∧ s2 4 ≤ n) (hst : ∀ A2 : MAs, StR b n r A2 l s2) (hc : Cx w k d 0 0 mdX11_statement) (he : Ends w 0 0 (StP s A b n l r h0)) : J w 0 0 86 [some (vR (70, 0)), some (vI l), some (vI 119), some (vI 1), z4, z5, z6] [vI v] h := by
  refine j_istore (L' := [_, _, _, _, _, _, _]) hc dX11_statement_86 (Nat.le_of_ble_eq_true rfl) rfl ?_
  refine j_aload_n hc dX11_statement_88 rfl ?_
  refine j_iconst hc dX11_statement_89 ?_
  refine j_bipush hc dX11_statement_90 (by decide) ?_
  refine j_iconst hc dX11_statement_92 ?_
  refine j_iconst hc dX11_statement_93 ?_
  refine j_callV (d' := d - 1) hc dX11_statement_94 vX11_149 hS2.1 (ev_X11_number_w (by omega) hS2 hw (by exact ⟨by omega, by omega⟩)) rfl (by omega) (by omega) (by omega) rfl rfl (Nat.le_of_ble_eq_true rfl) (ret1 ?_)
  refine j_istore (L' := [_, _, _, _, _, _, _]) hc dX11_statement_97 (Nat.le_of_ble_eq_true rfl) rfl ?_
  refine j_aload_n hc dX11_statement_99 rfl ?_
  refine j_get hc dX11_statement_100 fX11_22 hS2.1 rfl ?_
  refine j_iload_n hc dX11_statement_103 rfl ?_
  refine j_dup2 hc dX11_statement_104 rfl rfl ?_
  refine j_iald hc dX11_statement_105 hS2.2.2.2.2.2.1 (by omega) (by omega) ?_
  refine j_iconst hc dX11_statement_106 ?_
  refine j_iadd hc dX11_statement_107 ?_
  refine j_iast hc dX11_statement_108 hS2.2.2.2.2.2.1 (by omega) (by omega) ?_
  generalize ezh1 : up _ _ _ = zh1
  have zzmod_zh1 := MdS.pa_9 ezh1 hS2
  refine j_iconst hc dX11_statement_109 ?_
  refine j_istore (L' := [_, _, _, _, _, _, _]) hc dX11_statement_110 (Nat.le_of_ble_eq_true rfl) rfl ?_
  refine j_iload hc dX11_statement_112 rfl ?_
  refine j_iload hc dX11_statement_114 rfl ?_
  refine j_icmp_ge (tgt := 140) hc dX11_statement_116 (by decide) ⟨by omega, by omega⟩ ⟨by omega, by omega⟩ (fun zc1 => ?_) (fun zc1 => ?_)
  · refine j_goto (tgt := 298) hc dX11_statement_140 (by decide) ?_
    exact j_vret hc he dX11_statement_298 rfl (by omega) (by omega) ⟨rfl, s2, _, zzmod_zh1, hm2, hA2.tr (AgL.f9 A2 l _), (by rw [← ezh1]; exact hF2.push (Or.inr (by decide))), h32, h42, hst _⟩
  · refine j_aload_n hc dX11_statement_119 rfl ?_
    refine j_get hc dX11_statement_120 fX11_132 zzmod_zh1.1 rfl ?_
    refine j_iconst hc dX11_statement_123 ?_
    refine j_icmp_ne (tgt := 140) hc dX11_statement_124 (by decide) (by exact ⟨by omega, by omega⟩) ⟨by omega, by omega⟩ (fun zc2 => ?_) (fun zc2 => ?_)
    · refine j_goto (tgt := 298) hc dX11_statement_140 (by decide) ?_
      exact j_vret hc he dX11_statement_298 rfl (by omega) (by omega) ⟨rfl, s2, _, zzmod_zh1, hm2, hA2.tr (AgL.f9 A2 l _), (by rw [← ezh1]; exact hF2.push (Or.inr (by decide))), h32, h42, hst _⟩
    · exact absurd zc2 hw
set_option maxRecDepth 100000 in
set_option maxHeartbeats 4000000 in
theorem tw_2 {k : WC} {d : Nat} {w : MC} {h0 h : AH} {s s2 : Int → Int} {A A2 : MAs} {b : Int → Int} {n : Int} {l : Int} {r : RdS} {v v4 : Int} {z4 z5 z6 : Option AV} (hd : 4 ≤ d) (hl0 : 0 ≤ l) (hl6 : l ≤ 6) (hv : inI v) (hS2 : MdS h s2 A2) (hw : s2 4 ≠ -1) (hn : n ≤ 240) (hm2 : SmR s s2) (hA2 : AgL A A2 l) (hF2 : Fr isLm h0 h) (h32 : 0 ≤ s2 3 ∧ s2 3 ≤ n + 1) (h42 : -1 ≤ s2 4 ∧ s2 4 ≤ n) (hst : ∀ A2 : MAs, StR b n r A2 l s2) (hc : Cx w k d 0 0 mdX11_statement) (he : Ends w 0 0 (StP s A b n l r h0)) : J w 0 0 97 [some (vR (70, 0)), some (vI l), some (vI 119), some (vI 1), some (vI v4), z5, z6] [vI v] h := by
  refine j_istore (L' := [_, _, _, _, _, _, _]) hc dX11_statement_97 (Nat.le_of_ble_eq_true rfl) rfl ?_
  refine j_aload_n hc dX11_statement_99 rfl ?_
  refine j_get hc dX11_statement_100 fX11_22 hS2.1 rfl ?_
  refine j_iload_n hc dX11_statement_103 rfl ?_
  refine j_dup2 hc dX11_statement_104 rfl rfl ?_
  refine j_iald hc dX11_statement_105 hS2.2.2.2.2.2.1 (by omega) (by omega) ?_
  refine j_iconst hc dX11_statement_106 ?_
  refine j_iadd hc dX11_statement_107 ?_
  refine j_iast hc dX11_statement_108 hS2.2.2.2.2.2.1 (by omega) (by omega) ?_
  generalize ezh1 : up _ _ _ = zh1
  have zzmod_zh1 := MdS.pa_9 ezh1 hS2
  refine j_iconst hc dX11_statement_109 ?_
  refine j_istore (L' := [_, _, _, _, _, _, _]) hc dX11_statement_110 (Nat.le_of_ble_eq_true rfl) rfl ?_
  refine j_iload hc dX11_statement_112 rfl ?_
  refine j_iload hc dX11_statement_114 rfl ?_
  refine j_icmp_ge (tgt := 140) hc dX11_statement_116 (by decide) ⟨by omega, by omega⟩ hv (fun zc1 => ?_) (fun zc1 => ?_)
  · refine j_goto (tgt := 298) hc dX11_statement_140 (by decide) ?_
    exact j_vret hc he dX11_statement_298 rfl (by omega) (by omega) ⟨rfl, s2, _, zzmod_zh1, hm2, hA2.tr (AgL.f9 A2 l _), (by rw [← ezh1]; exact hF2.push (Or.inr (by decide))), h32, h42, hst _⟩
  · refine j_aload_n hc dX11_statement_119 rfl ?_
    refine j_get hc dX11_statement_120 fX11_132 zzmod_zh1.1 rfl ?_
    refine j_iconst hc dX11_statement_123 ?_
    refine j_icmp_ne (tgt := 140) hc dX11_statement_124 (by decide) (by exact ⟨by omega, by omega⟩) ⟨by omega, by omega⟩ (fun zc2 => ?_) (fun zc2 => ?_)
    · refine j_goto (tgt := 298) hc dX11_statement_140 (by decide) ?_
      exact j_vret hc he dX11_statement_298 rfl (by omega) (by omega) ⟨rfl, s2, _, zzmod_zh1, hm2, hA2.tr (AgL.f9 A2 l _), (by rw [← ezh1]; exact hF2.push (Or.inr (by decide))), h32, h42, hst _⟩
    · exact absurd zc2 hw
