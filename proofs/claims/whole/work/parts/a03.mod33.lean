/-! ===== the reference reads a land: h ===== -/
theorem nuS_dg {b : Int → Int} {n i lo hi : Int} (h : dgS (hrS b n i)) : (nuS b n i lo hi).1 = i := by
  unfold nuS
  rw [if_pos (by omega)]
set_option maxRecDepth 100000 in
set_option maxHeartbeats 4000000 in
theorem lp_X11_weightOf_d {k : WC} {d : Nat} {w : MC} {h : AH} {s : Int → Int} {A : MAs} {l q : Int} {X : DrS} (hd : 1 ≤ d) (hS : MdS h s A) (hl0 : 0 ≤ l) (hl6 : l ≤ 6) (hq0 : 0 ≤ q) (hq1 : q < 4) (hX : XOK X) (hD : DrM A l X) (hc : Cx w k d 0 0 mdX11_weightOf) (he : Ends w 0 0 (pr (vI (xWs X q)) h)) : ∀ (zm : Nat) (j : Nat) (c : Int), 4 - j = zm → (j : Int) ≤ xHv X q → c = suN (xWt X) (4 * q) j → J w 0 0 5 [some (vR (70, 0)), some (vI l), some (vI q), some (vI c), some (vI j)] [] h := by
  obtain ⟨x6, x8, x9, x13, x14, x15, x12, xpa⟩ := id hD
  obtain ⟨zh1, zh2, zh3, zh4, zh5, zh6⟩ := hX.2.2.2.2.2.2.2.2.2.2.2.2.2.2.2 q hq0 hq1
  intro zm
  induction zm using Nat.strongRecOn with
  | _ zm ih =>
    intro j c hm hj hcc
    refine j_iload hc dX11_weightOf_5 rfl ?_
    refine j_aload_n hc dX11_weightOf_7 rfl ?_
    refine j_get hc dX11_weightOf_8 fX11_31 hS.1 rfl ?_
    refine j_iconst hc dX11_weightOf_11 ?_
    refine j_iload_n hc dX11_weightOf_12 rfl ?_
    refine j_imul hc dX11_weightOf_13 ?_
    refine j_iload_n hc dX11_weightOf_14 rfl ?_
    refine j_iadd hc dX11_weightOf_15 ?_
    refine j_iald hc dX11_weightOf_16 hS.2.2.2.2.2.2.2.2.1 (by omega) (by omega) ?_
    rw [(x12 q hq0 hq1).1]
    refine j_icmp_ge (tgt := 44) hc dX11_weightOf_17 (by decide) ⟨by omega, by omega⟩ ⟨by omega, by omega⟩ (fun zc1 => ?_) (fun zc1 => ?_)
    · refine j_iload_n hc dX11_weightOf_44 rfl ?_
      exact j_iret hc he dX11_weightOf_45 rfl (by omega) (by omega) ⟨vI_eq (by rw [hcc, zh5, show (xHv X q).toNat = j by omega]), rfl⟩
    · refine j_iload_n hc dX11_weightOf_20 rfl ?_
      refine j_aload_n hc dX11_weightOf_21 rfl ?_
      refine j_get hc dX11_weightOf_22 fX11_28 hS.1 rfl ?_
      refine j_iconst hc dX11_weightOf_25 ?_
      refine j_iconst hc dX11_weightOf_26 ?_
      refine j_iload_n hc dX11_weightOf_27 rfl ?_
      refine j_imul hc dX11_weightOf_28 ?_
      refine j_iload_n hc dX11_weightOf_29 rfl ?_
      refine j_iadd hc dX11_weightOf_30 ?_
      refine j_imul hc dX11_weightOf_31 ?_
      refine j_iload hc dX11_weightOf_32 rfl ?_
      refine j_iadd hc dX11_weightOf_34 ?_
      refine j_iald hc dX11_weightOf_35 hS.2.2.2.2.2.2.2.1 (by omega) (by omega) ?_
      rw [((x12 q hq0 hq1).2 j (by omega) (by omega)).2]
      refine j_iadd hc dX11_weightOf_36 ?_
      refine j_istore_n (L' := [_, _, _, _, _]) hc dX11_weightOf_37 (Nat.le_of_ble_eq_true rfl) rfl ?_
      refine j_iinc (L' := [_, _, _, _, _]) hc dX11_weightOf_38 rfl (Nat.le_of_ble_eq_true rfl) rfl ?_
      refine j_goto (tgt := 5) hc dX11_weightOf_41 (by decide) ?_
      exact ih _ (by omega) (j + 1) _ rfl (by omega) (by simp only [suN]; rw [hcc, show 4 * q + (j : Int) = q * 4 + j by omega])
set_option maxRecDepth 100000 in
set_option maxHeartbeats 4000000 in
theorem ev_X11_weightOf_d {k : WC} {d : Nat} {h : AH} {s : Int → Int} {A : MAs} {l q : Int} {X : DrS} (hd : 1 ≤ d) (hS : MdS h s A) (hl0 : 0 ≤ l) (hl6 : l ≤ 6) (hq0 : 0 ≤ q) (hq1 : q < 4) (hX : XOK X) (hD : DrM A l X) : Ev k d mdX11_weightOf h [vR (70, 0), vI l, vI q] 0 0 (pr (vI (xWs X q)) h) := by
  refine Ev.mk (by decide +kernel) [_, _, _, _, _] rfl (Nat.le_of_ble_eq_true rfl) (fun w hc he => ?_)
  refine j_iconst hc dX11_weightOf_0 ?_
  refine j_istore_n (L' := [_, _, _, _, _]) hc dX11_weightOf_1 (Nat.le_of_ble_eq_true rfl) rfl ?_
  refine j_iconst hc dX11_weightOf_2 ?_
  refine j_istore (L' := [_, _, _, _, _]) hc dX11_weightOf_3 (Nat.le_of_ble_eq_true rfl) rfl ?_
  exact lp_X11_weightOf_d hd hS hl0 hl6 hq0 hq1 hX hD hc he _ 0 _ rfl (by have := (hX.2.2.2.2.2.2.2.2.2.2.2.2.2.2.2 q hq0 hq1).1; omega) rfl
set_option maxRecDepth 100000 in
set_option maxHeartbeats 4000000 in
theorem th_1 {k : WC} {d : Nat} {w : MC} {h0 h : AH} {s s2 : Int → Int} {A A2 : MAs} {b : Int → Int} {n : Int} {l : Int} {r : RdS} {v v4 v5 : Int} {z4 z5 z6 : Option AV} (hd : 4 ≤ d) (hS2 : MdS h s2 A2) (hw : s2 4 ≠ -1) (hn : n ≤ 240) (hm2 : SmR s s2) (hA2 : AgL A A2 l) (hF2 : Fr isLm h0 h) (h32 : 0 ≤ s2 3 ∧ s2 3 ≤ n + 1) (h42 : -1 ≤ s2 4 ∧ s2 4 ≤ n) (hst : StR b n r A2 l s2) (hc : Cx w k d 0 0 mdX11_statement) (he : Ends w 0 0 (StP s A b n l r h0)) : J w 0 0 164 [some (vR (70, 0)), some (vI l), some (vI 104), some (vI 1), z4, z5, z6] [vI v] h := by
  refine j_istore (L' := [_, _, _, _, _, _, _]) hc dX11_statement_164 (Nat.le_of_ble_eq_true rfl) rfl ?_
  refine j_aload_n hc dX11_statement_166 rfl ?_
  refine j_iconst hc dX11_statement_167 ?_
  refine j_bipush hc dX11_statement_168 (by decide) ?_
  refine j_iconst hc dX11_statement_170 ?_
  refine j_iconst hc dX11_statement_171 ?_
  refine j_callV (d' := d - 1) hc dX11_statement_172 vX11_149 hS2.1 (ev_X11_number_w (by omega) hS2 hw (by exact ⟨by omega, by omega⟩)) rfl (by omega) (by omega) (by omega) rfl rfl (Nat.le_of_ble_eq_true rfl) (ret1 ?_)
  refine j_istore (L' := [_, _, _, _, _, _, _]) hc dX11_statement_175 (Nat.le_of_ble_eq_true rfl) rfl ?_
  refine j_aload_n hc dX11_statement_177 rfl ?_
  refine j_iconst hc dX11_statement_178 ?_
  refine j_bipush hc dX11_statement_179 (by decide) ?_
  refine j_bipush hc dX11_statement_181 (by decide) ?_
  refine j_aload_n hc dX11_statement_183 rfl ?_
  refine j_get hc dX11_statement_184 fX11_132 hS2.1 rfl ?_
  refine j_iconst hc dX11_statement_187 ?_
  refine j_icmp_ne (tgt := 201) hc dX11_statement_188 (by decide) (by exact ⟨by omega, by omega⟩) ⟨by omega, by omega⟩ (fun zc1 => ?_) (fun zc1 => ?_)
  · refine j_iconst hc dX11_statement_201 ?_
    refine j_isub hc dX11_statement_202 ?_
    refine j_mmin hc dX11_statement_203 mX11_169 mo_min ⟨by omega, by omega⟩ ⟨by omega, by omega⟩ (by omega) (by omega) rfl (by omega) (Nat.le_of_ble_eq_true rfl) ?_
    refine j_iconst hc dX11_statement_206 ?_
    refine j_iconst hc dX11_statement_207 ?_
    refine j_callV (d' := d - 1) hc dX11_statement_208 vX11_149 hS2.1 (ev_X11_number_w (by omega) hS2 hw (by exact ⟨by omega, by omega⟩)) rfl (by omega) (by omega) (by omega) rfl rfl (Nat.le_of_ble_eq_true rfl) (ret1 ?_)
    refine j_istore (L' := [_, _, _, _, _, _, _]) hc dX11_statement_211 (Nat.le_of_ble_eq_true rfl) rfl ?_
    refine j_aload_n hc dX11_statement_213 rfl ?_
    refine j_get hc dX11_statement_214 fX11_132 hS2.1 rfl ?_
    refine j_iconst hc dX11_statement_217 ?_
    refine j_icmp_ne (tgt := 232) hc dX11_statement_218 (by decide) (by exact ⟨by omega, by omega⟩) ⟨by omega, by omega⟩ (fun zc2 => ?_) (fun zc2 => ?_)
    · refine j_goto (tgt := 298) hc dX11_statement_232 (by decide) ?_
      exact j_vret hc he dX11_statement_298 rfl (by omega) (by omega) ⟨rfl, s2, A2, hS2, hm2, hA2, hF2, h32, h42, hst⟩
    · exact absurd zc2 hw
  · exact absurd zc1 hw
set_option maxRecDepth 100000 in
set_option maxHeartbeats 4000000 in
theorem th_2 {k : WC} {d : Nat} {w : MC} {h0 h : AH} {s s2 : Int → Int} {A A2 : MAs} {b : Int → Int} {n : Int} {l : Int} {r : RdS} {v v4 v5 : Int} {z4 z5 z6 : Option AV} (hd : 4 ≤ d) (hS2 : MdS h s2 A2) (hw : s2 4 ≠ -1) (hn : n ≤ 240) (hm2 : SmR s s2) (hA2 : AgL A A2 l) (hF2 : Fr isLm h0 h) (h32 : 0 ≤ s2 3 ∧ s2 3 ≤ n + 1) (h42 : -1 ≤ s2 4 ∧ s2 4 ≤ n) (hst : StR b n r A2 l s2) (hc : Cx w k d 0 0 mdX11_statement) (he : Ends w 0 0 (StP s A b n l r h0)) : J w 0 0 175 [some (vR (70, 0)), some (vI l), some (vI 104), some (vI 1), some (vI v4), z5, z6] [vI v] h := by
  refine j_istore (L' := [_, _, _, _, _, _, _]) hc dX11_statement_175 (Nat.le_of_ble_eq_true rfl) rfl ?_
  refine j_aload_n hc dX11_statement_177 rfl ?_
  refine j_iconst hc dX11_statement_178 ?_
  refine j_bipush hc dX11_statement_179 (by decide) ?_
  refine j_bipush hc dX11_statement_181 (by decide) ?_
  refine j_aload_n hc dX11_statement_183 rfl ?_
  refine j_get hc dX11_statement_184 fX11_132 hS2.1 rfl ?_
  refine j_iconst hc dX11_statement_187 ?_
  refine j_icmp_ne (tgt := 201) hc dX11_statement_188 (by decide) (by exact ⟨by omega, by omega⟩) ⟨by omega, by omega⟩ (fun zc1 => ?_) (fun zc1 => ?_)
  · refine j_iconst hc dX11_statement_201 ?_
    refine j_isub hc dX11_statement_202 ?_
    refine j_mmin hc dX11_statement_203 mX11_169 mo_min ⟨by omega, by omega⟩ ⟨by omega, by omega⟩ (by omega) (by omega) rfl (by omega) (Nat.le_of_ble_eq_true rfl) ?_
    refine j_iconst hc dX11_statement_206 ?_
    refine j_iconst hc dX11_statement_207 ?_
    refine j_callV (d' := d - 1) hc dX11_statement_208 vX11_149 hS2.1 (ev_X11_number_w (by omega) hS2 hw (by exact ⟨by omega, by omega⟩)) rfl (by omega) (by omega) (by omega) rfl rfl (Nat.le_of_ble_eq_true rfl) (ret1 ?_)
    refine j_istore (L' := [_, _, _, _, _, _, _]) hc dX11_statement_211 (Nat.le_of_ble_eq_true rfl) rfl ?_
    refine j_aload_n hc dX11_statement_213 rfl ?_
    refine j_get hc dX11_statement_214 fX11_132 hS2.1 rfl ?_
    refine j_iconst hc dX11_statement_217 ?_
    refine j_icmp_ne (tgt := 232) hc dX11_statement_218 (by decide) (by exact ⟨by omega, by omega⟩) ⟨by omega, by omega⟩ (fun zc2 => ?_) (fun zc2 => ?_)
    · refine j_goto (tgt := 298) hc dX11_statement_232 (by decide) ?_
      exact j_vret hc he dX11_statement_298 rfl (by omega) (by omega) ⟨rfl, s2, A2, hS2, hm2, hA2, hF2, h32, h42, hst⟩
    · exact absurd zc2 hw
  · exact absurd zc1 hw
set_option maxRecDepth 100000 in
set_option maxHeartbeats 4000000 in
theorem th_3 {k : WC} {d : Nat} {w : MC} {h0 h : AH} {s s2 : Int → Int} {A A2 : MAs} {b : Int → Int} {n : Int} {l : Int} {r : RdS} {v v4 v5 : Int} {z4 z5 z6 : Option AV} (hd : 4 ≤ d) (hS2 : MdS h s2 A2) (hw : s2 4 ≠ -1) (hn : n ≤ 240) (hm2 : SmR s s2) (hA2 : AgL A A2 l) (hF2 : Fr isLm h0 h) (h32 : 0 ≤ s2 3 ∧ s2 3 ≤ n + 1) (h42 : -1 ≤ s2 4 ∧ s2 4 ≤ n) (hst : StR b n r A2 l s2) (hc : Cx w k d 0 0 mdX11_statement) (he : Ends w 0 0 (StP s A b n l r h0)) : J w 0 0 211 [some (vR (70, 0)), some (vI l), some (vI 104), some (vI 1), some (vI v4), some (vI v5), z6] [vI v] h := by
  refine j_istore (L' := [_, _, _, _, _, _, _]) hc dX11_statement_211 (Nat.le_of_ble_eq_true rfl) rfl ?_
  refine j_aload_n hc dX11_statement_213 rfl ?_
  refine j_get hc dX11_statement_214 fX11_132 hS2.1 rfl ?_
  refine j_iconst hc dX11_statement_217 ?_
  refine j_icmp_ne (tgt := 232) hc dX11_statement_218 (by decide) (by exact ⟨by omega, by omega⟩) ⟨by omega, by omega⟩ (fun zc1 => ?_) (fun zc1 => ?_)
  · refine j_goto (tgt := 298) hc dX11_statement_232 (by decide) ?_
    exact j_vret hc he dX11_statement_298 rfl (by omega) (by omega) ⟨rfl, s2, A2, hS2, hm2, hA2, hF2, h32, h42, hst⟩
  · exact absurd zc1 hw
