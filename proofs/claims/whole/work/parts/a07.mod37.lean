/-! ===== the reference reads a land: w ===== -/
theorem fu_one (cn : Int → Int) (p j : Int) : fu (fu cn p (cn p + j)) p (fu cn p (cn p + j) p + 1) = fu cn p (cn p + (j + 1)) := by
  rw [fu_fu, fu_same, Int.add_assoc]
set_option maxRecDepth 100000 in
set_option maxHeartbeats 4000000 in
theorem lp_X11_statement_w {k : WC} {d : Nat} {w : MC} {h0 : AH} {s s2 : Int → Int} {A : MAs} {b : Int → Int} {n : Int} {l p q : Int} {X : DrS} {i3 : Int} (hd : 6 ≤ d) (hl0 : 0 ≤ l) (hl6 : l ≤ 6) (hX : XOK X) (hsw : xSw X < 20) (hp0 : 1 ≤ p) (hp1 : p ≤ 99) (hq0 : 1 ≤ q) (hq1 : q ≤ 9) (hm2 : SmR s s2) (h23 : s2 3 = i3) (hi3 : 0 ≤ i3 ∧ i3 ≤ n) (h24 : s2 4 = -1) (hn0 : 0 ≤ n) (hc : Cx w k d 0 0 mdX11_statement) (he : Ends w 0 0 (StP s A b n l (-1, i3, (xSe X, xEa X + q, xCo X, xMi X, xRo X, xSw X + 1, fu (xCn X) p (xCn X p + q), xHv X, xWs X, xSk X, xWt X)) h0)) : ∀ (zm : Nat) (j : Int) (A2 : MAs) (h : AH), (9 - j).toNat = zm → 0 ≤ j → j ≤ q → DrM A2 l (xSe X, xEa X + j, xCo X, xMi X, xRo X, xSw X + 1, fu (xCn X) p (xCn X p + j), xHv X, xWs X, xSk X, xWt X) → AgL A A2 l → MdS h s2 A2 → Fr isLm h0 h → J w 0 0 112 [some (vR (70, 0)), some (vI l), some (vI 119), some (vI 1), some (vI p), some (vI q), some (vI j)] [] h := by
  intro zm
  induction zm using Nat.strongRecOn with
  | _ zm ih =>
    intro j A2 h hm hj0 hj hD hA hS hF
    obtain ⟨x6, x8, x9, x13, x14, x15, x12, xpa⟩ := id hD
    obtain ⟨w1, w2, w3, w4, w5, w6, w7, w8, w9, w10, w11, w12, w13, w14, zcn, -⟩ := id hX
    have x8 : A2 8 l = xEa X + j := x8
    have xpa : ∀ z : Int, 0 ≤ z → z < xEa X + j → PaQ (fu (xCn X) p (xCn X p + j)) (fun z => A2 7 (180 * l + z)) z := xpa
    refine j_iload hc dX11_statement_112 rfl ?_
    refine j_iload hc dX11_statement_114 rfl ?_
    refine j_icmp_ge (tgt := 140) hc dX11_statement_116 (by decide) ⟨by omega, by omega⟩ ⟨by omega, by omega⟩ (fun zc1 => ?_) (fun zc1 => ?_)
    · refine j_goto (tgt := 298) hc dX11_statement_140 (by decide) ?_
      exact j_vret hc he dX11_statement_298 rfl (by omega) (by omega) ⟨rfl, s2, A2, hS, hm2, hA, hF, ⟨by omega, by omega⟩, ⟨by omega, by omega⟩, ⟨fun z => absurd rfl z, fun _ => Or.inl ⟨h24, h23, (show j = q by omega) ▸ hD⟩⟩⟩
    · refine j_aload_n hc dX11_statement_119 rfl ?_
      refine j_get hc dX11_statement_120 fX11_132 hS.1 rfl ?_
      refine j_iconst hc dX11_statement_123 ?_
      refine j_icmp_ne (tgt := 140) hc dX11_statement_124 (by decide) (by rw [h24]; exact ⟨by omega, by omega⟩) ⟨by omega, by omega⟩ (fun zc2 => ?_) (fun zc2 => ?_)
      · exact absurd h24 zc2
      · refine j_aload_n hc dX11_statement_127 rfl ?_
        refine j_iload_n hc dX11_statement_128 rfl ?_
        refine j_iload hc dX11_statement_129 rfl ?_
        refine j_callV (d' := d - 1) hc dX11_statement_131 vX11_161 hS.1 (ev_X11_addEater (e := xEa X + j) (cn := fu (xCn X) p (xCn X p + j)) hl0 hl6 hp0 hp1 x8 (by omega) (by omega) (fun z z0 z1 => by have := zcn z z0 z1; unfold fu; split <;> (try (rename_i h; subst h)) <;> omega) xpa (by rw [rgS_fu hp0 hp1 (by omega) (by omega), if_pos hp0]; omega) (by omega) hS) rfl (by omega) (by omega) (by omega) rfl rfl (Nat.le_of_ble_eq_true rfl) (retN fun zq131 zp131 => ?_)
        obtain ⟨g5, zS5, zP5, zG5, zF5⟩ := zp131
        refine j_iinc (L' := [_, _, _, _, _, _, _]) hc dX11_statement_134 rfl (Nat.le_of_ble_eq_true rfl) rfl ?_
        refine j_goto (tgt := 112) hc dX11_statement_137 (by decide) ?_
        exact ih (9 - (j + 1)).toNat (by omega) (j + 1) (fuA (fuA A2 7 g5) 8 (fu (A2 8) l (xEa X + j + 1))) _ rfl (by omega) (by omega) ⟨x6, (fu_same _ _ _).trans (by show xEa X + j + 1 = xEa X + (j + 1); omega), x9, x13, x14, x15, x12, fun z z0 z1 => by have y := zP5 z z0 (by have z1' : z < xEa X + (j + 1) := z1; omega); rw [fu_one] at y; exact y⟩ (hA.tr (AgL.fe A2 l _ zG5)) zS5 (hF.tr (zF5.mono fun z zz => Or.inr (by rcases zz with zz | zz <;> (rw [zz]; decide))))
