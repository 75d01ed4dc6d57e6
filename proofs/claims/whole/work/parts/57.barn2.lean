/-! ===== lands and plans that are asked for ===== -/
set_option maxRecDepth 100000 in
set_option maxHeartbeats 4000000 in
theorem ev_X10_landAt_ok {k : WC} {d : Nat} {h : AH} {S : BaS} {l : Int} (hd : 2 ≤ d) (hB : BarnAt h S) (hv : lnV S l) : Ev k d mdX10_landAt h [vR (0, 0), vI l] 0 0 (pr (vR (30, l)) h) := by
  obtain ⟨⟨⟨zb0, zb11, zb12, zb13, zb14, zb141, zb15, zb18⟩, zTp, zRd⟩, zSp, zTw, zSt, zL, zK⟩ := id hB
  obtain ⟨zT1, ⟨zlc0, zlc1⟩, ⟨zrc0, zrc1⟩, zKl, zKr, zKw, ⟨zto0, zto1⟩, zse0, zse1⟩ := id zK
  obtain ⟨hl0, hl1⟩ := id hv
  obtain ⟨hD, hE, hyr, hyo⟩ := zKl l hl0 hl1
  refine Ev.mk (by decide +kernel) [_, _] rfl (Nat.le_of_ble_eq_true rfl) (fun w hc he => ?_)
  refine j_iload_n hc dX10_landAt_0 rfl ?_
  refine j_iconst hc dX10_landAt_1 ?_
  refine j_aload_n hc dX10_landAt_2 rfl ?_
  refine j_get hc dX10_landAt_3 fX10_99 zb0 rfl ?_
  refine j_iconst hc dX10_landAt_6 ?_
  refine j_isub hc dX10_landAt_7 ?_
  refine j_callS (d' := d - 1) hc dX10_landAt_8 sX10_90 (ev_X10_within (by omega) ⟨by omega, by omega⟩ ⟨by omega, by omega⟩ ⟨by omega, by omega⟩) rfl (by omega) (by omega) (by omega) rfl rfl (Nat.le_of_ble_eq_true rfl) (ret1 ?_)
  refine j_if_eq (b := 0) (tgt := 23) hc dX10_landAt_11 (by decide) (by split <;> exact ⟨by omega, by omega⟩) (fun zc1 => ?_) (fun zc1 => ?_)
  · exact absurd (show 0 ≤ l ∧ l ≤ bLc S - 1 from ⟨by omega, by omega⟩) (one_neg zc1)
  · refine j_aload_n hc dX10_landAt_14 rfl ?_
    refine j_get hc dX10_landAt_15 fX10_34 zb0 rfl ?_
    refine j_iload_n hc dX10_landAt_18 rfl ?_
    refine j_aald hc dX10_landAt_19 zb11 (by decide) (by decide) (by omega) (by omega) ?_
    rw [show lnF (bLc S) l = some (30, l) from if_pos ⟨hl0, hl1⟩]
    refine j_goto (tgt := 24) hc dX10_landAt_20 (by decide) ?_
    exact j_aret hc he dX10_landAt_24 rfl (by first | exact Or.inl ⟨_, rfl⟩ | exact Or.inr ⟨_, rfl⟩) (by omega) (by omega) ⟨rfl, rfl⟩
set_option maxRecDepth 100000 in
set_option maxHeartbeats 4000000 in
theorem ev_X10_landAt_no {k : WC} {d : Nat} {h : AH} {S : BaS} {l : Int} (hd : 2 ≤ d) (hB : BarnAt h S) (hi : inI l) (hv : ¬ lnV S l) : Ev k d mdX10_landAt h [vR (0, 0), vI l] 0 0 (pr vN h) := by
  obtain ⟨⟨⟨zb0, zb11, zb12, zb13, zb14, zb141, zb15, zb18⟩, zTp, zRd⟩, zSp, zTw, zSt, zL, zK⟩ := id hB
  obtain ⟨zT1, ⟨zlc0, zlc1⟩, ⟨zrc0, zrc1⟩, zKl, zKr, zKw, ⟨zto0, zto1⟩, zse0, zse1⟩ := id zK
  refine Ev.mk (by decide +kernel) [_, _] rfl (Nat.le_of_ble_eq_true rfl) (fun w hc he => ?_)
  refine j_iload_n hc dX10_landAt_0 rfl ?_
  refine j_iconst hc dX10_landAt_1 ?_
  refine j_aload_n hc dX10_landAt_2 rfl ?_
  refine j_get hc dX10_landAt_3 fX10_99 zb0 rfl ?_
  refine j_iconst hc dX10_landAt_6 ?_
  refine j_isub hc dX10_landAt_7 ?_
  refine j_callS (d' := d - 1) hc dX10_landAt_8 sX10_90 (ev_X10_within (by omega) ⟨by omega, by omega⟩ ⟨by omega, by omega⟩ ⟨by omega, by omega⟩) rfl (by omega) (by omega) (by omega) rfl rfl (Nat.le_of_ble_eq_true rfl) (ret1 ?_)
  refine j_if_eq (b := 0) (tgt := 23) hc dX10_landAt_11 (by decide) (by split <;> exact ⟨by omega, by omega⟩) (fun zc1 => ?_) (fun zc1 => ?_)
  · refine j_null hc dX10_landAt_23 ?_
    exact j_aret hc he dX10_landAt_24 rfl (by first | exact Or.inl ⟨_, rfl⟩ | exact Or.inr ⟨_, rfl⟩) (by omega) (by omega) ⟨rfl, rfl⟩
  · exact absurd (show lnV S l from ⟨(one_pos zc1).1, by have := (one_pos zc1).2; omega⟩) hv
set_option maxRecDepth 100000 in
set_option maxHeartbeats 4000000 in
theorem ev_X10_landFor_ok {k : WC} {d : Nat} {h : AH} {S : BaS} {l n s a : Int} (hd : 3 ≤ d) (hB : BarnAt h S) (hv : laV S l n s a) : Ev k d mdX10_landFor h [vR (0, 0), vI l, vI n, vI s, vI a] 0 0 (pr (vR (30, l)) h) := by
  obtain ⟨⟨⟨zb0, zb11, zb12, zb13, zb14, zb141, zb15, zb18⟩, zTp, zRd⟩, zSp, zTw, zSt, zL, zK⟩ := id hB
  obtain ⟨zT1, ⟨zlc0, zlc1⟩, ⟨zrc0, zrc1⟩, zKl, zKr, zKw, ⟨zto0, zto1⟩, zse0, zse1⟩ := id zK
  obtain ⟨hvl, ⟨hn1, hn⟩, ⟨hs0, hs1⟩, ha0, ha1⟩ := id hv
  obtain ⟨hl0, hl1⟩ := id hvl
  obtain ⟨hD, hE, hyr, hyo⟩ := zKl l hl0 hl1
  obtain ⟨pl, hL, hpl⟩ := zL.1 l hl0 hl1
  have hd1 := hD.1
  have hd2 := hD.2.1
  refine Ev.mk (by decide +kernel) [_, _, _, _, _, _] rfl (Nat.le_of_ble_eq_true rfl) (fun w hc he => ?_)
  refine j_aload_n hc dX10_landFor_0 rfl ?_
  refine j_iload_n hc dX10_landFor_1 rfl ?_
  refine j_callV (d' := d - 1) hc dX10_landFor_2 vX10_115 zb0 (ev_X10_landAt_ok (by omega) hB hvl) rfl (by omega) (by omega) (by omega) rfl rfl (Nat.le_of_ble_eq_true rfl) (ret1 ?_)
  refine j_astore (L' := [_, _, _, _, _, _]) hc dX10_landFor_5 (Nat.le_of_ble_eq_true rfl) rfl ?_
  refine j_aload hc dX10_landFor_7 rfl ?_
  refine j_ifnull (tgt := 37) hc dX10_landFor_9 (by decide) (fun zc1 => ?_) (fun zc1 => ?_)
  · exact absurd zc1 (by simp)
  · refine j_iload_n hc dX10_landFor_12 rfl ?_
    refine j_iconst hc dX10_landFor_13 ?_
    refine j_bipush hc dX10_landFor_14 (by decide) ?_
    refine j_callS (d' := d - 1) hc dX10_landFor_16 sX10_90 (ev_X10_within (by omega) ⟨by omega, by omega⟩ ⟨by omega, by omega⟩ ⟨by omega, by omega⟩) rfl (by omega) (by omega) (by omega) rfl rfl (Nat.le_of_ble_eq_true rfl) (ret1 ?_)
    refine j_if_eq (b := 0) (tgt := 37) hc dX10_landFor_19 (by decide) (by split <;> exact ⟨by omega, by omega⟩) (fun zc2 => ?_) (fun zc2 => ?_)
    · exact absurd (show 1 ≤ n ∧ n ≤ 12 from ⟨by omega, by omega⟩) (one_neg zc2)
    · refine j_iload_n hc dX10_landFor_22 rfl ?_
      refine j_iconst hc dX10_landFor_23 ?_
      refine j_aload hc dX10_landFor_24 rfl ?_
      refine j_get hc dX10_landFor_26 fX10_119 hL.1 rfl ?_
      refine j_iconst hc dX10_landFor_29 ?_
      refine j_isub hc dX10_landFor_30 ?_
      refine j_callS (d' := d - 1) hc dX10_landFor_31 sX10_90 (ev_X10_within (by omega) ⟨by omega, by omega⟩ ⟨by omega, by omega⟩ ⟨by omega, by omega⟩) rfl (by omega) (by omega) (by omega) rfl rfl (Nat.le_of_ble_eq_true rfl) (ret1 ?_)
      refine j_if_ne (b := 0) (tgt := 39) hc dX10_landFor_34 (by decide) (by split <;> exact ⟨by omega, by omega⟩) (fun zc3 => ?_) (fun zc3 => ?_)
      · refine j_iload hc dX10_landFor_39 rfl ?_
        refine j_iconst hc dX10_landFor_41 ?_
        refine j_bipush hc dX10_landFor_42 (by decide) ?_
        refine j_callS (d' := d - 1) hc dX10_landFor_44 sX10_90 (ev_X10_within (by omega) ⟨by omega, by omega⟩ ⟨by omega, by omega⟩ ⟨by omega, by omega⟩) rfl (by omega) (by omega) (by omega) rfl rfl (Nat.le_of_ble_eq_true rfl) (ret1 ?_)
        refine j_if_eq (b := 0) (tgt := 55) hc dX10_landFor_47 (by decide) (by split <;> exact ⟨by omega, by omega⟩) (fun zc4 => ?_) (fun zc4 => ?_)
        · exact absurd (show 0 ≤ a ∧ a ≤ 40 from ⟨by omega, by omega⟩) (one_neg zc4)
        · refine j_aload hc dX10_landFor_50 rfl ?_
          refine j_goto (tgt := 56) hc dX10_landFor_52 (by decide) ?_
          exact j_aret hc he dX10_landFor_56 rfl (by first | exact Or.inl ⟨_, rfl⟩ | exact Or.inr ⟨_, rfl⟩) (by omega) (by omega) ⟨rfl, rfl⟩
      · exact absurd (show 0 ≤ s ∧ s ≤ lSe (bD S l) - 1 from ⟨by omega, by omega⟩) (one_neg zc3)
set_option maxRecDepth 100000 in
set_option maxHeartbeats 4000000 in
theorem ev_X10_landFor_no {k : WC} {d : Nat} {h : AH} {S : BaS} {l n s a : Int} (hd : 3 ≤ d) (hB : BarnAt h S) (hil : inI l) (hin : inI n) (his : inI s) (hia : inI a) (hv : ¬ laV S l n s a) : Ev k d mdX10_landFor h [vR (0, 0), vI l, vI n, vI s, vI a] 0 0 (pr vN h) := by
  obtain ⟨⟨⟨zb0, zb11, zb12, zb13, zb14, zb141, zb15, zb18⟩, zTp, zRd⟩, zSp, zTw, zSt, zL, zK⟩ := id hB
  obtain ⟨zT1, ⟨zlc0, zlc1⟩, ⟨zrc0, zrc1⟩, zKl, zKr, zKw, ⟨zto0, zto1⟩, zse0, zse1⟩ := id zK
  by_cases hcs : lnV S l
  · skip
    obtain ⟨hl0, hl1⟩ := id hcs
    obtain ⟨hD, hE, hyr, hyo⟩ := zKl l hl0 hl1
    obtain ⟨pl, hL, hpl⟩ := zL.1 l hl0 hl1
    have hd1 := hD.1
    have hd2 := hD.2.1
    refine Ev.mk (by decide +kernel) [_, _, _, _, _, _] rfl (Nat.le_of_ble_eq_true rfl) (fun w hc he => ?_)
    refine j_aload_n hc dX10_landFor_0 rfl ?_
    refine j_iload_n hc dX10_landFor_1 rfl ?_
    refine j_callV (d' := d - 1) hc dX10_landFor_2 vX10_115 zb0 (ev_X10_landAt_ok (by omega) hB hcs) rfl (by omega) (by omega) (by omega) rfl rfl (Nat.le_of_ble_eq_true rfl) (ret1 ?_)
    refine j_astore (L' := [_, _, _, _, _, _]) hc dX10_landFor_5 (Nat.le_of_ble_eq_true rfl) rfl ?_
    refine j_aload hc dX10_landFor_7 rfl ?_
    refine j_ifnull (tgt := 37) hc dX10_landFor_9 (by decide) (fun zc1 => ?_) (fun zc1 => ?_)
    · exact absurd zc1 (by simp)
    · refine j_iload_n hc dX10_landFor_12 rfl ?_
      refine j_iconst hc dX10_landFor_13 ?_
      refine j_bipush hc dX10_landFor_14 (by decide) ?_
      refine j_callS (d' := d - 1) hc dX10_landFor_16 sX10_90 (ev_X10_within (by omega) hin ⟨by omega, by omega⟩ ⟨by omega, by omega⟩) rfl (by omega) (by omega) (by omega) rfl rfl (Nat.le_of_ble_eq_true rfl) (ret1 ?_)
      refine j_if_eq (b := 0) (tgt := 37) hc dX10_landFor_19 (by decide) (by split <;> exact ⟨by omega, by omega⟩) (fun zc2 => ?_) (fun zc2 => ?_)
      · refine j_null hc dX10_landFor_37 ?_
        exact j_aret hc he dX10_landFor_38 rfl (by first | exact Or.inl ⟨_, rfl⟩ | exact Or.inr ⟨_, rfl⟩) (by omega) (by omega) ⟨rfl, rfl⟩
      · have zw1 := one_pos zc2
        refine j_iload_n hc dX10_landFor_22 rfl ?_
        refine j_iconst hc dX10_landFor_23 ?_
        refine j_aload hc dX10_landFor_24 rfl ?_
        refine j_get hc dX10_landFor_26 fX10_119 hL.1 rfl ?_
        refine j_iconst hc dX10_landFor_29 ?_
        refine j_isub hc dX10_landFor_30 ?_
        refine j_callS (d' := d - 1) hc dX10_landFor_31 sX10_90 (ev_X10_within (by omega) his ⟨by omega, by omega⟩ ⟨by omega, by omega⟩) rfl (by omega) (by omega) (by omega) rfl rfl (Nat.le_of_ble_eq_true rfl) (ret1 ?_)
        refine j_if_ne (b := 0) (tgt := 39) hc dX10_landFor_34 (by decide) (by split <;> exact ⟨by omega, by omega⟩) (fun zc3 => ?_) (fun zc3 => ?_)
        · have zw2 := one_pos zc3
          refine j_iload hc dX10_landFor_39 rfl ?_
          refine j_iconst hc dX10_landFor_41 ?_
          refine j_bipush hc dX10_landFor_42 (by decide) ?_
          refine j_callS (d' := d - 1) hc dX10_landFor_44 sX10_90 (ev_X10_within (by omega) hia ⟨by omega, by omega⟩ ⟨by omega, by omega⟩) rfl (by omega) (by omega) (by omega) rfl rfl (Nat.le_of_ble_eq_true rfl) (ret1 ?_)
          refine j_if_eq (b := 0) (tgt := 55) hc dX10_landFor_47 (by decide) (by split <;> exact ⟨by omega, by omega⟩) (fun zc4 => ?_) (fun zc4 => ?_)
          · refine j_null hc dX10_landFor_55 ?_
            exact j_aret hc he dX10_landFor_56 rfl (by first | exact Or.inl ⟨_, rfl⟩ | exact Or.inr ⟨_, rfl⟩) (by omega) (by omega) ⟨rfl, rfl⟩
          · exact absurd (show laV S l n s a from ⟨hcs, ⟨zw1.1, zw1.2⟩, ⟨zw2.1, by have := zw2.2; omega⟩, (one_pos zc4).1, (one_pos zc4).2⟩) hv
        · refine j_null hc dX10_landFor_37 ?_
          exact j_aret hc he dX10_landFor_38 rfl (by first | exact Or.inl ⟨_, rfl⟩ | exact Or.inr ⟨_, rfl⟩) (by omega) (by omega) ⟨rfl, rfl⟩
  · skip
    refine Ev.mk (by decide +kernel) [_, _, _, _, _, _] rfl (Nat.le_of_ble_eq_true rfl) (fun w hc he => ?_)
    refine j_aload_n hc dX10_landFor_0 rfl ?_
    refine j_iload_n hc dX10_landFor_1 rfl ?_
    refine j_callV (d' := d - 1) hc dX10_landFor_2 vX10_115 zb0 (ev_X10_landAt_no (by omega) hB hil hcs) rfl (by omega) (by omega) (by omega) rfl rfl (Nat.le_of_ble_eq_true rfl) (ret1 ?_)
    refine j_astore (L' := [_, _, _, _, _, _]) hc dX10_landFor_5 (Nat.le_of_ble_eq_true rfl) rfl ?_
    refine j_aload hc dX10_landFor_7 rfl ?_
    refine j_ifnull (tgt := 37) hc dX10_landFor_9 (by decide) (fun zc1 => ?_) (fun zc1 => ?_)
    · refine j_null hc dX10_landFor_37 ?_
      exact j_aret hc he dX10_landFor_38 rfl (by first | exact Or.inl ⟨_, rfl⟩ | exact Or.inr ⟨_, rfl⟩) (by omega) (by omega) ⟨rfl, rfl⟩
    · exact absurd rfl zc1
set_option maxRecDepth 100000 in
set_option maxHeartbeats 4000000 in
theorem ev_X10_planFor_ok {k : WC} {d : Nat} {h : AH} {S : BaS} {l sr n s a : Int} (hd : 5 ≤ d) (hB : BarnAt h S) (hv : plV S l sr n s a) : Ev k d mdX10_planFor h [vR (0, 0), vI l, vI sr, vI n, vI s, vI a] 6 3975 (pe fun v h' => v = vR (50, 6 * l + sr) ∧ ∃ (pl' : Int → Option Nm) (wf : Option Nm) (kf bf lf wl : Int → Int), LandX h' l (bD S l) (bE S l) (ruC S l) sr pl' ∧ PlnHas h' l (bD S l) (bE S l) (ruC S l) sr (lCo (bD S l)) wf kf bf lf wl ∧ RuOK h' (bE S l) (ruC S l) ∧ Fr (isSp S l sr) h h') := by
  obtain ⟨⟨⟨zb0, zb11, zb12, zb13, zb14, zb141, zb15, zb18⟩, zTp, zRd⟩, zSp, zTw, zSt, zL, zK⟩ := id hB
  obtain ⟨zT1, ⟨zlc0, zlc1⟩, ⟨zrc0, zrc1⟩, zKl, zKr, zKw, ⟨zto0, zto1⟩, zse0, zse1⟩ := id zK
  obtain ⟨hva, hsr0, hsr1⟩ := id hv
  obtain ⟨hvl, ⟨hn1, hn⟩, ⟨hs0, hs1⟩, ha0, ha1⟩ := id hva
  obtain ⟨hl0, hl1⟩ := id hvl
  obtain ⟨hD, hE, hyr, hyo⟩ := zKl l hl0 hl1
  obtain ⟨pl, hL, hpl⟩ := zL.1 l hl0 hl1
  have hd1 := hD.1
  have hd2 := hD.2.1
  refine Ev.mk (by decide +kernel) [_, _, _, _, _, _, _] rfl (Nat.le_of_ble_eq_true rfl) (fun w hc he => ?_)
  refine j_aload_n hc dX10_planFor_0 rfl ?_
  refine j_iload_n hc dX10_planFor_1 rfl ?_
  refine j_iload_n hc dX10_planFor_2 rfl ?_
  refine j_iload hc dX10_planFor_3 rfl ?_
  refine j_iload hc dX10_planFor_5 rfl ?_
  refine j_callV (d' := d - 1) hc dX10_planFor_7 vX10_199 zb0 (ev_X10_landFor_ok (by omega) hB hva) rfl (by omega) (by omega) (by omega) rfl rfl (Nat.le_of_ble_eq_true rfl) (ret1 ?_)
  refine j_astore (L' := [_, _, _, _, _, _, _]) hc dX10_planFor_10 (Nat.le_of_ble_eq_true rfl) rfl ?_
  refine j_aload hc dX10_planFor_12 rfl ?_
  refine j_ifnull (tgt := 26) hc dX10_planFor_14 (by decide) (fun zc1 => ?_) (fun zc1 => ?_)
  · exact absurd zc1 (by simp)
  · refine j_iload_n hc dX10_planFor_17 rfl ?_
    refine j_iconst hc dX10_planFor_18 ?_
    refine j_iconst hc dX10_planFor_19 ?_
    refine j_callS (d' := d - 1) hc dX10_planFor_20 sX10_90 (ev_X10_within (by omega) ⟨by omega, by omega⟩ ⟨by omega, by omega⟩ ⟨by omega, by omega⟩) rfl (by omega) (by omega) (by omega) rfl rfl (Nat.le_of_ble_eq_true rfl) (ret1 ?_)
    refine j_if_ne (b := 0) (tgt := 30) hc dX10_planFor_23 (by decide) (by split <;> exact ⟨by omega, by omega⟩) (fun zc2 => ?_) (fun zc2 => ?_)
    · refine j_aload hc dX10_planFor_30 rfl ?_
      refine j_iload_n hc dX10_planFor_32 rfl ?_
      refine j_callV (d' := d - 1) hc dX10_planFor_33 vX10_306 hL.1 (ev_X0_planOf (ru := ruC S l) hsr0 hsr1 (by omega) hD ⟨pl, hL, hpl⟩) rfl (by omega) (by omega) (by omega) rfl rfl (Nat.le_of_ble_eq_true rfl) (retE fun zv33 zq33 zp33 => ?_)
      obtain ⟨zv33, pl9, cs9, wf9, kf9, bf9, lf9, wl9, zX9, zH9, zF9⟩ := zp33
      subst zv33
      have zcs9 : cs9 = lCo (bD S l) := zH9.2.2.1 (by omega)
      subst zcs9
      exact j_aret hc he dX10_planFor_36 rfl (by first | exact Or.inl ⟨_, rfl⟩ | exact Or.inr ⟨_, rfl⟩) (by omega) (by omega) ⟨_, rfl, rfl, _, _, _, _, _, _, zX9, zH9, RuOK.fr (zL.ru zK hl0 hl1) (fun z z0 z1 => zF9 z (fun y => by rcases y with y | y <;> first | omega | (rw [y] at z0; simp at z0))), zF9.mono fun z zz => Or.inl zz⟩
    · exact absurd (show 0 ≤ sr ∧ sr ≤ 4 from ⟨by omega, by omega⟩) (one_neg zc2)
set_option maxRecDepth 100000 in
set_option maxHeartbeats 4000000 in
theorem ev_X10_planFor_no {k : WC} {d : Nat} {h : AH} {S : BaS} {l sr n s a : Int} (hd : 5 ≤ d) (hB : BarnAt h S) (hil : inI l) (hir : inI sr) (hin : inI n) (his : inI s) (hia : inI a) (hv : ¬ plV S l sr n s a) : Ev k d mdX10_planFor h [vR (0, 0), vI l, vI sr, vI n, vI s, vI a] 0 0 (pr vN h) := by
  obtain ⟨⟨⟨zb0, zb11, zb12, zb13, zb14, zb141, zb15, zb18⟩, zTp, zRd⟩, zSp, zTw, zSt, zL, zK⟩ := id hB
  obtain ⟨zT1, ⟨zlc0, zlc1⟩, ⟨zrc0, zrc1⟩, zKl, zKr, zKw, ⟨zto0, zto1⟩, zse0, zse1⟩ := id zK
  by_cases hcs : laV S l n s a
  · skip
    refine Ev.mk (by decide +kernel) [_, _, _, _, _, _, _] rfl (Nat.le_of_ble_eq_true rfl) (fun w hc he => ?_)
    refine j_aload_n hc dX10_planFor_0 rfl ?_
    refine j_iload_n hc dX10_planFor_1 rfl ?_
    refine j_iload_n hc dX10_planFor_2 rfl ?_
    refine j_iload hc dX10_planFor_3 rfl ?_
    refine j_iload hc dX10_planFor_5 rfl ?_
    refine j_callV (d' := d - 1) hc dX10_planFor_7 vX10_199 zb0 (ev_X10_landFor_ok (by omega) hB hcs) rfl (by omega) (by omega) (by omega) rfl rfl (Nat.le_of_ble_eq_true rfl) (ret1 ?_)
    refine j_astore (L' := [_, _, _, _, _, _, _]) hc dX10_planFor_10 (Nat.le_of_ble_eq_true rfl) rfl ?_
    refine j_aload hc dX10_planFor_12 rfl ?_
    refine j_ifnull (tgt := 26) hc dX10_planFor_14 (by decide) (fun zc1 => ?_) (fun zc1 => ?_)
    · exact absurd zc1 (by simp)
    · refine j_iload_n hc dX10_planFor_17 rfl ?_
      refine j_iconst hc dX10_planFor_18 ?_
      refine j_iconst hc dX10_planFor_19 ?_
      refine j_callS (d' := d - 1) hc dX10_planFor_20 sX10_90 (ev_X10_within (by omega) hir ⟨by omega, by omega⟩ ⟨by omega, by omega⟩) rfl (by omega) (by omega) (by omega) rfl rfl (Nat.le_of_ble_eq_true rfl) (ret1 ?_)
      refine j_if_ne (b := 0) (tgt := 30) hc dX10_planFor_23 (by decide) (by split <;> exact ⟨by omega, by omega⟩) (fun zc2 => ?_) (fun zc2 => ?_)
      · exact absurd (show plV S l sr n s a from ⟨hcs, (one_pos zc2).1, (one_pos zc2).2⟩) hv
      · refine j_null hc dX10_planFor_26 ?_
        refine j_goto (tgt := 36) hc dX10_planFor_27 (by decide) ?_
        exact j_aret hc he dX10_planFor_36 rfl (by first | exact Or.inl ⟨_, rfl⟩ | exact Or.inr ⟨_, rfl⟩) (by omega) (by omega) ⟨rfl, rfl⟩
  · skip
    refine Ev.mk (by decide +kernel) [_, _, _, _, _, _, _] rfl (Nat.le_of_ble_eq_true rfl) (fun w hc he => ?_)
    refine j_aload_n hc dX10_planFor_0 rfl ?_
    refine j_iload_n hc dX10_planFor_1 rfl ?_
    refine j_iload_n hc dX10_planFor_2 rfl ?_
    refine j_iload hc dX10_planFor_3 rfl ?_
    refine j_iload hc dX10_planFor_5 rfl ?_
    refine j_callV (d' := d - 1) hc dX10_planFor_7 vX10_199 zb0 (ev_X10_landFor_no (by omega) hB hil hin his hia hcs) rfl (by omega) (by omega) (by omega) rfl rfl (Nat.le_of_ble_eq_true rfl) (ret1 ?_)
    refine j_astore (L' := [_, _, _, _, _, _, _]) hc dX10_planFor_10 (Nat.le_of_ble_eq_true rfl) rfl ?_
    refine j_aload hc dX10_planFor_12 rfl ?_
    refine j_ifnull (tgt := 26) hc dX10_planFor_14 (by decide) (fun zc1 => ?_) (fun zc1 => ?_)
    · refine j_null hc dX10_planFor_26 ?_
      refine j_goto (tgt := 36) hc dX10_planFor_27 (by decide) ?_
      exact j_aret hc he dX10_planFor_36 rfl (by first | exact Or.inl ⟨_, rfl⟩ | exact Or.inr ⟨_, rfl⟩) (by omega) (by omega) ⟨rfl, rfl⟩
    · exact absurd rfl zc1
set_option maxRecDepth 100000 in
set_option maxHeartbeats 4000000 in
theorem ev_X10_planAt_ok {k : WC} {d : Nat} {h : AH} {S : BaS} {l sr n s a : Int} (hd : 6 ≤ d) (hB : BarnAt h S) (hv : plV S l sr n s a) : Ev k d mdX10_planAt h [vR (0, 0), vI l, vI sr, vI n, vI s, vI a] 6 3975 (pe fun v h' => v = vR (50, 6 * l + sr) ∧ PlR S l sr n s h h') := by
  obtain ⟨⟨⟨zb0, zb11, zb12, zb13, zb14, zb141, zb15, zb18⟩, zTp, zRd⟩, zSp, zTw, zSt, zL, zK⟩ := id hB
  obtain ⟨zT1, ⟨zlc0, zlc1⟩, ⟨zrc0, zrc1⟩, zKl, zKr, zKw, ⟨zto0, zto1⟩, zse0, zse1⟩ := id zK
  obtain ⟨hva, hsr0, hsr1⟩ := id hv
  obtain ⟨hvl, ⟨hn1, hn⟩, ⟨hs0, hs1⟩, ha0, ha1⟩ := id hva
  obtain ⟨hl0, hl1⟩ := id hvl
  obtain ⟨hD, hE, hyr, hyo⟩ := zKl l hl0 hl1
  obtain ⟨pl, hL, hpl⟩ := zL.1 l hl0 hl1
  have hd1 := hD.1
  have hd2 := hD.2.1
  refine Ev.mk (by decide +kernel) [_, _, _, _, _, _, _] rfl (Nat.le_of_ble_eq_true rfl) (fun w hc he => ?_)
  refine j_aload_n hc dX10_planAt_0 rfl ?_
  refine j_iload_n hc dX10_planAt_1 rfl ?_
  refine j_iload_n hc dX10_planAt_2 rfl ?_
  refine j_iload_n hc dX10_planAt_3 rfl ?_
  refine j_iload hc dX10_planAt_4 rfl ?_
  refine j_iload hc dX10_planAt_6 rfl ?_
  refine j_callV (d' := d - 1) hc dX10_planAt_8 vX10_314 zb0 (ev_X10_planFor_ok (by omega) hB hv) rfl (by omega) (by omega) (by omega) rfl rfl (Nat.le_of_ble_eq_true rfl) (retE fun zv8 zq8 zp8 => ?_)
  obtain ⟨zv8, pl8, wf8, kf8, bf8, lf8, wl8, zX8, zH8, zR8, zF8⟩ := zp8
  subst zv8
  have zsrj : srj sr = sr := by unfold srj; rw [if_neg (by omega)]
  refine j_astore (L' := [_, _, _, _, _, _, _]) hc dX10_planAt_11 (Nat.le_of_ble_eq_true rfl) rfl ?_
  refine j_aload hc dX10_planAt_13 rfl ?_
  refine j_ifnull (tgt := 26) hc dX10_planAt_15 (by decide) (fun zc1 => ?_) (fun zc1 => ?_)
  · exact absurd zc1 (by simp)
  · refine j_aload hc dX10_planAt_18 rfl ?_
    refine j_iload_n hc dX10_planAt_20 rfl ?_
    refine j_iload hc dX10_planAt_21 rfl ?_
    refine j_callV (d' := d - 1) hc dX10_planAt_23 vX10_227 zH8.2.2.2.1.1 (ev_X2_reckonTo (ru := ruC S l) (by omega) zX8.1 hD hE (by have := zH8.2.2.2.1; rw [zsrj] at this; exact this) zR8 hn1 hn hs0 hs1 zH8.1 zH8.2.1 hsr0 hsr1) rfl (by omega) (by omega) (by omega) rfl rfl (Nat.le_of_ble_eq_true rfl) (retN fun zq23 zp23 => ?_)
    obtain ⟨kf7, bf7, lf7, zP7, zn7, zm7, zR7, zF7⟩ := zp23
    have zF7b : Fr (isSp S l sr) zq8 zq23 := zF7.mono fun z zz => isPl_sp zz
    have zX7 : LandX zq23 l (bD S l) (bE S l) (ruC S l) sr _ := zX8.fr fun z hz => zF7 z (fun y => by
      rcases y with y | y
      · rcases y with rfl | rfl | rfl | rfl <;> (simp at hz <;> omega)
      · have := isOwn_lo y; rcases hz with hz | hz <;> omega)
    have zH7 : PlnHas zq23 l (bD S l) (bE S l) (ruC S l) sr (lCo (bD S l)) wf8 kf7 bf7 lf7 wl8 := ⟨zH8.1, zH8.2.1, zH8.2.2.1, by rw [zsrj]; exact zP7, PlanW.mono zm7 (zH8.2.2.2.2.fr (zF7 _ (fun y => by
      rcases y with y | y
      · rcases y with y | y | y | y <;> simp at y
      · have := isOwn_lo y; simp at this)))⟩
    refine j_aload hc dX10_planAt_26 rfl ?_
    exact j_aret hc he dX10_planAt_28 rfl (by first | exact Or.inl ⟨_, rfl⟩ | exact Or.inr ⟨_, rfl⟩) (by omega) (by omega) ⟨_, rfl, rfl, _, _, _, _, _, _, zX7, zH7, zn7, zR7, zF8.tr zF7b⟩
set_option maxRecDepth 100000 in
set_option maxHeartbeats 4000000 in
theorem ev_X10_planAt_no {k : WC} {d : Nat} {h : AH} {S : BaS} {l sr n s a : Int} (hd : 6 ≤ d) (hB : BarnAt h S) (hil : inI l) (hir : inI sr) (hin : inI n) (his : inI s) (hia : inI a) (hv : ¬ plV S l sr n s a) : Ev k d mdX10_planAt h [vR (0, 0), vI l, vI sr, vI n, vI s, vI a] 0 0 (pr vN h) := by
  obtain ⟨⟨⟨zb0, zb11, zb12, zb13, zb14, zb141, zb15, zb18⟩, zTp, zRd⟩, zSp, zTw, zSt, zL, zK⟩ := id hB
  obtain ⟨zT1, ⟨zlc0, zlc1⟩, ⟨zrc0, zrc1⟩, zKl, zKr, zKw, ⟨zto0, zto1⟩, zse0, zse1⟩ := id zK
  refine Ev.mk (by decide +kernel) [_, _, _, _, _, _, _] rfl (Nat.le_of_ble_eq_true rfl) (fun w hc he => ?_)
  refine j_aload_n hc dX10_planAt_0 rfl ?_
  refine j_iload_n hc dX10_planAt_1 rfl ?_
  refine j_iload_n hc dX10_planAt_2 rfl ?_
  refine j_iload_n hc dX10_planAt_3 rfl ?_
  refine j_iload hc dX10_planAt_4 rfl ?_
  refine j_iload hc dX10_planAt_6 rfl ?_
  refine j_callV (d' := d - 1) hc dX10_planAt_8 vX10_314 zb0 (ev_X10_planFor_no (by omega) hB hil hir hin his hia hv) rfl (by omega) (by omega) (by omega) rfl rfl (Nat.le_of_ble_eq_true rfl) (ret1 ?_)
  refine j_astore (L' := [_, _, _, _, _, _, _]) hc dX10_planAt_11 (Nat.le_of_ble_eq_true rfl) rfl ?_
  refine j_aload hc dX10_planAt_13 rfl ?_
  refine j_ifnull (tgt := 26) hc dX10_planAt_15 (by decide) (fun zc1 => ?_) (fun zc1 => ?_)
  · refine j_aload hc dX10_planAt_26 rfl ?_
    exact j_aret hc he dX10_planAt_28 rfl (by first | exact Or.inl ⟨_, rfl⟩ | exact Or.inr ⟨_, rfl⟩) (by omega) (by omega) ⟨rfl, rfl⟩
  · exact absurd rfl zc1
abbrev paV (S : BaS) (l sr n : Int) : Prop := lnV S l ∧ (1 ≤ n ∧ n ≤ 12) ∧ 0 ≤ sr ∧ sr ≤ 4
def PlX (S : BaS) (l sr n : Int) (m : Int) (h h' : AH) : Prop := ∃ (pl' : Int → Option Nm) (wf : Option Nm) (kf bf lf wl : Int → Int), LandX h' l (bD S l) (bE S l) (ruC S l) sr pl' ∧ PlnHas h' l (bD S l) (bE S l) (ruC S l) sr (lCo (bD S l)) wf kf bf lf wl ∧ (∀ s : Int, 0 ≤ s → s < m → n ≤ lf (laN (bD S l) (n - 1).toNat s)) ∧ RuOK h' (bE S l) (ruC S l) ∧ Fr (isSp S l sr) h h'
theorem PlX.barn {S : BaS} {l sr n m : Int} {h h' : AH} (r : PlX S l sr n m h h') (a : BarnAt h S) (l0 : 0 ≤ l) (l1 : l < bLc S) (h0 : 0 ≤ sr) (h9 : sr ≤ 5) : BarnAt h' S := by
  obtain ⟨pl', wf, kf, bf, lf, wl, h1, h2, h3, h4, h5⟩ := r
  exact a.plan l0 l1 (h5.mono fun z zz => isSp_lo h0 h9 zz) (h1.join h2) h4
set_option maxRecDepth 100000 in
set_option maxHeartbeats 4000000 in
theorem lp_X10_planForAllSeasons {k : WC} {d : Nat} {w : MC} {h : AH} {S : BaS} {l sr n : Int} (hd : 6 ≤ d) (hD : LOK (bD S l)) (hE : YOK (bE S l)) (hn1 : 1 ≤ n) (hn : n ≤ 12) (hsr0 : 0 ≤ sr) (hsr1 : sr ≤ 4) (hc : Cx w k d 6 3975 mdX10_planForAllSeasons) (he : Ends w 6 3975 (pe fun v h' => v = vR (50, 6 * l + sr) ∧ PlX S l sr n (lSe (bD S l)) h h')) : ∀ (zm : Nat) (s : Int) (h' : AH), (lSe (bD S l) - s).toNat = zm → 0 ≤ s → s ≤ lSe (bD S l) → PlX S l sr n s h h' → J w 6 3975 14 [some (vR (0, 0)), some (vI l), some (vI sr), some (vI n), some (vR (50, 6 * l + sr)), some (vI s)] [] h' := by
  intro zm
  induction zm using Nat.strongRecOn with
  | _ zm ih =>
    intro s h' hm hs0 hs1 hX
    obtain ⟨pl8, wf8, kf8, bf8, lf8, wl8, zX8, zH8, zn8, zR8, zF8⟩ := id hX
    have zsrj : srj sr = sr := by unfold srj; rw [if_neg (by omega)]
    have hd2 := hD.2.1
    refine j_aload hc dX10_planForAllSeasons_14 rfl ?_
    refine j_ifnull (tgt := 46) hc dX10_planForAllSeasons_16 (by decide) (fun zc1 => ?_) (fun zc1 => ?_)
    · exact absurd zc1 (by simp)
    · refine j_iload hc dX10_planForAllSeasons_19 rfl ?_
      refine j_aload hc dX10_planForAllSeasons_21 rfl ?_
      refine j_get hc dX10_planForAllSeasons_23 fX10_240 zH8.2.2.2.1.1 rfl ?_
      refine j_get hc dX10_planForAllSeasons_26 fX10_119 zX8.1.1 rfl ?_
      refine j_icmp_ge (tgt := 46) hc dX10_planForAllSeasons_29 (by decide) ⟨by omega, by omega⟩ ⟨by omega, by omega⟩ (fun zc2 => ?_) (fun zc2 => ?_)
      · refine j_aload hc dX10_planForAllSeasons_46 rfl ?_
        exact j_aret hc he dX10_planForAllSeasons_48 rfl (by first | exact Or.inl ⟨_, rfl⟩ | exact Or.inr ⟨_, rfl⟩) (by omega) (by omega) ⟨_, rfl, rfl, by (obtain rfl : s = lSe (bD S l) := by omega); exact hX⟩
      · refine j_aload hc dX10_planForAllSeasons_32 rfl ?_
        refine j_iload_n hc dX10_planForAllSeasons_34 rfl ?_
        refine j_iload hc dX10_planForAllSeasons_35 rfl ?_
        refine j_callV (d' := d - 1) hc dX10_planForAllSeasons_37 vX10_227 zH8.2.2.2.1.1 (ev_X2_reckonTo (ru := ruC S l) (by omega) zX8.1 hD hE (by have := zH8.2.2.2.1; rw [zsrj] at this; exact this) zR8 hn1 hn hs0 (by omega) zH8.1 zH8.2.1 hsr0 hsr1) rfl (by omega) (by omega) (by omega) rfl rfl (Nat.le_of_ble_eq_true rfl) (retN fun zq37 zp37 => ?_)
        obtain ⟨kf7, bf7, lf7, zP7, zn7, zm7, zR7, zF7⟩ := zp37
        have zF7b : Fr (isSp S l sr) h' zq37 := zF7.mono fun z zz => isPl_sp zz
        have zX7 : LandX zq37 l (bD S l) (bE S l) (ruC S l) sr _ := zX8.fr fun z hz => zF7 z (fun y => by
          rcases y with y | y
          · rcases y with rfl | rfl | rfl | rfl <;> (simp at hz <;> omega)
          · have := isOwn_lo y; rcases hz with hz | hz <;> omega)
        have zH7 : PlnHas zq37 l (bD S l) (bE S l) (ruC S l) sr (lCo (bD S l)) wf8 kf7 bf7 lf7 wl8 := ⟨zH8.1, zH8.2.1, zH8.2.2.1, by rw [zsrj]; exact zP7, PlanW.mono zm7 (zH8.2.2.2.2.fr (zF7 _ (fun y => by
          rcases y with y | y
          · rcases y with y | y | y | y <;> simp at y
          · have := isOwn_lo y; simp at this)))⟩
        refine j_iinc (L' := [_, _, _, _, _, _]) hc dX10_planForAllSeasons_40 rfl (Nat.le_of_ble_eq_true rfl) rfl ?_
        refine j_goto (tgt := 14) hc dX10_planForAllSeasons_43 (by decide) ?_
        exact ih _ (by omega) (s + 1) _ rfl (by omega) (by omega) ⟨_, _, _, _, _, _, zX7, zH7, fun t t0 t1 => by
          by_cases e : t = s
          · rw [e]; exact zn7
          · have := zn8 t t0 (by omega)
            have zl9 := laN_b hD (n - 1).toNat (s := t) t0 (by omega)
            have := zm7 _ zl9.1 zl9.2
            omega, zR7, zF8.tr zF7b⟩
set_option maxRecDepth 100000 in
set_option maxHeartbeats 4000000 in
theorem ev_X10_planForAllSeasons_ok {k : WC} {d : Nat} {h : AH} {S : BaS} {l sr n : Int} (hd : 6 ≤ d) (hB : BarnAt h S) (hv : paV S l sr n) : Ev k d mdX10_planForAllSeasons h [vR (0, 0), vI l, vI sr, vI n] 6 3975 (pe fun v h' => v = vR (50, 6 * l + sr) ∧ PlX S l sr n (lSe (bD S l)) h h') := by
  obtain ⟨⟨⟨zb0, zb11, zb12, zb13, zb14, zb141, zb15, zb18⟩, zTp, zRd⟩, zSp, zTw, zSt, zL, zK⟩ := id hB
  obtain ⟨zT1, ⟨zlc0, zlc1⟩, ⟨zrc0, zrc1⟩, zKl, zKr, zKw, ⟨zto0, zto1⟩, zse0, zse1⟩ := id zK
  obtain ⟨hvl, ⟨hn1, hn⟩, hsr0, hsr1⟩ := id hv
  obtain ⟨hl0, hl1⟩ := id hvl
  obtain ⟨hD, hE, hyr, hyo⟩ := zKl l hl0 hl1
  have hd1 := hD.1
  refine Ev.mk (by decide +kernel) [_, _, _, _, _, _] rfl (Nat.le_of_ble_eq_true rfl) (fun w hc he => ?_)
  refine j_aload_n hc dX10_planForAllSeasons_0 rfl ?_
  refine j_iload_n hc dX10_planForAllSeasons_1 rfl ?_
  refine j_iload_n hc dX10_planForAllSeasons_2 rfl ?_
  refine j_iload_n hc dX10_planForAllSeasons_3 rfl ?_
  refine j_iconst hc dX10_planForAllSeasons_4 ?_
  refine j_iconst hc dX10_planForAllSeasons_5 ?_
  refine j_callV (d' := d - 1) hc dX10_planForAllSeasons_6 vX10_314 zb0 (ev_X10_planFor_ok (by omega) hB (show plV S l sr n 0 0 from ⟨⟨hvl, ⟨hn1, hn⟩, ⟨by omega, by omega⟩, by omega, by omega⟩, hsr0, hsr1⟩)) rfl (by omega) (by omega) (by omega) rfl rfl (Nat.le_of_ble_eq_true rfl) (retE fun zv6 zq6 zp6 => ?_)
  obtain ⟨zv6, pl8, wf8, kf8, bf8, lf8, wl8, zX8, zH8, zR8, zF8⟩ := zp6
  subst zv6
  have zsrj : srj sr = sr := by unfold srj; rw [if_neg (by omega)]
  refine j_astore (L' := [_, _, _, _, _, _]) hc dX10_planForAllSeasons_9 (Nat.le_of_ble_eq_true rfl) rfl ?_
  refine j_iconst hc dX10_planForAllSeasons_11 ?_
  refine j_istore (L' := [_, _, _, _, _, _]) hc dX10_planForAllSeasons_12 (Nat.le_of_ble_eq_true rfl) rfl ?_
  exact lp_X10_planForAllSeasons hd hD hE hn1 hn hsr0 hsr1 hc he _ 0 _ rfl (by omega) (by omega) ⟨_, _, _, _, _, _, zX8, zH8, fun s s0 s1 => by omega, zR8, zF8⟩
set_option maxRecDepth 100000 in
set_option maxHeartbeats 4000000 in
theorem ev_X10_planForAllSeasons_no {k : WC} {d : Nat} {h : AH} {S : BaS} {l sr n : Int} (hd : 6 ≤ d) (hB : BarnAt h S) (hil : inI l) (hir : inI sr) (hin : inI n) (hv : ¬ paV S l sr n) : Ev k d mdX10_planForAllSeasons h [vR (0, 0), vI l, vI sr, vI n] 0 0 (pr vN h) := by
  obtain ⟨⟨⟨zb0, zb11, zb12, zb13, zb14, zb141, zb15, zb18⟩, zTp, zRd⟩, zSp, zTw, zSt, zL, zK⟩ := id hB
  obtain ⟨zT1, ⟨zlc0, zlc1⟩, ⟨zrc0, zrc1⟩, zKl, zKr, zKw, ⟨zto0, zto1⟩, zse0, zse1⟩ := id zK
  refine Ev.mk (by decide +kernel) [_, _, _, _, _, _] rfl (Nat.le_of_ble_eq_true rfl) (fun w hc he => ?_)
  refine j_aload_n hc dX10_planForAllSeasons_0 rfl ?_
  refine j_iload_n hc dX10_planForAllSeasons_1 rfl ?_
  refine j_iload_n hc dX10_planForAllSeasons_2 rfl ?_
  refine j_iload_n hc dX10_planForAllSeasons_3 rfl ?_
  refine j_iconst hc dX10_planForAllSeasons_4 ?_
  refine j_iconst hc dX10_planForAllSeasons_5 ?_
  refine j_callV (d' := d - 1) hc dX10_planForAllSeasons_6 vX10_314 zb0 (ev_X10_planFor_no (by omega) hB hil hir hin ⟨by omega, by omega⟩ ⟨by omega, by omega⟩ (fun z => hv ⟨z.1.1, z.1.2.1, z.2⟩)) rfl (by omega) (by omega) (by omega) rfl rfl (Nat.le_of_ble_eq_true rfl) (ret1 ?_)
  refine j_astore (L' := [_, _, _, _, _, _]) hc dX10_planForAllSeasons_9 (Nat.le_of_ble_eq_true rfl) rfl ?_
  refine j_iconst hc dX10_planForAllSeasons_11 ?_
  refine j_istore (L' := [_, _, _, _, _, _]) hc dX10_planForAllSeasons_12 (Nat.le_of_ble_eq_true rfl) rfl ?_
  refine j_aload hc dX10_planForAllSeasons_14 rfl ?_
  refine j_ifnull (tgt := 46) hc dX10_planForAllSeasons_16 (by decide) (fun zc1 => ?_) (fun zc1 => ?_)
  · refine j_aload hc dX10_planForAllSeasons_46 rfl ?_
    exact j_aret hc he dX10_planForAllSeasons_48 rfl (by first | exact Or.inl ⟨_, rfl⟩ | exact Or.inr ⟨_, rfl⟩) (by omega) (by omega) ⟨rfl, rfl⟩
  · exact absurd rfl zc1
