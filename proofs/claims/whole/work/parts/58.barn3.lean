/-! ===== the barn's answers ===== -/
def aTold (S : BaS) (l w : Int) : Int := if lnV S l then (if w = 0 then lSe (bD S l) else if w = 1 then lNe (bD S l) else if w = 2 then lCo (bD S l) else if w = 3 then lMi (bD S l) else if w = 4 then lRo (bD S l) else if w = 5 then yLaw (bE S l) else if w = 6 then yRn (bE S l) else if w = 7 then goS (bD S l) (lNe (bD S l)) else -1) else -1
def aEaten (S : BaS) (l e w : Int) : Int := if lnV S l ∧ 0 ≤ e ∧ e ≤ 200 then (if w = 0 then goS (bD S l) e else if w = 1 then prS (bD S l) e else if w = 2 then lNe (bD S l) - min e (lNe (bD S l)) else -1) else -1
def aLeft (S : BaS) (l x : Int) : Int := if lnV S l ∧ 0 ≤ x ∧ x ≤ 20 then leS (bD S l) x else -1
def kpA (S : BaS) (l sr n s a : Int) : Int := kpS (bD S l) (bE S l) (ruC S l) (lCo (bD S l)) sr n s a
def aKeep (S : BaS) (l sr n s a : Int) : Int := if plV S l sr n s a then kpA S l sr n s a else -1
def aSold (S : BaS) (l sr n s a : Int) : Int := if plV S l sr n s a then eaS (bD S l) sr (a - kpA S l sr n s a) else -1
def aPrice (S : BaS) (l sr n s a : Int) : Int := if plV S l sr n s a then poS (bD S l) sr (a - kpA S l sr n s a) else -1
def aBelow (S : BaS) (l n s : Int) : Int := if laV S l n s 0 then beN (bD S l) (n - 1).toNat s else -1
def aWelf (S : BaS) (l sr n s a : Int) : Int := if plV S l sr n s a then weN (bD S l) (bE S l) (ruC S l) (lCo (bD S l)) sr (n - 1).toNat s a else -1
def bpA (S : BaS) (l sr n s a : Int) : Int := bpS (bD S l) (bE S l) (lCo (bD S l)) sr n s a
def aTak (S : BaS) (l n s a : Int) : Int := if laV S l n s a then bpA S l 3 n s a else -1
def fsi (P : Nat → Bool) (f k : Nat) : Int := if fsk P f k < k + f then (fsk P f k : Int) else -1
def aUnl (S : BaS) (l n s : Int) : Int := if laV S l n s 0 then fsi (fun a => decide (kpA S l 1 n s a ≠ kpA S l 2 n s a)) 41 0 else -1
noncomputable def aEver (S : BaS) (l sr : Int) : Int := if lnV S l ∧ 0 ≤ sr ∧ sr ≤ 4 then fsi (fun n => @decide (alS (bD S l) (bE S l) (ruC S l) (lCo (bD S l)) sr n) (Classical.propDecidable _)) 10 2 else -1
def aEdge (S : BaS) (l n s a : Int) : Int := if laV S l n s a then fsi (fun c => decide (kpS (bD S l) (bE S l) (ruC S l) c 1 n s a = 0)) 31 0 else -1
def aJudge (S : BaS) (l n s : Int) : Int := if laV S l n s 0 then fsi (fun a => decide (kpA S l 1 n s a ≠ yTab (bE S l) (s * 41 + a))) 41 0 else -1
def nwS (D : LaS) (E : LaY) (cs n s a : Int) : Int := ntS D E cs (gaS D 2) (fun x => bpS D E cs 2 (n - 1) (nxS D s) (x - ceS (n - 1) (nxS D s))) n s a
def aNews (S : BaS) (l n s a : Int) : Int := if laV S l n s a ∧ 2 ≤ n then nwS (bD S l) (bE S l) (lCo (bD S l)) n s a - bpA S l 2 n s a else -1
theorem fsi_at {P : Nat → Bool} {f k j : Nat} (h0 : k ≤ j) (h1 : j < k + f) (hn : ∀ i, k ≤ i → i < j → P i = false) (hp : P j = true) : fsi P f k = j := by
  have h2 := fsk_skip P (j - k) (f - (j - k)) k (fun i a b => hn i a (by omega))
  rw [show f - (j - k) + (j - k) = f by omega, show k + (j - k) = j by omega] at h2
  have h3 : fsk P (f - (j - k)) j = j := by
    rw [show f - (j - k) = (f - (j - k) - 1) + 1 by omega]
    simp only [fsk, hp]
    rfl
  unfold fsi
  rw [h2, h3, if_pos (by omega)]
theorem fsi_no {P : Nat → Bool} {f k : Nat} (hn : ∀ i, k ≤ i → i < k + f → P i = false) : fsi P f k = -1 := by
  have h2 := fsk_skip P f 0 k hn
  unfold fsi
  rw [Nat.zero_add] at h2
  rw [h2]
  simp [fsk]
theorem kpA_b {S : BaS} (hK : BOK S) {l sr n s a : Int} (l0 : 0 ≤ l) (l1 : l < bLc S) (ha : 0 ≤ a) : 0 ≤ kpA S l sr n s a ∧ kpA S l sr n s a ≤ 20 := by
  obtain ⟨hD, hE, -⟩ := hK.2.2.2.1 l l0 l1
  exact kpS_b hD hE ha
set_option maxRecDepth 100000 in
set_option maxHeartbeats 4000000 in
theorem ev_X10_told_a {k : WC} {d : Nat} {h : AH} {S : BaS} {l wh : Int} (hd : 4 ≤ d) (hB : BarnAt h S) (hil : inI l) (hiw : inI wh) : Ev k d mdX10_told h [vR (0, 0), vI l, vI wh] 0 0 (pr (vI (aTold S l wh)) h) := by
  obtain ⟨⟨⟨zb0, zb11, zb12, zb13, zb14, zb141, zb15, zb18⟩, zTp, zRd⟩, zSp, zTw, zSt, zL, zK⟩ := id hB
  obtain ⟨zT1, ⟨zlc0, zlc1⟩, ⟨zrc0, zrc1⟩, zKl, zKr, zKw, ⟨zto0, zto1⟩, zse0, zse1⟩ := id zK
  by_cases hcs : lnV S l
  · skip
    have hv := hcs
    obtain ⟨hl0, hl1⟩ := id hcs
    obtain ⟨hD, hE, hyr, hyo⟩ := zKl l hl0 hl1
    obtain ⟨pl, hL, hpl⟩ := zL.1 l hl0 hl1
    have hd1 := hD.1
    have hd2 := hD.2.1
    have hd10 := hD.2.2.2.2.2.2.2.2.2.1
    refine Ev.mk (by decide +kernel) [_, _, _, _] rfl (Nat.le_of_ble_eq_true rfl) (fun w hc he => ?_)
    refine j_aload_n hc dX10_told_0 rfl ?_
    refine j_iload_n hc dX10_told_1 rfl ?_
    refine j_callV (d' := d - 1) hc dX10_told_2 vX10_115 zb0 (ev_X10_landAt_ok (by omega) hB hcs) rfl (by omega) (by omega) (by omega) rfl rfl (Nat.le_of_ble_eq_true rfl) (ret1 ?_)
    refine j_astore_n (L' := [_, _, _, _]) hc dX10_told_5 (Nat.le_of_ble_eq_true rfl) rfl ?_
    refine j_aload_n hc dX10_told_6 rfl ?_
    refine j_ifnonnull (tgt := 12) hc dX10_told_7 (by decide) (fun zc1 => ?_) (fun zc1 => ?_)
    · refine j_iload_n hc dX10_told_12 rfl ?_
      rcases (by omega : (wh < 0 ∨ 7 < wh) ∨ wh = 0 ∨ wh = 1 ∨ wh = 2 ∨ wh = 3 ∨ wh = 4 ∨ wh = 5 ∨ wh = 6 ∨ wh = 7) with zc2 | zc2 | zc2 | zc2 | zc2 | zc2 | zc2 | zc2 | zc2
      · refine j_tableOut (tgt := 106) hc dX10_told_13 hiw zc2 (by decide) ?_
        refine j_iconst hc dX10_told_106 ?_
        exact j_iret hc he dX10_told_107 rfl (by omega) (by omega) ⟨vI_eq (by unfold aTold; rw [if_pos hcs]; (repeat (first | rw [if_pos (by omega)] | rw [if_neg (by omega)]))), rfl⟩
      · refine j_tableIn (tgt := 60) (off := 47) hc dX10_told_13 hiw (by omega) (by omega) (by rw [zc2]; rfl) (by decide) ?_
        refine j_aload_n hc dX10_told_60 rfl ?_
        refine j_get hc dX10_told_61 fX10_119 hL.1 rfl ?_
        exact j_iret hc he dX10_told_64 rfl (by omega) (by omega) ⟨vI_eq (by unfold aTold; rw [if_pos hcs]; (repeat (first | rw [if_pos (by omega)] | rw [if_neg (by omega)]))), rfl⟩
      · refine j_tableIn (tgt := 65) (off := 52) hc dX10_told_13 hiw (by omega) (by omega) (by rw [zc2]; rfl) (by decide) ?_
        refine j_aload_n hc dX10_told_65 rfl ?_
        refine j_get hc dX10_told_66 fX10_122 hL.1 rfl ?_
        refine j_alenP hc dX10_told_69 hL.2.1 (by decide) ?_
        exact j_iret hc he dX10_told_70 rfl (by omega) (by omega) ⟨vI_eq (by unfold aTold; rw [if_pos hcs]; (repeat (first | rw [if_pos (by omega)] | rw [if_neg (by omega)]))), rfl⟩
      · refine j_tableIn (tgt := 71) (off := 58) hc dX10_told_13 hiw (by omega) (by omega) (by rw [zc2]; rfl) (by decide) ?_
        refine j_aload_n hc dX10_told_71 rfl ?_
        refine j_get hc dX10_told_72 fX10_125 hL.1 rfl ?_
        exact j_iret hc he dX10_told_75 rfl (by omega) (by omega) ⟨vI_eq (by unfold aTold; rw [if_pos hcs]; (repeat (first | rw [if_pos (by omega)] | rw [if_neg (by omega)]))), rfl⟩
      · refine j_tableIn (tgt := 76) (off := 63) hc dX10_told_13 hiw (by omega) (by omega) (by rw [zc2]; rfl) (by decide) ?_
        refine j_aload_n hc dX10_told_76 rfl ?_
        refine j_get hc dX10_told_77 fX10_128 hL.1 rfl ?_
        exact j_iret hc he dX10_told_80 rfl (by omega) (by omega) ⟨vI_eq (by unfold aTold; rw [if_pos hcs]; (repeat (first | rw [if_pos (by omega)] | rw [if_neg (by omega)]))), rfl⟩
      · refine j_tableIn (tgt := 81) (off := 68) hc dX10_told_13 hiw (by omega) (by omega) (by rw [zc2]; rfl) (by decide) ?_
        refine j_aload_n hc dX10_told_81 rfl ?_
        refine j_get hc dX10_told_82 fX10_131 hL.1 rfl ?_
        exact j_iret hc he dX10_told_85 rfl (by omega) (by omega) ⟨vI_eq (by unfold aTold; rw [if_pos hcs]; (repeat (first | rw [if_pos (by omega)] | rw [if_neg (by omega)]))), rfl⟩
      · refine j_tableIn (tgt := 86) (off := 73) hc dX10_told_13 hiw (by omega) (by omega) (by rw [zc2]; rfl) (by decide) ?_
        refine j_aload_n hc dX10_told_86 rfl ?_
        refine j_get hc dX10_told_87 fX10_134 hL.1 rfl ?_
        exact j_iret hc he dX10_told_90 rfl (by omega) (by omega) ⟨vI_eq (by unfold aTold; rw [if_pos hcs]; (repeat (first | rw [if_pos (by omega)] | rw [if_neg (by omega)]))), rfl⟩
      · refine j_tableIn (tgt := 91) (off := 78) hc dX10_told_13 hiw (by omega) (by omega) (by rw [zc2]; rfl) (by decide) ?_
        refine j_aload_n hc dX10_told_91 rfl ?_
        refine j_get hc dX10_told_92 fX10_137 hL.1 rfl ?_
        exact j_iret hc he dX10_told_95 rfl (by omega) (by omega) ⟨vI_eq (by unfold aTold; rw [if_pos hcs]; (repeat (first | rw [if_pos (by omega)] | rw [if_neg (by omega)]))), rfl⟩
      · refine j_tableIn (tgt := 96) (off := 83) hc dX10_told_13 hiw (by omega) (by omega) (by rw [zc2]; rfl) (by decide) ?_
        refine j_aload_n hc dX10_told_96 rfl ?_
        refine j_aload_n hc dX10_told_97 rfl ?_
        refine j_get hc dX10_told_98 fX10_122 hL.1 rfl ?_
        refine j_alenP hc dX10_told_101 hL.2.1 (by decide) ?_
        refine j_callV (d' := d - 1) hc dX10_told_102 vX10_140 hL.1 (ev_X0_goodsOf (by omega) hL hD ⟨by omega, by omega⟩) rfl (by omega) (by omega) (by omega) rfl rfl (Nat.le_of_ble_eq_true rfl) (ret1 ?_)
        exact j_iret hc he dX10_told_105 rfl (by omega) (by omega) ⟨vI_eq (by unfold aTold; rw [if_pos hcs, if_pos (by omega)]; (repeat (first | rw [if_pos (by omega)] | rw [if_neg (by omega)]))), rfl⟩
    · exact absurd zc1 (by simp)
  · skip
    refine Ev.mk (by decide +kernel) [_, _, _, _] rfl (Nat.le_of_ble_eq_true rfl) (fun w hc he => ?_)
    refine j_aload_n hc dX10_told_0 rfl ?_
    refine j_iload_n hc dX10_told_1 rfl ?_
    refine j_callV (d' := d - 1) hc dX10_told_2 vX10_115 zb0 (ev_X10_landAt_no (by omega) hB hil hcs) rfl (by omega) (by omega) (by omega) rfl rfl (Nat.le_of_ble_eq_true rfl) (ret1 ?_)
    refine j_astore_n (L' := [_, _, _, _]) hc dX10_told_5 (Nat.le_of_ble_eq_true rfl) rfl ?_
    refine j_aload_n hc dX10_told_6 rfl ?_
    refine j_ifnonnull (tgt := 12) hc dX10_told_7 (by decide) (fun zc1 => ?_) (fun zc1 => ?_)
    · exact absurd rfl zc1
    · refine j_iconst hc dX10_told_10 ?_
      exact j_iret hc he dX10_told_11 rfl (by omega) (by omega) ⟨vI_eq (by unfold aTold; rw [if_neg hcs]), rfl⟩
set_option maxRecDepth 100000 in
set_option maxHeartbeats 4000000 in
theorem ev_X10_eaten_a {k : WC} {d : Nat} {h : AH} {S : BaS} {l e wh : Int} (hd : 4 ≤ d) (hB : BarnAt h S) (hil : inI l) (hie : inI e) (hiw : inI wh) : Ev k d mdX10_eaten h [vR (0, 0), vI l, vI e, vI wh] 0 0 (pr (vI (aEaten S l e wh)) h) := by
  obtain ⟨⟨⟨zb0, zb11, zb12, zb13, zb14, zb141, zb15, zb18⟩, zTp, zRd⟩, zSp, zTw, zSt, zL, zK⟩ := id hB
  obtain ⟨zT1, ⟨zlc0, zlc1⟩, ⟨zrc0, zrc1⟩, zKl, zKr, zKw, ⟨zto0, zto1⟩, zse0, zse1⟩ := id zK
  by_cases hcs : lnV S l
  · skip
    have hv := hcs
    obtain ⟨hl0, hl1⟩ := id hcs
    obtain ⟨hD, hE, hyr, hyo⟩ := zKl l hl0 hl1
    obtain ⟨pl, hL, hpl⟩ := zL.1 l hl0 hl1
    have hd1 := hD.1
    have hd2 := hD.2.1
    have hd10 := hD.2.2.2.2.2.2.2.2.2.1
    refine Ev.mk (by decide +kernel) [_, _, _, _, _] rfl (Nat.le_of_ble_eq_true rfl) (fun w hc he => ?_)
    refine j_aload_n hc dX10_eaten_0 rfl ?_
    refine j_iload_n hc dX10_eaten_1 rfl ?_
    refine j_callV (d' := d - 1) hc dX10_eaten_2 vX10_115 zb0 (ev_X10_landAt_ok (by omega) hB hcs) rfl (by omega) (by omega) (by omega) rfl rfl (Nat.le_of_ble_eq_true rfl) (ret1 ?_)
    refine j_astore (L' := [_, _, _, _, _]) hc dX10_eaten_5 (Nat.le_of_ble_eq_true rfl) rfl ?_
    refine j_aload hc dX10_eaten_7 rfl ?_
    refine j_ifnull (tgt := 23) hc dX10_eaten_9 (by decide) (fun zc1 => ?_) (fun zc1 => ?_)
    · exact absurd zc1 (by simp)
    · refine j_iload_n hc dX10_eaten_12 rfl ?_
      refine j_iconst hc dX10_eaten_13 ?_
      refine j_sipush hc dX10_eaten_14 (by decide) ?_
      refine j_callS (d' := d - 1) hc dX10_eaten_17 sX10_90 (ev_X10_within (by omega) hie ⟨by omega, by omega⟩ ⟨by omega, by omega⟩) rfl (by omega) (by omega) (by omega) rfl rfl (Nat.le_of_ble_eq_true rfl) (ret1 ?_)
      refine j_if_ne (b := 0) (tgt := 25) hc dX10_eaten_20 (by decide) (by split <;> exact ⟨by omega, by omega⟩) (fun zc2 => ?_) (fun zc2 => ?_)
      · have zw : 0 ≤ e ∧ e ≤ 200 := one_pos zc2
        refine j_iload_n hc dX10_eaten_25 rfl ?_
        rcases (by omega : (wh < 0 ∨ 2 < wh) ∨ wh = 0 ∨ wh = 1 ∨ wh = 2) with zc3 | zc3 | zc3 | zc3
        · refine j_tableOut (tgt := 80) hc dX10_eaten_26 hiw zc3 (by decide) ?_
          refine j_iconst hc dX10_eaten_80 ?_
          exact j_iret hc he dX10_eaten_81 rfl (by omega) (by omega) ⟨vI_eq (by unfold aEaten; rw [if_pos ⟨hcs, zw⟩]; (repeat (first | rw [if_pos (by omega)] | rw [if_neg (by omega)]))), rfl⟩
        · refine j_tableIn (tgt := 52) (off := 26) hc dX10_eaten_26 hiw (by omega) (by omega) (by rw [zc3]; rfl) (by decide) ?_
          refine j_aload hc dX10_eaten_52 rfl ?_
          refine j_iload_n hc dX10_eaten_54 rfl ?_
          refine j_callV (d' := d - 1) hc dX10_eaten_55 vX10_140 hL.1 (ev_X0_goodsOf (by omega) hL hD ⟨by omega, by omega⟩) rfl (by omega) (by omega) (by omega) rfl rfl (Nat.le_of_ble_eq_true rfl) (ret1 ?_)
          exact j_iret hc he dX10_eaten_58 rfl (by omega) (by omega) ⟨vI_eq (by unfold aEaten; rw [if_pos zw, if_pos ⟨hcs, zw⟩]; (repeat (first | rw [if_pos (by omega)] | rw [if_neg (by omega)]))), rfl⟩
        · refine j_tableIn (tgt := 59) (off := 33) hc dX10_eaten_26 hiw (by omega) (by omega) (by rw [zc3]; rfl) (by decide) ?_
          refine j_aload hc dX10_eaten_59 rfl ?_
          refine j_iload_n hc dX10_eaten_61 rfl ?_
          refine j_callV (d' := d - 1) hc dX10_eaten_62 vX10_161 hL.1 (ev_X0_priceAfter (by omega) hL hD ⟨by omega, by omega⟩) rfl (by omega) (by omega) (by omega) rfl rfl (Nat.le_of_ble_eq_true rfl) (ret1 ?_)
          exact j_iret hc he dX10_eaten_65 rfl (by omega) (by omega) ⟨vI_eq (by unfold aEaten; rw [if_pos ⟨hcs, zw⟩]; (repeat (first | rw [if_pos (by omega)] | rw [if_neg (by omega)]))), rfl⟩
        · refine j_tableIn (tgt := 66) (off := 40) hc dX10_eaten_26 hiw (by omega) (by omega) (by rw [zc3]; rfl) (by decide) ?_
          refine j_aload hc dX10_eaten_66 rfl ?_
          refine j_get hc dX10_eaten_68 fX10_122 hL.1 rfl ?_
          refine j_alenP hc dX10_eaten_71 hL.2.1 (by decide) ?_
          refine j_aload hc dX10_eaten_72 rfl ?_
          refine j_iload_n hc dX10_eaten_74 rfl ?_
          refine j_callV (d' := d - 1) hc dX10_eaten_75 vX10_164 hL.1 (ev_X0_eatersOf (by omega) hL hD ⟨by omega, by omega⟩) rfl (by omega) (by omega) (by omega) rfl rfl (Nat.le_of_ble_eq_true rfl) (ret1 ?_)
          refine j_isub hc dX10_eaten_78 ?_
          exact j_iret hc he dX10_eaten_79 rfl (by omega) (by omega) ⟨vI_eq (by unfold aEaten; rw [if_pos ⟨hcs, zw⟩]; (repeat (first | rw [if_pos (by omega)] | rw [if_neg (by omega)]))), rfl⟩
      · have zw : ¬ (0 ≤ e ∧ e ≤ 200) := one_neg zc2
        refine j_iconst hc dX10_eaten_23 ?_
        exact j_iret hc he dX10_eaten_24 rfl (by omega) (by omega) ⟨vI_eq (by unfold aEaten; rw [if_neg (fun z => zw z.2)]), rfl⟩
  · skip
    refine Ev.mk (by decide +kernel) [_, _, _, _, _] rfl (Nat.le_of_ble_eq_true rfl) (fun w hc he => ?_)
    refine j_aload_n hc dX10_eaten_0 rfl ?_
    refine j_iload_n hc dX10_eaten_1 rfl ?_
    refine j_callV (d' := d - 1) hc dX10_eaten_2 vX10_115 zb0 (ev_X10_landAt_no (by omega) hB hil hcs) rfl (by omega) (by omega) (by omega) rfl rfl (Nat.le_of_ble_eq_true rfl) (ret1 ?_)
    refine j_astore (L' := [_, _, _, _, _]) hc dX10_eaten_5 (Nat.le_of_ble_eq_true rfl) rfl ?_
    refine j_aload hc dX10_eaten_7 rfl ?_
    refine j_ifnull (tgt := 23) hc dX10_eaten_9 (by decide) (fun zc1 => ?_) (fun zc1 => ?_)
    · refine j_iconst hc dX10_eaten_23 ?_
      exact j_iret hc he dX10_eaten_24 rfl (by omega) (by omega) ⟨vI_eq (by unfold aEaten; rw [if_neg (fun z => hcs z.1)]), rfl⟩
    · exact absurd rfl zc1
set_option maxRecDepth 100000 in
set_option maxHeartbeats 4000000 in
theorem ev_X10_left_a {k : WC} {d : Nat} {h : AH} {S : BaS} {l x : Int} (hd : 4 ≤ d) (hB : BarnAt h S) (hil : inI l) (hix : inI x) : Ev k d mdX10_left h [vR (0, 0), vI l, vI x] 0 0 (pr (vI (aLeft S l x)) h) := by
  obtain ⟨⟨⟨zb0, zb11, zb12, zb13, zb14, zb141, zb15, zb18⟩, zTp, zRd⟩, zSp, zTw, zSt, zL, zK⟩ := id hB
  obtain ⟨zT1, ⟨zlc0, zlc1⟩, ⟨zrc0, zrc1⟩, zKl, zKr, zKw, ⟨zto0, zto1⟩, zse0, zse1⟩ := id zK
  by_cases hcs : lnV S l
  · skip
    have hv := hcs
    obtain ⟨hl0, hl1⟩ := id hcs
    obtain ⟨hD, hE, hyr, hyo⟩ := zKl l hl0 hl1
    obtain ⟨pl, hL, hpl⟩ := zL.1 l hl0 hl1
    have hd1 := hD.1
    have hd2 := hD.2.1
    refine Ev.mk (by decide +kernel) [_, _, _, _] rfl (Nat.le_of_ble_eq_true rfl) (fun w hc he => ?_)
    refine j_aload_n hc dX10_left_0 rfl ?_
    refine j_iload_n hc dX10_left_1 rfl ?_
    refine j_callV (d' := d - 1) hc dX10_left_2 vX10_115 zb0 (ev_X10_landAt_ok (by omega) hB hcs) rfl (by omega) (by omega) (by omega) rfl rfl (Nat.le_of_ble_eq_true rfl) (ret1 ?_)
    refine j_astore_n (L' := [_, _, _, _]) hc dX10_left_5 (Nat.le_of_ble_eq_true rfl) rfl ?_
    refine j_aload_n hc dX10_left_6 rfl ?_
    refine j_ifnull (tgt := 20) hc dX10_left_7 (by decide) (fun zc1 => ?_) (fun zc1 => ?_)
    · exact absurd zc1 (by simp)
    · refine j_iload_n hc dX10_left_10 rfl ?_
      refine j_iconst hc dX10_left_11 ?_
      refine j_bipush hc dX10_left_12 (by decide) ?_
      refine j_callS (d' := d - 1) hc dX10_left_14 sX10_90 (ev_X10_within (by omega) hix ⟨by omega, by omega⟩ ⟨by omega, by omega⟩) rfl (by omega) (by omega) (by omega) rfl rfl (Nat.le_of_ble_eq_true rfl) (ret1 ?_)
      refine j_if_ne (b := 0) (tgt := 24) hc dX10_left_17 (by decide) (by split <;> exact ⟨by omega, by omega⟩) (fun zc2 => ?_) (fun zc2 => ?_)
      · have zw : 0 ≤ x ∧ x ≤ 20 := one_pos zc2
        refine j_aload_n hc dX10_left_24 rfl ?_
        refine j_iload_n hc dX10_left_25 rfl ?_
        refine j_callV (d' := d - 1) hc dX10_left_26 vX10_167 hL.1 (ev_X0_leftOf (by omega) hL hD (by omega) (by omega)) rfl (by omega) (by omega) (by omega) rfl rfl (Nat.le_of_ble_eq_true rfl) (ret1 ?_)
        exact j_iret hc he dX10_left_29 rfl (by omega) (by omega) ⟨vI_eq (by unfold aLeft; rw [if_pos ⟨hcs, zw⟩]), rfl⟩
      · have zw : ¬ (0 ≤ x ∧ x ≤ 20) := one_neg zc2
        refine j_iconst hc dX10_left_20 ?_
        refine j_goto (tgt := 29) hc dX10_left_21 (by decide) ?_
        exact j_iret hc he dX10_left_29 rfl (by omega) (by omega) ⟨vI_eq (by unfold aLeft; rw [if_neg (fun z => zw z.2)]), rfl⟩
  · skip
    refine Ev.mk (by decide +kernel) [_, _, _, _] rfl (Nat.le_of_ble_eq_true rfl) (fun w hc he => ?_)
    refine j_aload_n hc dX10_left_0 rfl ?_
    refine j_iload_n hc dX10_left_1 rfl ?_
    refine j_callV (d' := d - 1) hc dX10_left_2 vX10_115 zb0 (ev_X10_landAt_no (by omega) hB hil hcs) rfl (by omega) (by omega) (by omega) rfl rfl (Nat.le_of_ble_eq_true rfl) (ret1 ?_)
    refine j_astore_n (L' := [_, _, _, _]) hc dX10_left_5 (Nat.le_of_ble_eq_true rfl) rfl ?_
    refine j_aload_n hc dX10_left_6 rfl ?_
    refine j_ifnull (tgt := 20) hc dX10_left_7 (by decide) (fun zc1 => ?_) (fun zc1 => ?_)
    · refine j_iconst hc dX10_left_20 ?_
      refine j_goto (tgt := 29) hc dX10_left_21 (by decide) ?_
      exact j_iret hc he dX10_left_29 rfl (by omega) (by omega) ⟨vI_eq (by unfold aLeft; rw [if_neg (fun z => hcs z.1)]), rfl⟩
    · exact absurd rfl zc1
set_option maxRecDepth 100000 in
set_option maxHeartbeats 4000000 in
theorem ev_X10_below_a {k : WC} {d : Nat} {h : AH} {S : BaS} {l n s : Int} (hd : 5 ≤ d) (hB : BarnAt h S) (hil : inI l) (hin : inI n) (his : inI s) : Ev k d mdX10_below h [vR (0, 0), vI l, vI n, vI s] 0 0 (pr (vL (aBelow S l n s)) h) := by
  obtain ⟨⟨⟨zb0, zb11, zb12, zb13, zb14, zb141, zb15, zb18⟩, zTp, zRd⟩, zSp, zTw, zSt, zL, zK⟩ := id hB
  obtain ⟨zT1, ⟨zlc0, zlc1⟩, ⟨zrc0, zrc1⟩, zKl, zKr, zKw, ⟨zto0, zto1⟩, zse0, zse1⟩ := id zK
  by_cases hcs : laV S l n s 0
  · skip
    obtain ⟨hvl, ⟨hn1, hn⟩, ⟨hs0, hs1⟩, ha0, ha1⟩ := id hcs
    obtain ⟨hl0, hl1⟩ := id hvl
    obtain ⟨hD, hE, hyr, hyo⟩ := zKl l hl0 hl1
    obtain ⟨pl, hL, hpl⟩ := zL.1 l hl0 hl1
    have hd1 := hD.1
    have hd2 := hD.2.1
    refine Ev.mk (by decide +kernel) [_, _, _, _, _] rfl (Nat.le_of_ble_eq_true rfl) (fun w hc he => ?_)
    refine j_aload_n hc dX10_below_0 rfl ?_
    refine j_iload_n hc dX10_below_1 rfl ?_
    refine j_iload_n hc dX10_below_2 rfl ?_
    refine j_iload_n hc dX10_below_3 rfl ?_
    refine j_iconst hc dX10_below_4 ?_
    refine j_callV (d' := d - 1) hc dX10_below_5 vX10_199 zb0 (ev_X10_landFor_ok (by omega) hB hcs) rfl (by omega) (by omega) (by omega) rfl rfl (Nat.le_of_ble_eq_true rfl) (ret1 ?_)
    refine j_astore (L' := [_, _, _, _, _]) hc dX10_below_8 (Nat.le_of_ble_eq_true rfl) rfl ?_
    refine j_aload hc dX10_below_10 rfl ?_
    refine j_ifnonnull (tgt := 21) hc dX10_below_12 (by decide) (fun zc1 => ?_) (fun zc1 => ?_)
    · refine j_aload hc dX10_below_21 rfl ?_
      refine j_iload_n hc dX10_below_23 rfl ?_
      refine j_iload_n hc dX10_below_24 rfl ?_
      refine j_callV (d' := d - 1) hc dX10_below_25 vX10_205 hL.1 (ev_X0_belowOf (by omega) hL hD (by omega) (by omega) (by omega) (by omega)) rfl (by omega) (by omega) (by omega) rfl rfl (Nat.le_of_ble_eq_true rfl) (ret1 ?_)
      exact j_lret hc he dX10_below_28 rfl (by omega) (by omega) ⟨vL_eq (by unfold aBelow; rw [if_pos hcs]), rfl⟩
    · exact absurd zc1 (by simp)
  · skip
    refine Ev.mk (by decide +kernel) [_, _, _, _, _] rfl (Nat.le_of_ble_eq_true rfl) (fun w hc he => ?_)
    refine j_aload_n hc dX10_below_0 rfl ?_
    refine j_iload_n hc dX10_below_1 rfl ?_
    refine j_iload_n hc dX10_below_2 rfl ?_
    refine j_iload_n hc dX10_below_3 rfl ?_
    refine j_iconst hc dX10_below_4 ?_
    refine j_callV (d' := d - 1) hc dX10_below_5 vX10_199 zb0 (ev_X10_landFor_no (by omega) hB hil hin his ⟨by omega, by omega⟩ hcs) rfl (by omega) (by omega) (by omega) rfl rfl (Nat.le_of_ble_eq_true rfl) (ret1 ?_)
    refine j_astore (L' := [_, _, _, _, _]) hc dX10_below_8 (Nat.le_of_ble_eq_true rfl) rfl ?_
    refine j_aload hc dX10_below_10 rfl ?_
    refine j_ifnonnull (tgt := 21) hc dX10_below_12 (by decide) (fun zc1 => ?_) (fun zc1 => ?_)
    · exact absurd rfl zc1
    · refine j_ldc2 (x := -1) hc dX10_below_15 kX10_203 (by decide) ?_
      refine j_goto (tgt := 28) hc dX10_below_18 (by decide) ?_
      exact j_lret hc he dX10_below_28 rfl (by omega) (by omega) ⟨vL_eq (by unfold aBelow; rw [if_neg hcs]), rfl⟩
set_option maxRecDepth 100000 in
set_option maxHeartbeats 4000000 in
theorem ev_X10_keep_a {k : WC} {d : Nat} {h : AH} {S : BaS} {l sr n s a : Int} (hd : 9 ≤ d) (hB : BarnAt h S) (hil : inI l) (hir : inI sr) (hin : inI n) (his : inI s) (hia : inI a)  : Ev k d mdX10_keep h [vR (0, 0), vI l, vI sr, vI n, vI s, vI a] 6 3975 (pe fun v h' => v = vI (aKeep S l sr n s a) ∧ BarnAt h' S ∧ Fr isBa h h') := by
  obtain ⟨⟨⟨zb0, zb11, zb12, zb13, zb14, zb141, zb15, zb18⟩, zTp, zRd⟩, zSp, zTw, zSt, zL, zK⟩ := id hB
  obtain ⟨zT1, ⟨zlc0, zlc1⟩, ⟨zrc0, zrc1⟩, zKl, zKr, zKw, ⟨zto0, zto1⟩, zse0, zse1⟩ := id zK
  by_cases hcs : plV S l sr n s a
  · skip
    obtain ⟨hva, hsr0, hsr1⟩ := id hcs
    obtain ⟨hvl, ⟨hn1, hn⟩, ⟨hs0, hs1⟩, ha0, ha1⟩ := id hva
    obtain ⟨hl0, hl1⟩ := id hvl
    obtain ⟨hD, hE, hyr, hyo⟩ := zKl l hl0 hl1
    obtain ⟨pl, hL, hpl⟩ := zL.1 l hl0 hl1
    have hd1 := hD.1
    have hd2 := hD.2.1
    have zkb := kpA_b zK (sr := sr) (n := n) (s := s) (a := a) hl0 hl1 ha0
    refine Ev.mk (by decide +kernel) [_, _, _, _, _, _, _] rfl (Nat.le_of_ble_eq_true rfl) (fun w hc he => ?_)
    refine j_aload_n hc dX10_keep_0 rfl ?_
    refine j_iload_n hc dX10_keep_1 rfl ?_
    refine j_iload_n hc dX10_keep_2 rfl ?_
    refine j_iload_n hc dX10_keep_3 rfl ?_
    refine j_iload hc dX10_keep_4 rfl ?_
    refine j_iload hc dX10_keep_6 rfl ?_
    refine j_callV (d' := d - 1) hc dX10_keep_8 vX10_183 zb0 (ev_X10_planAt_ok (by omega) hB hcs) rfl (by omega) (by omega) (by omega) rfl rfl (Nat.le_of_ble_eq_true rfl) (retE fun zv8 zq8 zp8 => ?_)
    obtain ⟨zv8, zPl⟩ := zp8
    subst zv8
    have zB8 := zPl.barn hB hl0 hl1 (by omega) (by omega)
    obtain ⟨pl8, wf8, kf8, bf8, lf8, wl8, zX8, zH8, zn8, zR8, zF8⟩ := id zPl
    have zsrj : srj (sr) = sr := by unfold srj; rw [if_neg (by omega)]
    have zP8 := zH8.2.2.2.1
    rw [zsrj] at zP8
    have zW8 := zH8.2.2.2.2
    rw [zsrj] at zW8
    have zV8 := zP8.2.2.2.2.2.2
    have zrow : ∀ b : Int, 0 ≤ b → b ≤ 40 → kf8 (ceS n s + b) = kpA S l (sr) n s b ∧ ((sr : Int) = 2 ∨ (sr : Int) = 3 → bf8 (ceS n s + b) = bpA S l (sr) n s b) := fun b b0 b1 => PlV.row hD zV8 hn1 hs0 hs1 zn8 b0 b1
    refine j_astore (L' := [_, _, _, _, _, _, _]) hc dX10_keep_11 (Nat.le_of_ble_eq_true rfl) rfl ?_
    refine j_aload hc dX10_keep_13 rfl ?_
    refine j_ifnonnull (tgt := 22) hc dX10_keep_15 (by decide) (fun zc1 => ?_) (fun zc1 => ?_)
    · refine j_aload hc dX10_keep_22 rfl ?_
      refine j_iload_n hc dX10_keep_24 rfl ?_
      refine j_iload hc dX10_keep_25 rfl ?_
      refine j_iload hc dX10_keep_27 rfl ?_
      refine j_callV (d' := d - 1) hc dX10_keep_29 vX10_187 zP8.1 (ev_X2_keptAt (by omega) zX8.1 hD zP8.1 zP8.2.1 hn1 hn hs0 hs1 ha0 ha1) rfl (by omega) (by omega) (by omega) rfl rfl (Nat.le_of_ble_eq_true rfl) (ret1 ?_)
      rw [(zrow a ha0 ha1).1]
      exact j_iret hc he dX10_keep_32 rfl (by omega) (by omega) ⟨_, rfl, by unfold aKeep; rw [if_pos hcs], zB8, zF8.mono fun z zz => isLo_ba (isSp_lo (by omega) (by omega) zz)⟩
    · exact absurd zc1 (by simp)
  · skip
    refine Ev.mk (by decide +kernel) [_, _, _, _, _, _, _] rfl (Nat.le_of_ble_eq_true rfl) (fun w hc he => ?_)
    refine j_aload_n hc dX10_keep_0 rfl ?_
    refine j_iload_n hc dX10_keep_1 rfl ?_
    refine j_iload_n hc dX10_keep_2 rfl ?_
    refine j_iload_n hc dX10_keep_3 rfl ?_
    refine j_iload hc dX10_keep_4 rfl ?_
    refine j_iload hc dX10_keep_6 rfl ?_
    refine j_callV (d' := d - 1) hc dX10_keep_8 vX10_183 zb0 (ev_X10_planAt_no (by omega) hB hil hir hin his hia hcs) rfl (by omega) (by omega) (by omega) rfl rfl (Nat.le_of_ble_eq_true rfl) (ret1 ?_)
    refine j_astore (L' := [_, _, _, _, _, _, _]) hc dX10_keep_11 (Nat.le_of_ble_eq_true rfl) rfl ?_
    refine j_aload hc dX10_keep_13 rfl ?_
    refine j_ifnonnull (tgt := 22) hc dX10_keep_15 (by decide) (fun zc1 => ?_) (fun zc1 => ?_)
    · exact absurd rfl zc1
    · refine j_iconst hc dX10_keep_18 ?_
      refine j_goto (tgt := 32) hc dX10_keep_19 (by decide) ?_
      exact j_iret hc he dX10_keep_32 rfl (by omega) (by omega) ⟨_, rfl, by unfold aKeep; rw [if_neg hcs], hB, Fr.rf _ _⟩
set_option maxRecDepth 100000 in
set_option maxHeartbeats 4000000 in
theorem ev_X10_sold_a {k : WC} {d : Nat} {h : AH} {S : BaS} {l sr n s a : Int} (hd : 9 ≤ d) (hB : BarnAt h S) (hil : inI l) (hir : inI sr) (hin : inI n) (his : inI s) (hia : inI a)  : Ev k d mdX10_sold h [vR (0, 0), vI l, vI sr, vI n, vI s, vI a] 6 3975 (pe fun v h' => v = vI (aSold S l sr n s a) ∧ BarnAt h' S ∧ Fr isBa h h') := by
  obtain ⟨⟨⟨zb0, zb11, zb12, zb13, zb14, zb141, zb15, zb18⟩, zTp, zRd⟩, zSp, zTw, zSt, zL, zK⟩ := id hB
  obtain ⟨zT1, ⟨zlc0, zlc1⟩, ⟨zrc0, zrc1⟩, zKl, zKr, zKw, ⟨zto0, zto1⟩, zse0, zse1⟩ := id zK
  by_cases hcs : plV S l sr n s a
  · skip
    obtain ⟨hva, hsr0, hsr1⟩ := id hcs
    obtain ⟨hvl, ⟨hn1, hn⟩, ⟨hs0, hs1⟩, ha0, ha1⟩ := id hva
    obtain ⟨hl0, hl1⟩ := id hvl
    obtain ⟨hD, hE, hyr, hyo⟩ := zKl l hl0 hl1
    obtain ⟨pl, hL, hpl⟩ := zL.1 l hl0 hl1
    have hd1 := hD.1
    have hd2 := hD.2.1
    have zkb := kpA_b zK (sr := sr) (n := n) (s := s) (a := a) hl0 hl1 ha0
    refine Ev.mk (by decide +kernel) [_, _, _, _, _, _, _] rfl (Nat.le_of_ble_eq_true rfl) (fun w hc he => ?_)
    refine j_aload_n hc dX10_sold_0 rfl ?_
    refine j_iload_n hc dX10_sold_1 rfl ?_
    refine j_iload_n hc dX10_sold_2 rfl ?_
    refine j_iload_n hc dX10_sold_3 rfl ?_
    refine j_iload hc dX10_sold_4 rfl ?_
    refine j_iload hc dX10_sold_6 rfl ?_
    refine j_callV (d' := d - 1) hc dX10_sold_8 vX10_183 zb0 (ev_X10_planAt_ok (by omega) hB hcs) rfl (by omega) (by omega) (by omega) rfl rfl (Nat.le_of_ble_eq_true rfl) (retE fun zv8 zq8 zp8 => ?_)
    obtain ⟨zv8, zPl⟩ := zp8
    subst zv8
    have zB8 := zPl.barn hB hl0 hl1 (by omega) (by omega)
    obtain ⟨pl8, wf8, kf8, bf8, lf8, wl8, zX8, zH8, zn8, zR8, zF8⟩ := id zPl
    have zsrj : srj (sr) = sr := by unfold srj; rw [if_neg (by omega)]
    have zP8 := zH8.2.2.2.1
    rw [zsrj] at zP8
    have zW8 := zH8.2.2.2.2
    rw [zsrj] at zW8
    have zV8 := zP8.2.2.2.2.2.2
    have zrow : ∀ b : Int, 0 ≤ b → b ≤ 40 → kf8 (ceS n s + b) = kpA S l (sr) n s b ∧ ((sr : Int) = 2 ∨ (sr : Int) = 3 → bf8 (ceS n s + b) = bpA S l (sr) n s b) := fun b b0 b1 => PlV.row hD zV8 hn1 hs0 hs1 zn8 b0 b1
    refine j_astore (L' := [_, _, _, _, _, _, _]) hc dX10_sold_11 (Nat.le_of_ble_eq_true rfl) rfl ?_
    refine j_aload hc dX10_sold_13 rfl ?_
    refine j_ifnonnull (tgt := 22) hc dX10_sold_15 (by decide) (fun zc1 => ?_) (fun zc1 => ?_)
    · refine j_aload hc dX10_sold_22 rfl ?_
      refine j_iload hc dX10_sold_24 rfl ?_
      refine j_aload hc dX10_sold_26 rfl ?_
      refine j_iload_n hc dX10_sold_28 rfl ?_
      refine j_iload hc dX10_sold_29 rfl ?_
      refine j_iload hc dX10_sold_31 rfl ?_
      refine j_callV (d' := d - 1) hc dX10_sold_33 vX10_187 zP8.1 (ev_X2_keptAt (by omega) zX8.1 hD zP8.1 zP8.2.1 hn1 hn hs0 hs1 ha0 ha1) rfl (by omega) (by omega) (by omega) rfl rfl (Nat.le_of_ble_eq_true rfl) (ret1 ?_)
      rw [(zrow a ha0 ha1).1]
      refine j_isub hc dX10_sold_36 ?_
      refine j_callV (d' := d - 1) hc dX10_sold_37 vX10_193 zP8.1 (ev_X2_eatenOf (by omega) zX8.1 hD zP8.1 ⟨by omega, by omega⟩ hsr0 hsr1) rfl (by omega) (by omega) (by omega) rfl rfl (Nat.le_of_ble_eq_true rfl) (ret1 ?_)
      exact j_iret hc he dX10_sold_40 rfl (by omega) (by omega) ⟨_, rfl, by unfold aSold; rw [if_pos hcs], zB8, zF8.mono fun z zz => isLo_ba (isSp_lo (by omega) (by omega) zz)⟩
    · exact absurd zc1 (by simp)
  · skip
    refine Ev.mk (by decide +kernel) [_, _, _, _, _, _, _] rfl (Nat.le_of_ble_eq_true rfl) (fun w hc he => ?_)
    refine j_aload_n hc dX10_sold_0 rfl ?_
    refine j_iload_n hc dX10_sold_1 rfl ?_
    refine j_iload_n hc dX10_sold_2 rfl ?_
    refine j_iload_n hc dX10_sold_3 rfl ?_
    refine j_iload hc dX10_sold_4 rfl ?_
    refine j_iload hc dX10_sold_6 rfl ?_
    refine j_callV (d' := d - 1) hc dX10_sold_8 vX10_183 zb0 (ev_X10_planAt_no (by omega) hB hil hir hin his hia hcs) rfl (by omega) (by omega) (by omega) rfl rfl (Nat.le_of_ble_eq_true rfl) (ret1 ?_)
    refine j_astore (L' := [_, _, _, _, _, _, _]) hc dX10_sold_11 (Nat.le_of_ble_eq_true rfl) rfl ?_
    refine j_aload hc dX10_sold_13 rfl ?_
    refine j_ifnonnull (tgt := 22) hc dX10_sold_15 (by decide) (fun zc1 => ?_) (fun zc1 => ?_)
    · exact absurd rfl zc1
    · refine j_iconst hc dX10_sold_18 ?_
      refine j_goto (tgt := 40) hc dX10_sold_19 (by decide) ?_
      exact j_iret hc he dX10_sold_40 rfl (by omega) (by omega) ⟨_, rfl, by unfold aSold; rw [if_neg hcs], hB, Fr.rf _ _⟩
set_option maxRecDepth 100000 in
set_option maxHeartbeats 4000000 in
theorem ev_X10_price_a {k : WC} {d : Nat} {h : AH} {S : BaS} {l sr n s a : Int} (hd : 9 ≤ d) (hB : BarnAt h S) (hil : inI l) (hir : inI sr) (hin : inI n) (his : inI s) (hia : inI a)  : Ev k d mdX10_price h [vR (0, 0), vI l, vI sr, vI n, vI s, vI a] 6 3975 (pe fun v h' => v = vI (aPrice S l sr n s a) ∧ BarnAt h' S ∧ Fr isBa h h') := by
  obtain ⟨⟨⟨zb0, zb11, zb12, zb13, zb14, zb141, zb15, zb18⟩, zTp, zRd⟩, zSp, zTw, zSt, zL, zK⟩ := id hB
  obtain ⟨zT1, ⟨zlc0, zlc1⟩, ⟨zrc0, zrc1⟩, zKl, zKr, zKw, ⟨zto0, zto1⟩, zse0, zse1⟩ := id zK
  by_cases hcs : plV S l sr n s a
  · skip
    obtain ⟨hva, hsr0, hsr1⟩ := id hcs
    obtain ⟨hvl, ⟨hn1, hn⟩, ⟨hs0, hs1⟩, ha0, ha1⟩ := id hva
    obtain ⟨hl0, hl1⟩ := id hvl
    obtain ⟨hD, hE, hyr, hyo⟩ := zKl l hl0 hl1
    obtain ⟨pl, hL, hpl⟩ := zL.1 l hl0 hl1
    have hd1 := hD.1
    have hd2 := hD.2.1
    have zkb := kpA_b zK (sr := sr) (n := n) (s := s) (a := a) hl0 hl1 ha0
    refine Ev.mk (by decide +kernel) [_, _, _, _, _, _, _] rfl (Nat.le_of_ble_eq_true rfl) (fun w hc he => ?_)
    refine j_aload_n hc dX10_price_0 rfl ?_
    refine j_iload_n hc dX10_price_1 rfl ?_
    refine j_iload_n hc dX10_price_2 rfl ?_
    refine j_iload_n hc dX10_price_3 rfl ?_
    refine j_iload hc dX10_price_4 rfl ?_
    refine j_iload hc dX10_price_6 rfl ?_
    refine j_callV (d' := d - 1) hc dX10_price_8 vX10_183 zb0 (ev_X10_planAt_ok (by omega) hB hcs) rfl (by omega) (by omega) (by omega) rfl rfl (Nat.le_of_ble_eq_true rfl) (retE fun zv8 zq8 zp8 => ?_)
    obtain ⟨zv8, zPl⟩ := zp8
    subst zv8
    have zB8 := zPl.barn hB hl0 hl1 (by omega) (by omega)
    obtain ⟨pl8, wf8, kf8, bf8, lf8, wl8, zX8, zH8, zn8, zR8, zF8⟩ := id zPl
    have zsrj : srj (sr) = sr := by unfold srj; rw [if_neg (by omega)]
    have zP8 := zH8.2.2.2.1
    rw [zsrj] at zP8
    have zW8 := zH8.2.2.2.2
    rw [zsrj] at zW8
    have zV8 := zP8.2.2.2.2.2.2
    have zrow : ∀ b : Int, 0 ≤ b → b ≤ 40 → kf8 (ceS n s + b) = kpA S l (sr) n s b ∧ ((sr : Int) = 2 ∨ (sr : Int) = 3 → bf8 (ceS n s + b) = bpA S l (sr) n s b) := fun b b0 b1 => PlV.row hD zV8 hn1 hs0 hs1 zn8 b0 b1
    refine j_astore (L' := [_, _, _, _, _, _, _]) hc dX10_price_11 (Nat.le_of_ble_eq_true rfl) rfl ?_
    refine j_aload hc dX10_price_13 rfl ?_
    refine j_ifnonnull (tgt := 22) hc dX10_price_15 (by decide) (fun zc1 => ?_) (fun zc1 => ?_)
    · refine j_aload hc dX10_price_22 rfl ?_
      refine j_iload hc dX10_price_24 rfl ?_
      refine j_aload hc dX10_price_26 rfl ?_
      refine j_iload_n hc dX10_price_28 rfl ?_
      refine j_iload hc dX10_price_29 rfl ?_
      refine j_iload hc dX10_price_31 rfl ?_
      refine j_callV (d' := d - 1) hc dX10_price_33 vX10_187 zP8.1 (ev_X2_keptAt (by omega) zX8.1 hD zP8.1 zP8.2.1 hn1 hn hs0 hs1 ha0 ha1) rfl (by omega) (by omega) (by omega) rfl rfl (Nat.le_of_ble_eq_true rfl) (ret1 ?_)
      rw [(zrow a ha0 ha1).1]
      refine j_isub hc dX10_price_36 ?_
      refine j_callV (d' := d - 1) hc dX10_price_37 vX10_196 zP8.1 (ev_X2_priceOf (by omega) zX8.1 hD zP8.1 ⟨by omega, by omega⟩ hsr0 hsr1) rfl (by omega) (by omega) (by omega) rfl rfl (Nat.le_of_ble_eq_true rfl) (ret1 ?_)
      exact j_iret hc he dX10_price_40 rfl (by omega) (by omega) ⟨_, rfl, by unfold aPrice; rw [if_pos hcs], zB8, zF8.mono fun z zz => isLo_ba (isSp_lo (by omega) (by omega) zz)⟩
    · exact absurd zc1 (by simp)
  · skip
    refine Ev.mk (by decide +kernel) [_, _, _, _, _, _, _] rfl (Nat.le_of_ble_eq_true rfl) (fun w hc he => ?_)
    refine j_aload_n hc dX10_price_0 rfl ?_
    refine j_iload_n hc dX10_price_1 rfl ?_
    refine j_iload_n hc dX10_price_2 rfl ?_
    refine j_iload_n hc dX10_price_3 rfl ?_
    refine j_iload hc dX10_price_4 rfl ?_
    refine j_iload hc dX10_price_6 rfl ?_
    refine j_callV (d' := d - 1) hc dX10_price_8 vX10_183 zb0 (ev_X10_planAt_no (by omega) hB hil hir hin his hia hcs) rfl (by omega) (by omega) (by omega) rfl rfl (Nat.le_of_ble_eq_true rfl) (ret1 ?_)
    refine j_astore (L' := [_, _, _, _, _, _, _]) hc dX10_price_11 (Nat.le_of_ble_eq_true rfl) rfl ?_
    refine j_aload hc dX10_price_13 rfl ?_
    refine j_ifnonnull (tgt := 22) hc dX10_price_15 (by decide) (fun zc1 => ?_) (fun zc1 => ?_)
    · exact absurd rfl zc1
    · refine j_iconst hc dX10_price_18 ?_
      refine j_goto (tgt := 40) hc dX10_price_19 (by decide) ?_
      exact j_iret hc he dX10_price_40 rfl (by omega) (by omega) ⟨_, rfl, by unfold aPrice; rw [if_neg hcs], hB, Fr.rf _ _⟩
set_option maxRecDepth 100000 in
set_option maxHeartbeats 4000000 in
theorem ev_X10_welfare_a {k : WC} {d : Nat} {h : AH} {S : BaS} {l sr n s a : Int} (hd : 9 ≤ d) (hB : BarnAt h S) (hil : inI l) (hir : inI sr) (hin : inI n) (his : inI s) (hia : inI a)  : Ev k d mdX10_welfare h [vR (0, 0), vI l, vI sr, vI n, vI s, vI a] 7 5943 (pe fun v h' => v = vL (aWelf S l sr n s a) ∧ BarnAt h' S ∧ Fr isBa h h') := by
  obtain ⟨⟨⟨zb0, zb11, zb12, zb13, zb14, zb141, zb15, zb18⟩, zTp, zRd⟩, zSp, zTw, zSt, zL, zK⟩ := id hB
  obtain ⟨zT1, ⟨zlc0, zlc1⟩, ⟨zrc0, zrc1⟩, zKl, zKr, zKw, ⟨zto0, zto1⟩, zse0, zse1⟩ := id zK
  by_cases hcs : plV S l sr n s a
  · skip
    obtain ⟨hva, hsr0, hsr1⟩ := id hcs
    obtain ⟨hvl, ⟨hn1, hn⟩, ⟨hs0, hs1⟩, ha0, ha1⟩ := id hva
    obtain ⟨hl0, hl1⟩ := id hvl
    obtain ⟨hD, hE, hyr, hyo⟩ := zKl l hl0 hl1
    obtain ⟨pl, hL, hpl⟩ := zL.1 l hl0 hl1
    have hd1 := hD.1
    have hd2 := hD.2.1
    have zkb := kpA_b zK (sr := sr) (n := n) (s := s) (a := a) hl0 hl1 ha0
    have zla := laN_b hD (n - 1).toNat hs0 hs1
    refine Ev.mk (by decide +kernel) [_, _, _, _, _, _, _] rfl (Nat.le_of_ble_eq_true rfl) (fun w hc he => ?_)
    refine j_aload_n hc dX10_welfare_0 rfl ?_
    refine j_iload_n hc dX10_welfare_1 rfl ?_
    refine j_iload_n hc dX10_welfare_2 rfl ?_
    refine j_iload_n hc dX10_welfare_3 rfl ?_
    refine j_iload hc dX10_welfare_4 rfl ?_
    refine j_iload hc dX10_welfare_6 rfl ?_
    refine j_callV (d' := d - 1) hc dX10_welfare_8 vX10_183 zb0 (ev_X10_planAt_ok (by omega) hB hcs) rfl (by omega) (by omega) (by omega) rfl rfl (Nat.le_of_ble_eq_true rfl) (retE fun zv8 zq8 zp8 => ?_)
    obtain ⟨zv8, zPl⟩ := zp8
    subst zv8
    have zB8 := zPl.barn hB hl0 hl1 (by omega) (by omega)
    obtain ⟨pl8, wf8, kf8, bf8, lf8, wl8, zX8, zH8, zn8, zR8, zF8⟩ := id zPl
    have zsrj : srj (sr) = sr := by unfold srj; rw [if_neg (by omega)]
    have zP8 := zH8.2.2.2.1
    rw [zsrj] at zP8
    have zW8 := zH8.2.2.2.2
    rw [zsrj] at zW8
    have zV8 := zP8.2.2.2.2.2.2
    have zrow : ∀ b : Int, 0 ≤ b → b ≤ 40 → kf8 (ceS n s + b) = kpA S l (sr) n s b ∧ ((sr : Int) = 2 ∨ (sr : Int) = 3 → bf8 (ceS n s + b) = bpA S l (sr) n s b) := fun b b0 b1 => PlV.row hD zV8 hn1 hs0 hs1 zn8 b0 b1
    refine j_astore (L' := [_, _, _, _, _, _, _]) hc dX10_welfare_11 (Nat.le_of_ble_eq_true rfl) rfl ?_
    refine j_aload hc dX10_welfare_13 rfl ?_
    refine j_ifnonnull (tgt := 24) hc dX10_welfare_15 (by decide) (fun zc1 => ?_) (fun zc1 => ?_)
    · refine j_aload hc dX10_welfare_24 rfl ?_
      refine j_iload_n hc dX10_welfare_26 rfl ?_
      refine j_iload hc dX10_welfare_27 rfl ?_
      refine j_iload hc dX10_welfare_29 rfl ?_
      refine j_callV (d' := d - 1) hc dX10_welfare_31 vX10_209 zP8.1 (ev_X2_welfareAt (ru := ruC S l) (by omega) zX8.1 hD hE zP8.1 zP8.2.1 zW8 zP8.2.2.2.2.1 (fun n1 z0 z1 b b0 b1 => ((zV8.2 _ zla.1 zla.2).2.2 n1 z0 (by omega) b b0 b1).1) (fun t t0 t1 => (zV8.2 t t0 t1).2.1) zn8 hn1 hn hs0 hs1 zH8.1 zH8.2.1 hsr0 hsr1 ha0 ha1) rfl (by omega) (by omega) (by omega) rfl rfl (Nat.le_of_ble_eq_true rfl) (retE fun zv31 zq31 zp31 => ?_)
      obtain ⟨zv31, vf9, wl9, zg50, zg53, zg55, zWl9, zF9⟩ := zp31
      subst zv31
      have zF9b : Fr (isSp S l sr) zq8 zq31 := zF9.mono fun z zz => Or.inl (Or.inr (by rcases zz with rfl | rfl | rfl <;> simp))
      have zX9 : LandX zq31 l (bD S l) (bE S l) (ruC S l) sr pl8 := zX8.fr fun z hz => zF9 z (fun y => by rcases y with rfl | rfl | rfl <;> (simp at hz <;> omega))
      have zP9 : PlanAt zq31 (6 * l + sr) l (bD S l) (bE S l) (ruC S l) sr (lCo (bD S l)) (some (53, 6 * l + sr)) kf8 bf8 lf8 wl9 := ⟨zg50, (zF9 _ (by simp)).trans zP8.2.1, (zF9 _ (by simp)).trans zP8.2.2.1, (zF9 _ (by simp)).trans zP8.2.2.2.1, zg55, (by obtain ⟨af, za⟩ := zP8.2.2.2.2.2.1; exact ⟨af, (zF9 _ (by simp)).trans za⟩), zV8⟩
      have zH9 : PlnHas zq31 l (bD S l) (bE S l) (ruC S l) sr (lCo (bD S l)) (some (53, 6 * l + sr)) kf8 bf8 lf8 wl9 := ⟨zH8.1, zH8.2.1, zH8.2.2.1, by rw [zsrj]; exact zP9, by rw [zsrj]; exact Or.inr ⟨rfl, vf9, zg53, zWl9⟩⟩
      have zB9 := zB8.plan hl0 hl1 (zF9b.mono fun z zz => isSp_lo hsr0 (by omega) zz) (zX9.join zH9) (RuOK.fr zR8 fun z z0 z1 => zF9 z (fun y => by rcases y with rfl | rfl | rfl <;> simp at z0))
      exact j_lret hc he dX10_welfare_34 rfl (by omega) (by omega) ⟨_, rfl, by unfold aWelf; rw [if_pos hcs], zB9, (zF8.tr zF9b).mono fun z zz => isLo_ba (isSp_lo hsr0 (by omega) zz)⟩
    · exact absurd zc1 (by simp)
  · skip
    refine Ev.mk (by decide +kernel) [_, _, _, _, _, _, _] rfl (Nat.le_of_ble_eq_true rfl) (fun w hc he => ?_)
    refine j_aload_n hc dX10_welfare_0 rfl ?_
    refine j_iload_n hc dX10_welfare_1 rfl ?_
    refine j_iload_n hc dX10_welfare_2 rfl ?_
    refine j_iload_n hc dX10_welfare_3 rfl ?_
    refine j_iload hc dX10_welfare_4 rfl ?_
    refine j_iload hc dX10_welfare_6 rfl ?_
    refine j_callV (d' := d - 1) hc dX10_welfare_8 vX10_183 zb0 (ev_X10_planAt_no (by omega) hB hil hir hin his hia hcs) rfl (by omega) (by omega) (by omega) rfl rfl (Nat.le_of_ble_eq_true rfl) (ret1 ?_)
    refine j_astore (L' := [_, _, _, _, _, _, _]) hc dX10_welfare_11 (Nat.le_of_ble_eq_true rfl) rfl ?_
    refine j_aload hc dX10_welfare_13 rfl ?_
    refine j_ifnonnull (tgt := 24) hc dX10_welfare_15 (by decide) (fun zc1 => ?_) (fun zc1 => ?_)
    · exact absurd rfl zc1
    · refine j_ldc2 (x := -1) hc dX10_welfare_18 kX10_203 (by decide) ?_
      refine j_goto (tgt := 34) hc dX10_welfare_21 (by decide) ?_
      exact j_lret hc he dX10_welfare_34 rfl (by omega) (by omega) ⟨_, rfl, by unfold aWelf; rw [if_neg hcs], hB, Fr.rf _ _⟩
set_option maxRecDepth 100000 in
set_option maxHeartbeats 4000000 in
theorem ev_X10_takings_a {k : WC} {d : Nat} {h : AH} {S : BaS} {l n s a : Int} (hd : 8 ≤ d) (hB : BarnAt h S) (hil : inI l) (hin : inI n) (his : inI s) (hia : inI a)  : Ev k d mdX10_takings h [vR (0, 0), vI l, vI n, vI s, vI a] 6 3975 (pe fun v h' => v = vL (aTak S l n s a) ∧ BarnAt h' S ∧ Fr isBa h h') := by
  obtain ⟨⟨⟨zb0, zb11, zb12, zb13, zb14, zb141, zb15, zb18⟩, zTp, zRd⟩, zSp, zTw, zSt, zL, zK⟩ := id hB
  obtain ⟨zT1, ⟨zlc0, zlc1⟩, ⟨zrc0, zrc1⟩, zKl, zKr, zKw, ⟨zto0, zto1⟩, zse0, zse1⟩ := id zK
  by_cases hcs : laV S l n s a
  · skip
    have hcp : plV S l 3 n s a := ⟨hcs, by omega, by omega⟩
    obtain ⟨hvl, ⟨hn1, hn⟩, ⟨hs0, hs1⟩, ha0, ha1⟩ := id hcs
    obtain ⟨hl0, hl1⟩ := id hvl
    obtain ⟨hD, hE, hyr, hyo⟩ := zKl l hl0 hl1
    obtain ⟨pl, hL, hpl⟩ := zL.1 l hl0 hl1
    have hd1 := hD.1
    have hd2 := hD.2.1
    refine Ev.mk (by decide +kernel) [_, _, _, _, _, _] rfl (Nat.le_of_ble_eq_true rfl) (fun w hc he => ?_)
    refine j_aload_n hc dX10_takings_0 rfl ?_
    refine j_iload_n hc dX10_takings_1 rfl ?_
    refine j_iconst hc dX10_takings_2 ?_
    refine j_iload_n hc dX10_takings_3 rfl ?_
    refine j_iload_n hc dX10_takings_4 rfl ?_
    refine j_iload hc dX10_takings_5 rfl ?_
    refine j_callV (d' := d - 1) hc dX10_takings_7 vX10_183 zb0 (ev_X10_planAt_ok (by omega) hB hcp) rfl (by omega) (by omega) (by omega) rfl rfl (Nat.le_of_ble_eq_true rfl) (retE fun zv7 zq7 zp7 => ?_)
    obtain ⟨zv8, zPl⟩ := zp7
    subst zv8
    have zB8 := zPl.barn hB hl0 hl1 (by omega) (by omega)
    obtain ⟨pl8, wf8, kf8, bf8, lf8, wl8, zX8, zH8, zn8, zR8, zF8⟩ := id zPl
    have zsrj : srj (3) = 3 := by unfold srj; rw [if_neg (by omega)]
    have zP8 := zH8.2.2.2.1
    rw [zsrj] at zP8
    have zW8 := zH8.2.2.2.2
    rw [zsrj] at zW8
    have zV8 := zP8.2.2.2.2.2.2
    have zrow : ∀ b : Int, 0 ≤ b → b ≤ 40 → kf8 (ceS n s + b) = kpA S l (3) n s b ∧ ((3 : Int) = 2 ∨ (3 : Int) = 3 → bf8 (ceS n s + b) = bpA S l (3) n s b) := fun b b0 b1 => PlV.row hD zV8 hn1 hs0 hs1 zn8 b0 b1
    refine j_astore (L' := [_, _, _, _, _, _]) hc dX10_takings_10 (Nat.le_of_ble_eq_true rfl) rfl ?_
    refine j_aload hc dX10_takings_12 rfl ?_
    refine j_ifnonnull (tgt := 23) hc dX10_takings_14 (by decide) (fun zc1 => ?_) (fun zc1 => ?_)
    · refine j_aload hc dX10_takings_23 rfl ?_
      refine j_iload_n hc dX10_takings_25 rfl ?_
      refine j_iload_n hc dX10_takings_26 rfl ?_
      refine j_iload hc dX10_takings_27 rfl ?_
      refine j_callV (d' := d - 1) hc dX10_takings_29 vX10_213 zP8.1 (ev_X2_bestAt (by omega) zX8.1 hD zP8.1 (by have := zP8.2.2.1; rw [show blS (bD S l) 3 = (lSe (bD S l)).toNat * 492 from if_pos (by omega)] at this; exact this) hn1 hn hs0 hs1 ha0 ha1) rfl (by omega) (by omega) (by omega) rfl rfl (Nat.le_of_ble_eq_true rfl) (ret1 ?_)
      rw [(zrow a ha0 ha1).2 (by omega)]
      exact j_lret hc he dX10_takings_32 rfl (by omega) (by omega) ⟨_, rfl, by unfold aTak; rw [if_pos hcs], zB8, zF8.mono fun z zz => isLo_ba (isSp_lo (by omega) (by omega) zz)⟩
    · exact absurd zc1 (by simp)
  · skip
    refine Ev.mk (by decide +kernel) [_, _, _, _, _, _] rfl (Nat.le_of_ble_eq_true rfl) (fun w hc he => ?_)
    refine j_aload_n hc dX10_takings_0 rfl ?_
    refine j_iload_n hc dX10_takings_1 rfl ?_
    refine j_iconst hc dX10_takings_2 ?_
    refine j_iload_n hc dX10_takings_3 rfl ?_
    refine j_iload_n hc dX10_takings_4 rfl ?_
    refine j_iload hc dX10_takings_5 rfl ?_
    refine j_callV (d' := d - 1) hc dX10_takings_7 vX10_183 zb0 (ev_X10_planAt_no (by omega) hB hil ⟨by omega, by omega⟩ hin his hia (fun z => hcs z.1)) rfl (by omega) (by omega) (by omega) rfl rfl (Nat.le_of_ble_eq_true rfl) (ret1 ?_)
    refine j_astore (L' := [_, _, _, _, _, _]) hc dX10_takings_10 (Nat.le_of_ble_eq_true rfl) rfl ?_
    refine j_aload hc dX10_takings_12 rfl ?_
    refine j_ifnonnull (tgt := 23) hc dX10_takings_14 (by decide) (fun zc1 => ?_) (fun zc1 => ?_)
    · exact absurd rfl zc1
    · refine j_ldc2 (x := -1) hc dX10_takings_17 kX10_203 (by decide) ?_
      refine j_goto (tgt := 32) hc dX10_takings_20 (by decide) ?_
      exact j_lret hc he dX10_takings_32 rfl (by omega) (by omega) ⟨_, rfl, by unfold aTak; rw [if_neg hcs], hB, Fr.rf _ _⟩
