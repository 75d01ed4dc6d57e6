/-! ===== a plan: its cells, its small methods ===== -/
def pF (i l s c : Int) (wf : Option Nm) (g : Nm) : List AV := [vR (30, l), vI s, vI c, vR (51, i), vR (52, i), vO wf, vR g, vR (54, i), vR (55, i), vR (56, i)]
def ceS (n s : Int) : Int := (s * 12 + n - 1) * 41
def suF (g : Nat → Int) : Nat → Int
  | 0 => 0
  | n + 1 => suF g n + g n
def laN (D : LaS) : Nat → Int → Int
  | 0, s => s
  | n + 1, s => laN D n (nxS D s)
def ptG (D : LaS) (f : Int → Int) (n s left : Int) : Nat → Int := fun j => lWt D (s * 4 + j) * prS D (left + lSk D (s * 4 + j) - f (ceS n s + (left + lSk D (s * 4 + j))))
def stG (D : LaS) (f : Int → Int) (n s left : Int) : Nat → Int := fun j => lWt D (s * 4 + j) * f (ceS n s + left + lSk D (s * 4 + j))
theorem laN_b {D : LaS} (hD : LOK D) : ∀ (n : Nat) {s : Int}, 0 ≤ s → s < lSe D → 0 ≤ laN D n s ∧ laN D n s < lSe D
  | 0, _, h0, h1 => ⟨h0, h1⟩
  | n + 1, s, h0, h1 => laN_b hD n (nxS_b hD h0).1 (nxS_b hD h0).2
set_option maxRecDepth 100000 in
set_option maxHeartbeats 4000000 in
theorem lp_X0_belowOf {k : WC} {d : Nat} {w : MC} {h : AH} {l : Int} {D : LaS} {E : LaY} {pl : Int → Option Nm} {n s : Int} (hd : 2 ≤ d) (hL : LandAt h l D E pl) (hD : LOK D) (hn1 : 1 ≤ n) (hn : n ≤ 12) (hc : Cx w k d 0 0 mdX0_belowOf) (he : Ends w 0 0 (pr (vL (beN D (n - 1).toNat s)) h)) : ∀ (zm : Nat) (i t p : Int), (n - i).toNat = zm → 1 ≤ i → i ≤ n → 0 ≤ t → t < lSe D → p * beN D (n - i).toNat t = beN D (n - 1).toNat s → J w 0 0 8 [some (vR (30, l)), some (vI n), some (vI s), some (vL p), none, some (vI t), some (vI i)] [] h := by
  obtain ⟨g30, g31, g32, g33, g34, g35, g36, ⟨f37, g37, q37⟩, ⟨f38, g38, q38⟩, ⟨f39, g39, q39⟩, g40⟩ := id hL
  obtain ⟨d1, d2, d3, d4, d5, d6, d7, d8, d9, d10, d11, d12, d13⟩ := id hD
  intro zm
  induction zm using Nat.strongRecOn with
  | _ zm ih =>
    intro i t p hm hi hin ht0 ht1 hp
    have zn := nxS_b hD ht0
    have zw := d13 (nxS D t) zn.1 zn.2
    refine j_iload hc dX0_belowOf_8 rfl ?_
    refine j_iload_n hc dX0_belowOf_10 rfl ?_
    refine j_icmp_ge (tgt := 39) hc dX0_belowOf_11 (by decide) ⟨by omega, by omega⟩ ⟨by omega, by omega⟩ (fun zc1 => ?_) (fun zc1 => ?_)
    · refine j_lload_n hc dX0_belowOf_39 rfl ?_
      exact j_lret hc he dX0_belowOf_40 rfl (by omega) (by omega) ⟨vL_eq (by rw [← hp, show (n - i).toNat = 0 by omega]; simp [beN]), rfl⟩
    · refine j_aload_n hc dX0_belowOf_14 rfl ?_
      refine j_iload hc dX0_belowOf_15 rfl ?_
      refine j_callV (d' := d - 1) hc dX0_belowOf_17 vX0_106 g30 (ev_X0_seasonBehind (by omega) hL hD (by omega) (by omega)) rfl (by omega) (by omega) (by omega) rfl rfl (Nat.le_of_ble_eq_true rfl) (ret1 ?_)
      refine j_istore (L' := [_, _, _, _, _, _, _]) hc dX0_belowOf_20 (Nat.le_of_ble_eq_true rfl) rfl ?_
      refine j_lload_n hc dX0_belowOf_22 rfl ?_
      refine j_aload_n hc dX0_belowOf_23 rfl ?_
      refine j_get hc dX0_belowOf_24 fX0_71 g30 rfl ?_
      refine j_iload hc dX0_belowOf_27 rfl ?_
      refine j_iald hc dX0_belowOf_29 g35 (by omega) (by omega) ?_
      refine j_i2l hc dX0_belowOf_30 ⟨by omega, by omega⟩ ?_
      refine j_lmul hc dX0_belowOf_31 ?_
      refine j_lstore_n (L' := [_, _, _, _, _, _, _]) hc dX0_belowOf_32 (Nat.le_of_ble_eq_true rfl) rfl ?_
      refine j_iinc (L' := [_, _, _, _, _, _, _]) hc dX0_belowOf_33 rfl (Nat.le_of_ble_eq_true rfl) rfl ?_
      refine j_goto (tgt := 8) hc dX0_belowOf_36 (by decide) ?_
      have e9 : (n - i).toNat = (n - (i + 1)).toNat + 1 := by omega
      rw [e9] at hp
      exact ih _ (by omega) _ _ _ rfl (by omega) (by omega) zn.1 zn.2 (by rw [← hp]; simp only [beN]; rw [Int.mul_assoc])
set_option maxRecDepth 100000 in
set_option maxHeartbeats 4000000 in
theorem ev_X0_belowOf {k : WC} {d : Nat} {h : AH} {l : Int} {D : LaS} {E : LaY} {pl : Int → Option Nm} {n s : Int} (hd : 2 ≤ d) (hL : LandAt h l D E pl) (hD : LOK D) (hn1 : 1 ≤ n) (hn : n ≤ 12) (hs0 : 0 ≤ s) (hs1 : s < lSe D)  : Ev k d mdX0_belowOf h [vR (30, l), vI n, vI s] 0 0 (pr (vL (beN D (n - 1).toNat s)) h) := by
  obtain ⟨g30, g31, g32, g33, g34, g35, g36, ⟨f37, g37, q37⟩, ⟨f38, g38, q38⟩, ⟨f39, g39, q39⟩, g40⟩ := id hL
  obtain ⟨d1, d2, d3, d4, d5, d6, d7, d8, d9, d10, d11, d12, d13⟩ := id hD
  refine Ev.mk (by decide +kernel) [_, _, _, _, _, _, _] rfl (Nat.le_of_ble_eq_true rfl) (fun w hc he => ?_)
  refine j_lconst (x := 1) hc dX0_belowOf_0 (by decide) ?_
  refine j_lstore_n (L' := [_, _, _, _, _, _, _]) hc dX0_belowOf_1 (Nat.le_of_ble_eq_true rfl) rfl ?_
  refine j_iload_n hc dX0_belowOf_2 rfl ?_
  refine j_istore (L' := [_, _, _, _, _, _, _]) hc dX0_belowOf_3 (Nat.le_of_ble_eq_true rfl) rfl ?_
  refine j_iconst hc dX0_belowOf_5 ?_
  refine j_istore (L' := [_, _, _, _, _, _, _]) hc dX0_belowOf_6 (Nat.le_of_ble_eq_true rfl) rfl ?_
  exact lp_X0_belowOf hd hL hD hn1 hn hc he _ _ _ _ rfl (by omega) (by omega) hs0 hs1 (by simp)
set_option maxRecDepth 100000 in
set_option maxHeartbeats 4000000 in
theorem ev_X2_cellOf {k : WC} {d : Nat} {h : AH} {n s : Int} (hd : 1 ≤ d) : Ev k d mdX2_cellOf h [vI n, vI s] 0 0 (pr (vI (ceS n s)) h) := by
  refine Ev.mk (by decide +kernel) [_, _] rfl (Nat.le_of_ble_eq_true rfl) (fun w hc he => ?_)
  refine j_iload_n hc dX2_cellOf_0 rfl ?_
  refine j_bipush hc dX2_cellOf_1 (by decide) ?_
  refine j_imul hc dX2_cellOf_3 ?_
  refine j_iload_n hc dX2_cellOf_4 rfl ?_
  refine j_iadd hc dX2_cellOf_5 ?_
  refine j_iconst hc dX2_cellOf_6 ?_
  refine j_isub hc dX2_cellOf_7 ?_
  refine j_bipush hc dX2_cellOf_8 (by decide) ?_
  refine j_imul hc dX2_cellOf_10 ?_
  exact j_iret hc he dX2_cellOf_11 rfl (by omega) (by omega) ⟨rfl, rfl⟩
set_option maxRecDepth 100000 in
set_option maxHeartbeats 4000000 in
theorem lp_X2_lastSeason {k : WC} {d : Nat} {w : MC} {h : AH} {l : Int} {D : LaS} {E : LaY} {pl : Int → Option Nm} {i sr cs : Int} {wf : Option Nm} {gn : Nm} {n s : Int} (hd : 2 ≤ d) (hL : LandAt h l D E pl) (hD : LOK D) (zp50 : h (50, i) = some (oO 2 (pF i l sr cs wf gn))) (hn1 : 1 ≤ n) (hn : n ≤ 12) (hc : Cx w k d 0 0 mdX2_lastSeason) (he : Ends w 0 0 (pr (vI (laN D (n - 1).toNat s)) h)) : ∀ (zm : Nat) (j t : Int), (n - j).toNat = zm → 1 ≤ j → j ≤ n → 0 ≤ t → t < lSe D → laN D (n - j).toNat t = laN D (n - 1).toNat s → J w 0 0 5 [some (vR (50, i)), some (vI n), some (vI s), some (vI t), some (vI j)] [] h := by
  obtain ⟨g30, g31, g32, g33, g34, g35, g36, ⟨f37, g37, q37⟩, ⟨f38, g38, q38⟩, ⟨f39, g39, q39⟩, g40⟩ := id hL
  obtain ⟨d1, d2, d3, d4, d5, d6, d7, d8, d9, d10, d11, d12, d13⟩ := id hD
  intro zm
  induction zm using Nat.strongRecOn with
  | _ zm ih =>
    intro j t hm hj hjn ht0 ht1 hp
    have zn := nxS_b hD ht0
    refine j_iload hc dX2_lastSeason_5 rfl ?_
    refine j_iload_n hc dX2_lastSeason_7 rfl ?_
    refine j_icmp_ge (tgt := 26) hc dX2_lastSeason_8 (by decide) ⟨by omega, by omega⟩ ⟨by omega, by omega⟩ (fun zc1 => ?_) (fun zc1 => ?_)
    · refine j_iload_n hc dX2_lastSeason_26 rfl ?_
      exact j_iret hc he dX2_lastSeason_27 rfl (by omega) (by omega) ⟨vI_eq (by rw [← hp, show (n - j).toNat = 0 by omega]; rfl), rfl⟩
    · refine j_aload_n hc dX2_lastSeason_11 rfl ?_
      refine j_get hc dX2_lastSeason_12 fX2_9 zp50 rfl ?_
      refine j_iload_n hc dX2_lastSeason_15 rfl ?_
      refine j_callV (d' := d - 1) hc dX2_lastSeason_16 vX2_105 g30 (ev_X0_seasonBehind (by omega) hL hD (by omega) (by omega)) rfl (by omega) (by omega) (by omega) rfl rfl (Nat.le_of_ble_eq_true rfl) (ret1 ?_)
      refine j_istore_n (L' := [_, _, _, _, _]) hc dX2_lastSeason_19 (Nat.le_of_ble_eq_true rfl) rfl ?_
      refine j_iinc (L' := [_, _, _, _, _]) hc dX2_lastSeason_20 rfl (Nat.le_of_ble_eq_true rfl) rfl ?_
      refine j_goto (tgt := 5) hc dX2_lastSeason_23 (by decide) ?_
      have e9 : (n - j).toNat = (n - (j + 1)).toNat + 1 := by omega
      rw [e9] at hp
      exact ih _ (by omega) _ _ rfl (by omega) (by omega) zn.1 zn.2 hp
set_option maxRecDepth 100000 in
set_option maxHeartbeats 4000000 in
theorem ev_X2_lastSeason {k : WC} {d : Nat} {h : AH} {l : Int} {D : LaS} {E : LaY} {pl : Int → Option Nm} {i sr cs : Int} {wf : Option Nm} {gn : Nm} {n s : Int} (hd : 2 ≤ d) (hL : LandAt h l D E pl) (hD : LOK D) (zp50 : h (50, i) = some (oO 2 (pF i l sr cs wf gn))) (hn1 : 1 ≤ n) (hn : n ≤ 12) (hs0 : 0 ≤ s) (hs1 : s < lSe D)  : Ev k d mdX2_lastSeason h [vR (50, i), vI n, vI s] 0 0 (pr (vI (laN D (n - 1).toNat s)) h) := by
  obtain ⟨g30, g31, g32, g33, g34, g35, g36, ⟨f37, g37, q37⟩, ⟨f38, g38, q38⟩, ⟨f39, g39, q39⟩, g40⟩ := id hL
  obtain ⟨d1, d2, d3, d4, d5, d6, d7, d8, d9, d10, d11, d12, d13⟩ := id hD
  refine Ev.mk (by decide +kernel) [_, _, _, _, _] rfl (Nat.le_of_ble_eq_true rfl) (fun w hc he => ?_)
  refine j_iload_n hc dX2_lastSeason_0 rfl ?_
  refine j_istore_n (L' := [_, _, _, _, _]) hc dX2_lastSeason_1 (Nat.le_of_ble_eq_true rfl) rfl ?_
  refine j_iconst hc dX2_lastSeason_2 ?_
  refine j_istore (L' := [_, _, _, _, _]) hc dX2_lastSeason_3 (Nat.le_of_ble_eq_true rfl) rfl ?_
  exact lp_X2_lastSeason hd hL hD zp50 hn1 hn hc he _ _ _ rfl (by omega) (by omega) hs0 hs1 rfl
set_option maxRecDepth 100000 in
set_option maxHeartbeats 4000000 in
theorem ev_X2_keptAt {k : WC} {d : Nat} {h : AH} {l : Int} {D : LaS} {E : LaY} {pl : Int → Option Nm} {i sr cs : Int} {wf : Option Nm} {gn : Nm} {kf : Int → Int} {n s a : Int} (hd : 2 ≤ d) (hL : LandAt h l D E pl) (hD : LOK D) (zp50 : h (50, i) = some (oO 2 (pF i l sr cs wf gn))) (zp51 : h (51, i) = some (oI ((lSe D).toNat * 492) kf)) (hn1 : 1 ≤ n) (hn : n ≤ 12) (hs0 : 0 ≤ s) (hs1 : s < lSe D) (ha0 : 0 ≤ a) (ha1 : a ≤ 40)  : Ev k d mdX2_keptAt h [vR (50, i), vI n, vI s, vI a] 0 0 (pr (vI (kf (ceS n s + a))) h) := by
  obtain ⟨g30, g31, g32, g33, g34, g35, g36, ⟨f37, g37, q37⟩, ⟨f38, g38, q38⟩, ⟨f39, g39, q39⟩, g40⟩ := id hL
  obtain ⟨d1, d2, d3, d4, d5, d6, d7, d8, d9, d10, d11, d12, d13⟩ := id hD
  refine Ev.mk (by decide +kernel) [_, _, _, _] rfl (Nat.le_of_ble_eq_true rfl) (fun w hc he => ?_)
  refine j_aload_n hc dX2_keptAt_0 rfl ?_
  refine j_get hc dX2_keptAt_1 fX2_28 zp50 rfl ?_
  refine j_iload_n hc dX2_keptAt_4 rfl ?_
  refine j_iload_n hc dX2_keptAt_5 rfl ?_
  refine j_callS (d' := d - 1) hc dX2_keptAt_6 sX2_81 (ev_X2_cellOf (by omega)) rfl (by omega) (by omega) (by omega) rfl rfl (Nat.le_of_ble_eq_true rfl) (ret1 ?_)
  refine j_iload_n hc dX2_keptAt_9 rfl ?_
  refine j_iadd hc dX2_keptAt_10 ?_
  refine j_iald hc dX2_keptAt_11 zp51 (by unfold ceS; omega) (by unfold ceS; omega) ?_
  exact j_iret hc he dX2_keptAt_12 rfl (by omega) (by omega) ⟨rfl, rfl⟩
set_option maxRecDepth 100000 in
set_option maxHeartbeats 4000000 in
theorem ev_X2_bestAt {k : WC} {d : Nat} {h : AH} {l : Int} {D : LaS} {E : LaY} {pl : Int → Option Nm} {i sr cs : Int} {wf : Option Nm} {gn : Nm} {bf : Int → Int} {n s a : Int} (hd : 2 ≤ d) (hL : LandAt h l D E pl) (hD : LOK D) (zp50 : h (50, i) = some (oO 2 (pF i l sr cs wf gn))) (zp52 : h (52, i) = some (oL ((lSe D).toNat * 492) bf)) (hn1 : 1 ≤ n) (hn : n ≤ 12) (hs0 : 0 ≤ s) (hs1 : s < lSe D) (ha0 : 0 ≤ a) (ha1 : a ≤ 40)  : Ev k d mdX2_bestAt h [vR (50, i), vI n, vI s, vI a] 0 0 (pr (vL (bf (ceS n s + a))) h) := by
  obtain ⟨g30, g31, g32, g33, g34, g35, g36, ⟨f37, g37, q37⟩, ⟨f38, g38, q38⟩, ⟨f39, g39, q39⟩, g40⟩ := id hL
  obtain ⟨d1, d2, d3, d4, d5, d6, d7, d8, d9, d10, d11, d12, d13⟩ := id hD
  refine Ev.mk (by decide +kernel) [_, _, _, _, _] rfl (Nat.le_of_ble_eq_true rfl) (fun w hc he => ?_)
  refine j_iload_n hc dX2_bestAt_0 rfl ?_
  refine j_iload_n hc dX2_bestAt_1 rfl ?_
  refine j_callS (d' := d - 1) hc dX2_bestAt_2 sX2_81 (ev_X2_cellOf (by omega)) rfl (by omega) (by omega) (by omega) rfl rfl (Nat.le_of_ble_eq_true rfl) (ret1 ?_)
  refine j_iload_n hc dX2_bestAt_5 rfl ?_
  refine j_iadd hc dX2_bestAt_6 ?_
  refine j_istore (L' := [_, _, _, _, _]) hc dX2_bestAt_7 (Nat.le_of_ble_eq_true rfl) rfl ?_
  refine j_iload hc dX2_bestAt_9 rfl ?_
  refine j_aload_n hc dX2_bestAt_11 rfl ?_
  refine j_get hc dX2_bestAt_12 fX2_32 zp50 rfl ?_
  refine j_alenP hc dX2_bestAt_15 zp52 (by decide) ?_
  refine j_icmp_ge (tgt := 29) hc dX2_bestAt_16 (by decide) ⟨by unfold ceS; omega, by unfold ceS; omega⟩ ⟨by omega, by omega⟩ (fun zc1 => ?_) (fun zc1 => ?_)
  · exact absurd zc1 (by unfold ceS; omega)
  · refine j_aload_n hc dX2_bestAt_19 rfl ?_
    refine j_get hc dX2_bestAt_20 fX2_32 zp50 rfl ?_
    refine j_iload hc dX2_bestAt_23 rfl ?_
    refine j_lald hc dX2_bestAt_25 zp52 (by unfold ceS; omega) (by unfold ceS; omega) ?_
    refine j_goto (tgt := 30) hc dX2_bestAt_26 (by decide) ?_
    exact j_lret hc he dX2_bestAt_30 rfl (by omega) (by omega) ⟨rfl, rfl⟩
set_option maxRecDepth 100000 in
set_option maxHeartbeats 4000000 in
theorem ev_X2_eatenOf {k : WC} {d : Nat} {h : AH} {l : Int} {D : LaS} {E : LaY} {pl : Int → Option Nm} {i sr cs : Int} {wf : Option Nm} {gn : Nm} {e : Int} (hd : 3 ≤ d) (hL : LandAt h l D E pl) (hD : LOK D) (zp50 : h (50, i) = some (oO 2 (pF i l sr cs wf gn))) (he0 : inI e) (hsr0 : 0 ≤ sr) (hsr1 : sr ≤ 4)  : Ev k d mdX2_eatenOf h [vR (50, i), vI e] 0 0 (pr (vI (eaS D sr e)) h) := by
  obtain ⟨g30, g31, g32, g33, g34, g35, g36, ⟨f37, g37, q37⟩, ⟨f38, g38, q38⟩, ⟨f39, g39, q39⟩, g40⟩ := id hL
  obtain ⟨d1, d2, d3, d4, d5, d6, d7, d8, d9, d10, d11, d12, d13⟩ := id hD
  refine Ev.mk (by decide +kernel) [_, _] rfl (Nat.le_of_ble_eq_true rfl) (fun w hc he => ?_)
  refine j_aload_n hc dX2_eatenOf_0 rfl ?_
  refine j_get hc dX2_eatenOf_1 fX2_15 zp50 rfl ?_
  refine j_iconst hc dX2_eatenOf_4 ?_
  refine j_icmp_ne (tgt := 19) hc dX2_eatenOf_5 (by decide) ⟨by omega, by omega⟩ ⟨by omega, by omega⟩ (fun zc1 => ?_) (fun zc1 => ?_)
  · refine j_aload_n hc dX2_eatenOf_19 rfl ?_
    refine j_get hc dX2_eatenOf_20 fX2_9 zp50 rfl ?_
    refine j_iload_n hc dX2_eatenOf_23 rfl ?_
    refine j_callV (d' := d - 1) hc dX2_eatenOf_24 vX2_87 g30 (ev_X0_eatersOf (by omega) hL hD ⟨by omega, by omega⟩) rfl (by omega) (by omega) (by omega) rfl rfl (Nat.le_of_ble_eq_true rfl) (ret1 ?_)
    exact j_iret hc he dX2_eatenOf_27 rfl (by omega) (by omega) ⟨vI_eq (by unfold eaS; first | rw [if_pos (by omega)] | rw [if_neg (by omega)]), rfl⟩
  · refine j_aload_n hc dX2_eatenOf_8 rfl ?_
    refine j_get hc dX2_eatenOf_9 fX2_9 zp50 rfl ?_
    refine j_iload_n hc dX2_eatenOf_12 rfl ?_
    refine j_callV (d' := d - 1) hc dX2_eatenOf_13 vX2_84 g30 (ev_X0_saleOf (by omega) hL hD ⟨by omega, by omega⟩) rfl (by omega) (by omega) (by omega) rfl rfl (Nat.le_of_ble_eq_true rfl) (ret1 ?_)
    refine j_goto (tgt := 27) hc dX2_eatenOf_16 (by decide) ?_
    exact j_iret hc he dX2_eatenOf_27 rfl (by omega) (by omega) ⟨vI_eq (by unfold eaS; first | rw [if_pos (by omega)] | rw [if_neg (by omega)]), rfl⟩
set_option maxRecDepth 100000 in
set_option maxHeartbeats 4000000 in
theorem ev_X2_priceOf {k : WC} {d : Nat} {h : AH} {l : Int} {D : LaS} {E : LaY} {pl : Int → Option Nm} {i sr cs : Int} {wf : Option Nm} {gn : Nm} {e : Int} (hd : 3 ≤ d) (hL : LandAt h l D E pl) (hD : LOK D) (zp50 : h (50, i) = some (oO 2 (pF i l sr cs wf gn))) (he0 : inI e) (hsr0 : 0 ≤ sr) (hsr1 : sr ≤ 4)  : Ev k d mdX2_priceOf h [vR (50, i), vI e] 0 0 (pr (vI (poS D sr e)) h) := by
  obtain ⟨g30, g31, g32, g33, g34, g35, g36, ⟨f37, g37, q37⟩, ⟨f38, g38, q38⟩, ⟨f39, g39, q39⟩, g40⟩ := id hL
  obtain ⟨d1, d2, d3, d4, d5, d6, d7, d8, d9, d10, d11, d12, d13⟩ := id hD
  have zsa := saS_b hD e
  refine Ev.mk (by decide +kernel) [_, _] rfl (Nat.le_of_ble_eq_true rfl) (fun w hc he => ?_)
  refine j_aload_n hc dX2_priceOf_0 rfl ?_
  refine j_get hc dX2_priceOf_1 fX2_15 zp50 rfl ?_
  refine j_iconst hc dX2_priceOf_4 ?_
  refine j_icmp_ne (tgt := 26) hc dX2_priceOf_5 (by decide) ⟨by omega, by omega⟩ ⟨by omega, by omega⟩ (fun zc1 => ?_) (fun zc1 => ?_)
  · refine j_aload_n hc dX2_priceOf_26 rfl ?_
    refine j_get hc dX2_priceOf_27 fX2_9 zp50 rfl ?_
    refine j_iload_n hc dX2_priceOf_30 rfl ?_
    refine j_callV (d' := d - 1) hc dX2_priceOf_31 vX2_93 g30 (ev_X0_priceAfter (by omega) hL hD ⟨by omega, by omega⟩) rfl (by omega) (by omega) (by omega) rfl rfl (Nat.le_of_ble_eq_true rfl) (ret1 ?_)
    exact j_iret hc he dX2_priceOf_34 rfl (by omega) (by omega) ⟨vI_eq (by unfold poS; first | rw [if_pos (by omega)] | rw [if_neg (by omega)]), rfl⟩
  · refine j_aload_n hc dX2_priceOf_8 rfl ?_
    refine j_get hc dX2_priceOf_9 fX2_9 zp50 rfl ?_
    refine j_aload_n hc dX2_priceOf_12 rfl ?_
    refine j_get hc dX2_priceOf_13 fX2_9 zp50 rfl ?_
    refine j_iload_n hc dX2_priceOf_16 rfl ?_
    refine j_callV (d' := d - 1) hc dX2_priceOf_17 vX2_84 g30 (ev_X0_saleOf (by omega) hL hD ⟨by omega, by omega⟩) rfl (by omega) (by omega) (by omega) rfl rfl (Nat.le_of_ble_eq_true rfl) (ret1 ?_)
    refine j_callV (d' := d - 1) hc dX2_priceOf_20 vX2_90 g30 (ev_X0_priceOfSale (by omega) hL hD ⟨by omega, by omega⟩) rfl (by omega) (by omega) (by omega) rfl rfl (Nat.le_of_ble_eq_true rfl) (ret1 ?_)
    refine j_goto (tgt := 34) hc dX2_priceOf_23 (by decide) ?_
    exact j_iret hc he dX2_priceOf_34 rfl (by omega) (by omega) ⟨vI_eq (by unfold poS; first | rw [if_pos (by omega)] | rw [if_neg (by omega)]), rfl⟩
set_option maxRecDepth 100000 in
set_option maxHeartbeats 4000000 in
theorem lp_X2_pricesThen {k : WC} {d : Nat} {w : MC} {h : AH} {l : Int} {D : LaS} {E : LaY} {pl : Int → Option Nm} {i sr cs : Int} {wf : Option Nm} {gn : Nm} {kf : Int → Int} {n s left : Int} (hd : 2 ≤ d) (hL : LandAt h l D E pl) (hD : LOK D) (zp50 : h (50, i) = some (oO 2 (pF i l sr cs wf gn))) (zp51 : h (51, i) = some (oI ((lSe D).toNat * 492) kf)) (hkf : ∀ x : Int, 0 ≤ x → x < (lSe D).toNat * 492 → 0 ≤ kf x ∧ kf x ≤ 20) (hn1 : 1 ≤ n) (hn : n ≤ 12) (hs0 : 0 ≤ s) (hs1 : s < lSe D) (hle0 : 0 ≤ left) (hle1 : left ≤ 20) (hc : Cx w k d 0 0 mdX2_pricesThen) (he : Ends w 0 0 (pr (vL (suF (ptG D kf n s left) (lHv D s).toNat)) h)) : ∀ (zm : Nat) (j : Nat) (c : Int) (z8 z9 : Option AV), (lHv D s).toNat - j = zm → j ≤ lHv D s → c = suF (ptG D kf n s left) j → J w 0 0 13 [some (vR (50, i)), some (vI n), some (vI s), some (vI left), some (vI (ceS n s)), some (vL c), none, some (vI j), z8, z9] [] h := by
  obtain ⟨g30, g31, g32, g33, g34, g35, g36, ⟨f37, g37, q37⟩, ⟨f38, g38, q38⟩, ⟨f39, g39, q39⟩, g40⟩ := id hL
  obtain ⟨d1, d2, d3, d4, d5, d6, d7, d8, d9, d10, d11, d12, d13⟩ := id hD
  obtain ⟨hv1, hv2, -, -, -, hv3⟩ := d13 s hs0 hs1
  intro zm
  induction zm using Nat.strongRecOn with
  | _ zm ih =>
    intro j c z8 z9 hm hj hcc
    have zce : ceS n s = (s * 12 + n - 1) * 41 := rfl
    have zpb := prS_lo hD (left + lSk D (s * 4 + j) - kf (ceS n s + (left + lSk D (s * 4 + j))))
    refine j_iload hc dX2_pricesThen_13 rfl ?_
    refine j_aload_n hc dX2_pricesThen_15 rfl ?_
    refine j_get hc dX2_pricesThen_16 fX2_9 zp50 rfl ?_
    refine j_get hc dX2_pricesThen_19 fX2_121 g30 rfl ?_
    refine j_iload_n hc dX2_pricesThen_22 rfl ?_
    refine j_iald hc dX2_pricesThen_23 g32 (by omega) (by omega) ?_
    refine j_icmp_ge (tgt := 93) hc dX2_pricesThen_24 (by decide) ⟨by omega, by omega⟩ ⟨by omega, by omega⟩ (fun zc1 => ?_) (fun zc1 => ?_)
    · refine j_lload hc dX2_pricesThen_93 rfl ?_
      exact j_lret hc he dX2_pricesThen_95 rfl (by omega) (by omega) ⟨vL_eq (by rw [hcc]; congr 1; omega), rfl⟩
    · obtain ⟨zk1, zk2, zk3, zk4⟩ := hv3 j (by omega) (by omega)
      rw [show 4 * s + (j : Int) = s * 4 + j by omega] at zk1 zk2 zk3 zk4
      have zkb := hkf (ceS n s + (left + lSk D (s * 4 + j))) (by omega) (by omega)
      refine j_iload_n hc dX2_pricesThen_27 rfl ?_
      refine j_iconst hc dX2_pricesThen_28 ?_
      refine j_imul hc dX2_pricesThen_29 ?_
      refine j_iload hc dX2_pricesThen_30 rfl ?_
      refine j_iadd hc dX2_pricesThen_32 ?_
      refine j_istore (L' := [_, _, _, _, _, _, _, _, _, _]) hc dX2_pricesThen_33 (Nat.le_of_ble_eq_true rfl) rfl ?_
      refine j_iload_n hc dX2_pricesThen_35 rfl ?_
      refine j_aload_n hc dX2_pricesThen_36 rfl ?_
      refine j_get hc dX2_pricesThen_37 fX2_9 zp50 rfl ?_
      refine j_get hc dX2_pricesThen_40 fX2_124 g30 rfl ?_
      refine j_iload hc dX2_pricesThen_43 rfl ?_
      refine j_iald hc dX2_pricesThen_45 g33 (by omega) (by omega) ?_
      refine j_iadd hc dX2_pricesThen_46 ?_
      refine j_istore (L' := [_, _, _, _, _, _, _, _, _, _]) hc dX2_pricesThen_47 (Nat.le_of_ble_eq_true rfl) rfl ?_
      refine j_lload hc dX2_pricesThen_49 rfl ?_
      refine j_aload_n hc dX2_pricesThen_51 rfl ?_
      refine j_get hc dX2_pricesThen_52 fX2_9 zp50 rfl ?_
      refine j_get hc dX2_pricesThen_55 fX2_134 g30 rfl ?_
      refine j_iload hc dX2_pricesThen_58 rfl ?_
      refine j_iald hc dX2_pricesThen_60 g34 (by omega) (by omega) ?_
      refine j_i2l hc dX2_pricesThen_61 ⟨by omega, by omega⟩ ?_
      refine j_aload_n hc dX2_pricesThen_62 rfl ?_
      refine j_get hc dX2_pricesThen_63 fX2_9 zp50 rfl ?_
      refine j_iload hc dX2_pricesThen_66 rfl ?_
      refine j_aload_n hc dX2_pricesThen_68 rfl ?_
      refine j_get hc dX2_pricesThen_69 fX2_28 zp50 rfl ?_
      refine j_iload hc dX2_pricesThen_72 rfl ?_
      refine j_iload hc dX2_pricesThen_74 rfl ?_
      refine j_iadd hc dX2_pricesThen_76 ?_
      refine j_iald hc dX2_pricesThen_77 zp51 (by omega) (by omega) ?_
      refine j_isub hc dX2_pricesThen_78 ?_
      refine j_callV (d' := d - 1) hc dX2_pricesThen_79 vX2_93 g30 (ev_X0_priceAfter (by omega) hL hD ⟨by omega, by omega⟩) rfl (by omega) (by omega) (by omega) rfl rfl (Nat.le_of_ble_eq_true rfl) (ret1 ?_)
      refine j_i2l hc dX2_pricesThen_82 ⟨by omega, by omega⟩ ?_
      refine j_lmul hc dX2_pricesThen_83 ?_
      refine j_ladd hc dX2_pricesThen_84 ?_
      refine j_lstore (L' := [_, _, _, _, _, _, _, _, _, _]) hc dX2_pricesThen_85 (Nat.le_of_ble_eq_true rfl) rfl ?_
      refine j_iinc (L' := [_, _, _, _, _, _, _, _, _, _]) hc dX2_pricesThen_87 rfl (Nat.le_of_ble_eq_true rfl) rfl ?_
      refine j_goto (tgt := 13) hc dX2_pricesThen_90 (by decide) ?_
      exact ih _ (by omega) (j + 1) _ _ _ rfl (by omega) (by rw [hcc]; rfl)
set_option maxRecDepth 100000 in
set_option maxHeartbeats 4000000 in
theorem ev_X2_pricesThen {k : WC} {d : Nat} {h : AH} {l : Int} {D : LaS} {E : LaY} {pl : Int → Option Nm} {i sr cs : Int} {wf : Option Nm} {gn : Nm} {kf : Int → Int} {n s left : Int} (hd : 2 ≤ d) (hL : LandAt h l D E pl) (hD : LOK D) (zp50 : h (50, i) = some (oO 2 (pF i l sr cs wf gn))) (zp51 : h (51, i) = some (oI ((lSe D).toNat * 492) kf)) (hkf : ∀ x : Int, 0 ≤ x → x < (lSe D).toNat * 492 → 0 ≤ kf x ∧ kf x ≤ 20) (hn1 : 1 ≤ n) (hn : n ≤ 12) (hs0 : 0 ≤ s) (hs1 : s < lSe D) (hle0 : 0 ≤ left) (hle1 : left ≤ 20)  : Ev k d mdX2_pricesThen h [vR (50, i), vI n, vI s, vI left] 0 0 (pr (vL (suF (ptG D kf n s left) (lHv D s).toNat)) h) := by
  obtain ⟨g30, g31, g32, g33, g34, g35, g36, ⟨f37, g37, q37⟩, ⟨f38, g38, q38⟩, ⟨f39, g39, q39⟩, g40⟩ := id hL
  obtain ⟨d1, d2, d3, d4, d5, d6, d7, d8, d9, d10, d11, d12, d13⟩ := id hD
  refine Ev.mk (by decide +kernel) [_, _, _, _, _, _, _, _, _, _] rfl (Nat.le_of_ble_eq_true rfl) (fun w hc he => ?_)
  refine j_iload_n hc dX2_pricesThen_0 rfl ?_
  refine j_iload_n hc dX2_pricesThen_1 rfl ?_
  refine j_callS (d' := d - 1) hc dX2_pricesThen_2 sX2_81 (ev_X2_cellOf (by omega)) rfl (by omega) (by omega) (by omega) rfl rfl (Nat.le_of_ble_eq_true rfl) (ret1 ?_)
  refine j_istore (L' := [_, _, _, _, _, _, _, _, _, _]) hc dX2_pricesThen_5 (Nat.le_of_ble_eq_true rfl) rfl ?_
  refine j_lconst (x := 0) hc dX2_pricesThen_7 (by decide) ?_
  refine j_lstore (L' := [_, _, _, _, _, _, _, _, _, _]) hc dX2_pricesThen_8 (Nat.le_of_ble_eq_true rfl) rfl ?_
  refine j_iconst hc dX2_pricesThen_10 ?_
  refine j_istore (L' := [_, _, _, _, _, _, _, _, _, _]) hc dX2_pricesThen_11 (Nat.le_of_ble_eq_true rfl) rfl ?_
  exact lp_X2_pricesThen hd hL hD zp50 zp51 hkf hn1 hn hs0 hs1 hle0 hle1 hc he _ 0 _ _ _ rfl (by have := d13 s hs0 hs1; omega) rfl
set_option maxRecDepth 100000 in
set_option maxHeartbeats 4000000 in
theorem lp_X2_sumThen {k : WC} {d : Nat} {w : MC} {h : AH} {l : Int} {D : LaS} {E : LaY} {pl : Int → Option Nm} {i sr cs : Int} {wf : Option Nm} {gn vn : Nm} {vf : Int → Int} {n s left : Int} (hd : 2 ≤ d) (hL : LandAt h l D E pl) (hD : LOK D) (zp50 : h (50, i) = some (oO 2 (pF i l sr cs wf gn))) (zv : h vn = some (oL ((lSe D).toNat * 492) vf)) (hn1 : 1 ≤ n) (hn : n ≤ 12) (hs0 : 0 ≤ s) (hs1 : s < lSe D) (hle0 : 0 ≤ left) (hle1 : left ≤ 20) (hc : Cx w k d 0 0 mdX2_sumThen) (he : Ends w 0 0 (pr (vL (suF (stG D vf n s left) (lHv D s).toNat)) h)) : ∀ (zm : Nat) (j : Nat) (c : Int) (z9 : Option AV), (lHv D s).toNat - j = zm → j ≤ lHv D s → c = suF (stG D vf n s left) j → J w 0 0 13 [some (vR (50, i)), some (vR vn), some (vI n), some (vI s), some (vI left), some (vI (ceS n s)), some (vL c), none, some (vI j), z9] [] h := by
  obtain ⟨g30, g31, g32, g33, g34, g35, g36, ⟨f37, g37, q37⟩, ⟨f38, g38, q38⟩, ⟨f39, g39, q39⟩, g40⟩ := id hL
  obtain ⟨d1, d2, d3, d4, d5, d6, d7, d8, d9, d10, d11, d12, d13⟩ := id hD
  obtain ⟨hv1, hv2, -, -, -, hv3⟩ := d13 s hs0 hs1
  intro zm
  induction zm using Nat.strongRecOn with
  | _ zm ih =>
    intro j c z9 hm hj hcc
    have zce : ceS n s = (s * 12 + n - 1) * 41 := rfl
    refine j_iload hc dX2_sumThen_13 rfl ?_
    refine j_aload_n hc dX2_sumThen_15 rfl ?_
    refine j_get hc dX2_sumThen_16 fX2_9 zp50 rfl ?_
    refine j_get hc dX2_sumThen_19 fX2_121 g30 rfl ?_
    refine j_iload_n hc dX2_sumThen_22 rfl ?_
    refine j_iald hc dX2_sumThen_23 g32 (by omega) (by omega) ?_
    refine j_icmp_ge (tgt := 76) hc dX2_sumThen_24 (by decide) ⟨by omega, by omega⟩ ⟨by omega, by omega⟩ (fun zc1 => ?_) (fun zc1 => ?_)
    · refine j_lload hc dX2_sumThen_76 rfl ?_
      exact j_lret hc he dX2_sumThen_78 rfl (by omega) (by omega) ⟨vL_eq (by rw [hcc]; congr 1; omega), rfl⟩
    · obtain ⟨zk1, zk2, zk3, zk4⟩ := hv3 j (by omega) (by omega)
      rw [show 4 * s + (j : Int) = s * 4 + j by omega] at zk1 zk2 zk3 zk4
      refine j_iload_n hc dX2_sumThen_27 rfl ?_
      refine j_iconst hc dX2_sumThen_28 ?_
      refine j_imul hc dX2_sumThen_29 ?_
      refine j_iload hc dX2_sumThen_30 rfl ?_
      refine j_iadd hc dX2_sumThen_32 ?_
      refine j_istore (L' := [_, _, _, _, _, _, _, _, _, _]) hc dX2_sumThen_33 (Nat.le_of_ble_eq_true rfl) rfl ?_
      refine j_lload hc dX2_sumThen_35 rfl ?_
      refine j_aload_n hc dX2_sumThen_37 rfl ?_
      refine j_get hc dX2_sumThen_38 fX2_9 zp50 rfl ?_
      refine j_get hc dX2_sumThen_41 fX2_134 g30 rfl ?_
      refine j_iload hc dX2_sumThen_44 rfl ?_
      refine j_iald hc dX2_sumThen_46 g34 (by omega) (by omega) ?_
      refine j_i2l hc dX2_sumThen_47 ⟨by omega, by omega⟩ ?_
      refine j_aload_n hc dX2_sumThen_48 rfl ?_
      refine j_iload hc dX2_sumThen_49 rfl ?_
      refine j_iload hc dX2_sumThen_51 rfl ?_
      refine j_iadd hc dX2_sumThen_53 ?_
      refine j_aload_n hc dX2_sumThen_54 rfl ?_
      refine j_get hc dX2_sumThen_55 fX2_9 zp50 rfl ?_
      refine j_get hc dX2_sumThen_58 fX2_124 g30 rfl ?_
      refine j_iload hc dX2_sumThen_61 rfl ?_
      refine j_iald hc dX2_sumThen_63 g33 (by omega) (by omega) ?_
      refine j_iadd hc dX2_sumThen_64 ?_
      refine j_lald hc dX2_sumThen_65 zv (by omega) (by omega) ?_
      refine j_lmul hc dX2_sumThen_66 ?_
      refine j_ladd hc dX2_sumThen_67 ?_
      refine j_lstore (L' := [_, _, _, _, _, _, _, _, _, _]) hc dX2_sumThen_68 (Nat.le_of_ble_eq_true rfl) rfl ?_
      refine j_iinc (L' := [_, _, _, _, _, _, _, _, _, _]) hc dX2_sumThen_70 rfl (Nat.le_of_ble_eq_true rfl) rfl ?_
      refine j_goto (tgt := 13) hc dX2_sumThen_73 (by decide) ?_
      exact ih _ (by omega) (j + 1) _ _ rfl (by omega) (by rw [hcc]; rfl)
set_option maxRecDepth 100000 in
set_option maxHeartbeats 4000000 in
theorem ev_X2_sumThen {k : WC} {d : Nat} {h : AH} {l : Int} {D : LaS} {E : LaY} {pl : Int → Option Nm} {i sr cs : Int} {wf : Option Nm} {gn : Nm} {vn : Nm} {vf : Int → Int} {n s left : Int} (hd : 2 ≤ d) (hL : LandAt h l D E pl) (hD : LOK D) (zp50 : h (50, i) = some (oO 2 (pF i l sr cs wf gn))) (zv : h vn = some (oL ((lSe D).toNat * 492) vf)) (hn1 : 1 ≤ n) (hn : n ≤ 12) (hs0 : 0 ≤ s) (hs1 : s < lSe D) (hle0 : 0 ≤ left) (hle1 : left ≤ 20)  : Ev k d mdX2_sumThen h [vR (50, i), vR vn, vI n, vI s, vI left] 0 0 (pr (vL (suF (stG D vf n s left) (lHv D s).toNat)) h) := by
  obtain ⟨g30, g31, g32, g33, g34, g35, g36, ⟨f37, g37, q37⟩, ⟨f38, g38, q38⟩, ⟨f39, g39, q39⟩, g40⟩ := id hL
  obtain ⟨d1, d2, d3, d4, d5, d6, d7, d8, d9, d10, d11, d12, d13⟩ := id hD
  refine Ev.mk (by decide +kernel) [_, _, _, _, _, _, _, _, _, _] rfl (Nat.le_of_ble_eq_true rfl) (fun w hc he => ?_)
  refine j_iload_n hc dX2_sumThen_0 rfl ?_
  refine j_iload_n hc dX2_sumThen_1 rfl ?_
  refine j_callS (d' := d - 1) hc dX2_sumThen_2 sX2_81 (ev_X2_cellOf (by omega)) rfl (by omega) (by omega) (by omega) rfl rfl (Nat.le_of_ble_eq_true rfl) (ret1 ?_)
  refine j_istore (L' := [_, _, _, _, _, _, _, _, _, _]) hc dX2_sumThen_5 (Nat.le_of_ble_eq_true rfl) rfl ?_
  refine j_lconst (x := 0) hc dX2_sumThen_7 (by decide) ?_
  refine j_lstore (L' := [_, _, _, _, _, _, _, _, _, _]) hc dX2_sumThen_8 (Nat.le_of_ble_eq_true rfl) rfl ?_
  refine j_iconst hc dX2_sumThen_10 ?_
  refine j_istore (L' := [_, _, _, _, _, _, _, _, _, _]) hc dX2_sumThen_11 (Nat.le_of_ble_eq_true rfl) rfl ?_
  exact lp_X2_sumThen hd hL hD zp50 zv hn1 hn hs0 hs1 hle0 hle1 hc he _ 0 _ _ rfl (by have := d13 s hs0 hs1; omega) rfl
