/-! ===== contracts: within, Math, a land's small methods ===== -/
set_option maxRecDepth 100000 in
set_option maxHeartbeats 4000000 in
theorem ev_X10_within {k : WC} {d : Nat} {h : AH} {a lo hi : Int} (hd : 1 ≤ d) (ha : inI a) (hlo : inI lo) (hhi : inI hi) : Ev k d mdX10_within h [vI a, vI lo, vI hi] 0 0 (pr (vI (if lo ≤ a ∧ a ≤ hi then 1 else 0)) h) := by
  refine Ev.mk (by decide +kernel) [_, _, _] rfl (Nat.le_of_ble_eq_true rfl) (fun w hc he => ?_)
  refine j_iload_n hc dX10_within_0 rfl ?_
  refine j_iload_n hc dX10_within_1 rfl ?_
  refine j_icmp_lt (tgt := 14) hc dX10_within_2 (by decide) ⟨by omega, by omega⟩ ⟨by omega, by omega⟩ (fun zc1 => ?_) (fun zc1 => ?_)
  · refine j_iconst hc dX10_within_14 ?_
    exact j_zret hc he dX10_within_15 rfl (by omega) (by omega) (by first | exact Or.inl rfl | exact Or.inr rfl) ⟨vI_eq (by first | rfl | (split <;> omega)), rfl⟩
  · refine j_iload_n hc dX10_within_5 rfl ?_
    refine j_iload_n hc dX10_within_6 rfl ?_
    refine j_icmp_gt (tgt := 14) hc dX10_within_7 (by decide) ⟨by omega, by omega⟩ ⟨by omega, by omega⟩ (fun zc2 => ?_) (fun zc2 => ?_)
    · refine j_iconst hc dX10_within_14 ?_
      exact j_zret hc he dX10_within_15 rfl (by omega) (by omega) (by first | exact Or.inl rfl | exact Or.inr rfl) ⟨vI_eq (by first | rfl | (split <;> omega)), rfl⟩
    · refine j_iconst hc dX10_within_10 ?_
      refine j_goto (tgt := 15) hc dX10_within_11 (by decide) ?_
      exact j_zret hc he dX10_within_15 rfl (by omega) (by omega) (by first | exact Or.inl rfl | exact Or.inr rfl) ⟨vI_eq (by first | rfl | (split <;> omega)), rfl⟩
set_option maxRecDepth 100000 in
set_option maxHeartbeats 4000000 in
theorem ev_X0_eatersOf {k : WC} {d : Nat} {h : AH} {l : Int} {D : LaS} {E : LaY} {pl : Int → Option Nm} {e : Int} (hd : 2 ≤ d) (hL : LandAt h l D E pl) (hD : LOK D) (he0 : inI e)  : Ev k d mdX0_eatersOf h [vR (30, l), vI e] 0 0 (pr (vI (min e (lNe D))) h) := by
  obtain ⟨g30, g31, g32, g33, g34, g35, g36, ⟨f37, g37, q37⟩, ⟨f38, g38, q38⟩, ⟨f39, g39, q39⟩, g40⟩ := id hL
  obtain ⟨d1, d2, d3, d4, d5, d6, d7, d8, d9, d10, d11, d12, d13⟩ := id hD
  refine Ev.mk (by decide +kernel) [_, _] rfl (Nat.le_of_ble_eq_true rfl) (fun w hc he => ?_)
  refine j_iload_n hc dX0_eatersOf_0 rfl ?_
  refine j_aload_n hc dX0_eatersOf_1 rfl ?_
  refine j_get hc dX0_eatersOf_2 fX0_34 g30 rfl ?_
  refine j_alenP hc dX0_eatersOf_5 g31 (by decide) ?_
  refine j_mmin hc dX0_eatersOf_6 mX0_99 mo_min ⟨by omega, by omega⟩ ⟨by omega, by omega⟩ (by omega) (by omega) rfl (by omega) (Nat.le_of_ble_eq_true rfl) ?_
  exact j_iret hc he dX0_eatersOf_9 rfl (by omega) (by omega) ⟨rfl, rfl⟩
set_option maxRecDepth 100000 in
set_option maxHeartbeats 4000000 in
theorem ev_X0_priceAfter {k : WC} {d : Nat} {h : AH} {l : Int} {D : LaS} {E : LaY} {pl : Int → Option Nm} {e : Int} (hd : 1 ≤ d) (hL : LandAt h l D E pl) (hD : LOK D) (he0 : inI e)  : Ev k d mdX0_priceAfter h [vR (30, l), vI e] 0 0 (pr (vI (prS D e)) h) := by
  obtain ⟨g30, g31, g32, g33, g34, g35, g36, ⟨f37, g37, q37⟩, ⟨f38, g38, q38⟩, ⟨f39, g39, q39⟩, g40⟩ := id hL
  obtain ⟨d1, d2, d3, d4, d5, d6, d7, d8, d9, d10, d11, d12, d13⟩ := id hD
  refine Ev.mk (by decide +kernel) [_, _] rfl (Nat.le_of_ble_eq_true rfl) (fun w hc he => ?_)
  refine j_iload_n hc dX0_priceAfter_0 rfl ?_
  refine j_if_lt (b := 0) (tgt := 22) hc dX0_priceAfter_1 (by decide) ⟨by omega, by omega⟩ (fun zc1 => ?_) (fun zc1 => ?_)
  · refine j_iconst hc dX0_priceAfter_22 ?_
    exact j_iret hc he dX0_priceAfter_23 rfl (by omega) (by omega) ⟨vI_eq (by unfold prS; first | rw [if_pos ⟨by omega, by omega⟩] | rw [if_neg (by omega)]), rfl⟩
  · refine j_iload_n hc dX0_priceAfter_4 rfl ?_
    refine j_aload_n hc dX0_priceAfter_5 rfl ?_
    refine j_get hc dX0_priceAfter_6 fX0_34 g30 rfl ?_
    refine j_alenP hc dX0_priceAfter_9 g31 (by decide) ?_
    refine j_icmp_ge (tgt := 22) hc dX0_priceAfter_10 (by decide) ⟨by omega, by omega⟩ ⟨by omega, by omega⟩ (fun zc2 => ?_) (fun zc2 => ?_)
    · refine j_iconst hc dX0_priceAfter_22 ?_
      exact j_iret hc he dX0_priceAfter_23 rfl (by omega) (by omega) ⟨vI_eq (by unfold prS; first | rw [if_pos ⟨by omega, by omega⟩] | rw [if_neg (by omega)]), rfl⟩
    · refine j_aload_n hc dX0_priceAfter_13 rfl ?_
      refine j_get hc dX0_priceAfter_14 fX0_34 g30 rfl ?_
      refine j_iload_n hc dX0_priceAfter_17 rfl ?_
      refine j_iald hc dX0_priceAfter_18 g31 (by omega) (by omega) ?_
      refine j_goto (tgt := 23) hc dX0_priceAfter_19 (by decide) ?_
      exact j_iret hc he dX0_priceAfter_23 rfl (by omega) (by omega) ⟨vI_eq (by unfold prS; first | rw [if_pos ⟨by omega, by omega⟩] | rw [if_neg (by omega)]), rfl⟩
set_option maxRecDepth 100000 in
set_option maxHeartbeats 4000000 in
theorem ev_X0_leftOf {k : WC} {d : Nat} {h : AH} {l : Int} {D : LaS} {E : LaY} {pl : Int → Option Nm} {e : Int} (hd : 1 ≤ d) (hL : LandAt h l D E pl) (hD : LOK D) (he0 : 0 ≤ e) (he1 : e ≤ 1000)  : Ev k d mdX0_leftOf h [vR (30, l), vI e] 0 0 (pr (vI (leS D e)) h) := by
  obtain ⟨g30, g31, g32, g33, g34, g35, g36, ⟨f37, g37, q37⟩, ⟨f38, g38, q38⟩, ⟨f39, g39, q39⟩, g40⟩ := id hL
  obtain ⟨d1, d2, d3, d4, d5, d6, d7, d8, d9, d10, d11, d12, d13⟩ := id hD
  refine Ev.mk (by decide +kernel) [_, _] rfl (Nat.le_of_ble_eq_true rfl) (fun w hc he => ?_)
  refine j_aload_n hc dX0_leftOf_0 rfl ?_
  refine j_get hc dX0_leftOf_1 fX0_25 g30 rfl ?_
  refine j_if_le (b := 0) (tgt := 18) hc dX0_leftOf_4 (by decide) ⟨by omega, by omega⟩ (fun zc1 => ?_) (fun zc1 => ?_)
  · refine j_iload_n hc dX0_leftOf_18 rfl ?_
    exact j_iret hc he dX0_leftOf_19 rfl (by omega) (by omega) ⟨vI_eq (by unfold leS; first | rw [if_pos (by omega), Int.tdiv_eq_ediv_of_nonneg he0] | rw [if_neg (by omega)]), rfl⟩
  · refine j_iload_n hc dX0_leftOf_7 rfl ?_
    refine j_iload_n hc dX0_leftOf_8 rfl ?_
    refine j_aload_n hc dX0_leftOf_9 rfl ?_
    refine j_get hc dX0_leftOf_10 fX0_25 g30 rfl ?_
    refine j_idiv hc dX0_leftOf_13 ⟨by omega, by omega⟩ ⟨by omega, by omega⟩ (by omega) ?_
    refine j_isub hc dX0_leftOf_14 ?_
    refine j_goto (tgt := 19) hc dX0_leftOf_15 (by decide) ?_
    exact j_iret hc he dX0_leftOf_19 rfl (by omega) (by omega) ⟨vI_eq (by unfold leS; first | rw [if_pos (by omega), Int.tdiv_eq_ediv_of_nonneg he0] | rw [if_neg (by omega)]), rfl⟩
set_option maxRecDepth 100000 in
set_option maxHeartbeats 4000000 in
theorem ev_X0_mostKept {k : WC} {d : Nat} {h : AH} {l : Int} {D : LaS} {E : LaY} {pl : Int → Option Nm} (hd : 2 ≤ d) (hL : LandAt h l D E pl) (hD : LOK D) (hE : YOK E)  : Ev k d mdX0_mostKept h [vR (30, l)] 0 0 (pr (vI (moS D E)) h) := by
  obtain ⟨g30, g31, g32, g33, g34, g35, g36, ⟨f37, g37, q37⟩, ⟨f38, g38, q38⟩, ⟨f39, g39, q39⟩, g40⟩ := id hL
  obtain ⟨d1, d2, d3, d4, d5, d6, d7, d8, d9, d10, d11, d12, d13⟩ := id hD
  obtain ⟨y1, y2, -⟩ := id hE
  refine Ev.mk (by decide +kernel) [_] rfl (Nat.le_of_ble_eq_true rfl) (fun w hc he => ?_)
  refine j_aload_n hc dX0_mostKept_0 rfl ?_
  refine j_get hc dX0_mostKept_1 fX0_29 g30 rfl ?_
  refine j_aload_n hc dX0_mostKept_4 rfl ?_
  refine j_get hc dX0_mostKept_5 fX0_81 g30 rfl ?_
  refine j_mmin hc dX0_mostKept_8 mX0_99 mo_min ⟨by omega, by omega⟩ ⟨by omega, by omega⟩ (by omega) (by omega) rfl (by omega) (Nat.le_of_ble_eq_true rfl) ?_
  exact j_iret hc he dX0_mostKept_11 rfl (by omega) (by omega) ⟨rfl, rfl⟩
set_option maxRecDepth 100000 in
set_option maxHeartbeats 4000000 in
theorem ev_X0_seasonBehind {k : WC} {d : Nat} {h : AH} {l : Int} {D : LaS} {E : LaY} {pl : Int → Option Nm} {e : Int} (hd : 1 ≤ d) (hL : LandAt h l D E pl) (hD : LOK D) (he0 : 0 ≤ e) (he1 : e ≤ 1000)  : Ev k d mdX0_seasonBehind h [vR (30, l), vI e] 0 0 (pr (vI (nxS D e)) h) := by
  obtain ⟨g30, g31, g32, g33, g34, g35, g36, ⟨f37, g37, q37⟩, ⟨f38, g38, q38⟩, ⟨f39, g39, q39⟩, g40⟩ := id hL
  obtain ⟨d1, d2, d3, d4, d5, d6, d7, d8, d9, d10, d11, d12, d13⟩ := id hD
  refine Ev.mk (by decide +kernel) [_, _] rfl (Nat.le_of_ble_eq_true rfl) (fun w hc he => ?_)
  refine j_iload_n hc dX0_seasonBehind_0 rfl ?_
  refine j_iconst hc dX0_seasonBehind_1 ?_
  refine j_iadd hc dX0_seasonBehind_2 ?_
  refine j_aload_n hc dX0_seasonBehind_3 rfl ?_
  refine j_get hc dX0_seasonBehind_4 fX0_15 g30 rfl ?_
  refine j_icmp_ge (tgt := 16) hc dX0_seasonBehind_7 (by decide) ⟨by omega, by omega⟩ ⟨by omega, by omega⟩ (fun zc1 => ?_) (fun zc1 => ?_)
  · refine j_iconst hc dX0_seasonBehind_16 ?_
    exact j_iret hc he dX0_seasonBehind_17 rfl (by omega) (by omega) ⟨vI_eq (by unfold nxS; first | rw [if_pos (by omega)] | rw [if_neg (by omega)]), rfl⟩
  · refine j_iload_n hc dX0_seasonBehind_10 rfl ?_
    refine j_iconst hc dX0_seasonBehind_11 ?_
    refine j_iadd hc dX0_seasonBehind_12 ?_
    refine j_goto (tgt := 17) hc dX0_seasonBehind_13 (by decide) ?_
    exact j_iret hc he dX0_seasonBehind_17 rfl (by omega) (by omega) ⟨vI_eq (by unfold nxS; first | rw [if_pos (by omega)] | rw [if_neg (by omega)]), rfl⟩
set_option maxRecDepth 100000 in
set_option maxHeartbeats 4000000 in
theorem ev_X0_seasonAhead {k : WC} {d : Nat} {h : AH} {l : Int} {D : LaS} {E : LaY} {pl : Int → Option Nm} {e : Int} (hd : 1 ≤ d) (hL : LandAt h l D E pl) (hD : LOK D) (he0 : 0 ≤ e) (he1 : e ≤ 1000)  : Ev k d mdX0_seasonAhead h [vR (30, l), vI e] 0 0 (pr (vI (pvS D e)) h) := by
  obtain ⟨g30, g31, g32, g33, g34, g35, g36, ⟨f37, g37, q37⟩, ⟨f38, g38, q38⟩, ⟨f39, g39, q39⟩, g40⟩ := id hL
  obtain ⟨d1, d2, d3, d4, d5, d6, d7, d8, d9, d10, d11, d12, d13⟩ := id hD
  refine Ev.mk (by decide +kernel) [_, _] rfl (Nat.le_of_ble_eq_true rfl) (fun w hc he => ?_)
  refine j_iload_n hc dX0_seasonAhead_0 rfl ?_
  refine j_if_le (b := 0) (tgt := 10) hc dX0_seasonAhead_1 (by decide) ⟨by omega, by omega⟩ (fun zc1 => ?_) (fun zc1 => ?_)
  · refine j_aload_n hc dX0_seasonAhead_10 rfl ?_
    refine j_get hc dX0_seasonAhead_11 fX0_15 g30 rfl ?_
    refine j_iconst hc dX0_seasonAhead_14 ?_
    refine j_isub hc dX0_seasonAhead_15 ?_
    exact j_iret hc he dX0_seasonAhead_16 rfl (by omega) (by omega) ⟨vI_eq (by unfold pvS; first | rw [if_pos (by omega)] | rw [if_neg (by omega)]), rfl⟩
  · refine j_iload_n hc dX0_seasonAhead_4 rfl ?_
    refine j_iconst hc dX0_seasonAhead_5 ?_
    refine j_isub hc dX0_seasonAhead_6 ?_
    refine j_goto (tgt := 16) hc dX0_seasonAhead_7 (by decide) ?_
    exact j_iret hc he dX0_seasonAhead_16 rfl (by omega) (by omega) ⟨vI_eq (by unfold pvS; first | rw [if_pos (by omega)] | rw [if_neg (by omega)]), rfl⟩
set_option maxRecDepth 100000 in
set_option maxHeartbeats 4000000 in
theorem ev_X0_goodsOf {k : WC} {d : Nat} {h : AH} {l : Int} {D : LaS} {E : LaY} {pl : Int → Option Nm} {e : Int} (hd : 2 ≤ d) (hL : LandAt h l D E pl) (hD : LOK D) (he0 : inI e)  : Ev k d mdX0_goodsOf h [vR (30, l), vI e] 0 0 (pr (vI (if 0 ≤ e ∧ e ≤ 200 then goS D e else 0)) h) := by
  obtain ⟨g30, g31, g32, g33, g34, g35, g36, ⟨f37, g37, q37⟩, ⟨f38, g38, q38⟩, ⟨f39, g39, q39⟩, g40⟩ := id hL
  obtain ⟨d1, d2, d3, d4, d5, d6, d7, d8, d9, d10, d11, d12, d13⟩ := id hD
  refine Ev.mk (by decide +kernel) [_, _] rfl (Nat.le_of_ble_eq_true rfl) (fun w hc he => ?_)
  refine j_iload_n hc dX0_goodsOf_0 rfl ?_
  refine j_iconst hc dX0_goodsOf_1 ?_
  refine j_sipush hc dX0_goodsOf_2 (by decide) ?_
  refine j_callSN (d' := d - 1) hc dX0_goodsOf_5 nX0_102 (ev_X10_within (by omega) ⟨by omega, by omega⟩ ⟨by omega, by omega⟩ ⟨by omega, by omega⟩) rfl (by omega) (by omega) (by omega) rfl rfl (Nat.le_of_ble_eq_true rfl) (ret1 ?_)
  refine j_if_eq (b := 0) (tgt := 20) hc dX0_goodsOf_8 (by decide) (by split <;> exact ⟨by omega, by omega⟩) (fun zc1 => ?_) (fun zc1 => ?_)
  · have zc_9 : ¬ (0 ≤ e ∧ e ≤ 200) := by split at zc1 <;> omega
    refine j_iconst hc dX0_goodsOf_20 ?_
    exact j_iret hc he dX0_goodsOf_21 rfl (by omega) (by omega) ⟨vI_eq (by first | rw [if_pos zc_9, q37 e zc_9.1 zc_9.2] | rw [if_neg zc_9]), rfl⟩
  · have zc_9 : 0 ≤ e ∧ e ≤ 200 := by split at zc1 <;> omega
    refine j_aload_n hc dX0_goodsOf_11 rfl ?_
    refine j_get hc dX0_goodsOf_12 fX0_42 g30 rfl ?_
    refine j_iload_n hc dX0_goodsOf_15 rfl ?_
    refine j_iald hc dX0_goodsOf_16 g37 (by omega) (by omega) ?_
    refine j_goto (tgt := 21) hc dX0_goodsOf_17 (by decide) ?_
    exact j_iret hc he dX0_goodsOf_21 rfl (by omega) (by omega) ⟨vI_eq (by first | rw [if_pos zc_9, q37 e zc_9.1 zc_9.2] | rw [if_neg zc_9]), rfl⟩
set_option maxRecDepth 100000 in
set_option maxHeartbeats 4000000 in
theorem ev_X0_saleOf {k : WC} {d : Nat} {h : AH} {l : Int} {D : LaS} {E : LaY} {pl : Int → Option Nm} {e : Int} (hd : 2 ≤ d) (hL : LandAt h l D E pl) (hD : LOK D) (he0 : inI e)  : Ev k d mdX0_saleOf h [vR (30, l), vI e] 0 0 (pr (vI (saS D e)) h) := by
  obtain ⟨g30, g31, g32, g33, g34, g35, g36, ⟨f37, g37, q37⟩, ⟨f38, g38, q38⟩, ⟨f39, g39, q39⟩, g40⟩ := id hL
  obtain ⟨d1, d2, d3, d4, d5, d6, d7, d8, d9, d10, d11, d12, d13⟩ := id hD
  refine Ev.mk (by decide +kernel) [_, _] rfl (Nat.le_of_ble_eq_true rfl) (fun w hc he => ?_)
  refine j_iload_n hc dX0_saleOf_0 rfl ?_
  refine j_iconst hc dX0_saleOf_1 ?_
  refine j_bipush hc dX0_saleOf_2 (by decide) ?_
  refine j_callSN (d' := d - 1) hc dX0_saleOf_4 nX0_102 (ev_X10_within (by omega) ⟨by omega, by omega⟩ ⟨by omega, by omega⟩ ⟨by omega, by omega⟩) rfl (by omega) (by omega) (by omega) rfl rfl (Nat.le_of_ble_eq_true rfl) (ret1 ?_)
  refine j_if_eq (b := 0) (tgt := 19) hc dX0_saleOf_7 (by decide) (by split <;> exact ⟨by omega, by omega⟩) (fun zc1 => ?_) (fun zc1 => ?_)
  · have zc_9 : ¬ (0 ≤ e ∧ e ≤ 40) := by split at zc1 <;> omega
    refine j_iconst hc dX0_saleOf_19 ?_
    exact j_iret hc he dX0_saleOf_20 rfl (by omega) (by omega) ⟨vI_eq (by unfold saS; first | rw [if_pos zc_9, q39 e zc_9.1 zc_9.2] | rw [if_neg zc_9]), rfl⟩
  · have zc_9 : 0 ≤ e ∧ e ≤ 40 := by split at zc1 <;> omega
    refine j_aload_n hc dX0_saleOf_10 rfl ?_
    refine j_get hc dX0_saleOf_11 fX0_48 g30 rfl ?_
    refine j_iload_n hc dX0_saleOf_14 rfl ?_
    refine j_iald hc dX0_saleOf_15 g39 (by omega) (by omega) ?_
    refine j_goto (tgt := 20) hc dX0_saleOf_16 (by decide) ?_
    exact j_iret hc he dX0_saleOf_20 rfl (by omega) (by omega) ⟨vI_eq (by unfold saS; first | rw [if_pos zc_9, q39 e zc_9.1 zc_9.2] | rw [if_neg zc_9]), rfl⟩
set_option maxRecDepth 100000 in
set_option maxHeartbeats 4000000 in
theorem ev_X0_priceOfSale {k : WC} {d : Nat} {h : AH} {l : Int} {D : LaS} {E : LaY} {pl : Int → Option Nm} {e : Int} (hd : 2 ≤ d) (hL : LandAt h l D E pl) (hD : LOK D) (he0 : inI e)  : Ev k d mdX0_priceOfSale h [vR (30, l), vI e] 0 0 (pr (vI (psS D e)) h) := by
  obtain ⟨g30, g31, g32, g33, g34, g35, g36, ⟨f37, g37, q37⟩, ⟨f38, g38, q38⟩, ⟨f39, g39, q39⟩, g40⟩ := id hL
  obtain ⟨d1, d2, d3, d4, d5, d6, d7, d8, d9, d10, d11, d12, d13⟩ := id hD
  refine Ev.mk (by decide +kernel) [_, _] rfl (Nat.le_of_ble_eq_true rfl) (fun w hc he => ?_)
  refine j_iload_n hc dX0_priceOfSale_0 rfl ?_
  refine j_iconst hc dX0_priceOfSale_1 ?_
  refine j_aload_n hc dX0_priceOfSale_2 rfl ?_
  refine j_get hc dX0_priceOfSale_3 fX0_34 g30 rfl ?_
  refine j_alenP hc dX0_priceOfSale_6 g31 (by decide) ?_
  refine j_callSN (d' := d - 1) hc dX0_priceOfSale_7 nX0_102 (ev_X10_within (by omega) ⟨by omega, by omega⟩ ⟨by omega, by omega⟩ ⟨by omega, by omega⟩) rfl (by omega) (by omega) (by omega) rfl rfl (Nat.le_of_ble_eq_true rfl) (ret1 ?_)
  refine j_if_eq (b := 0) (tgt := 24) hc dX0_priceOfSale_10 (by decide) (by split <;> exact ⟨by omega, by omega⟩) (fun zc1 => ?_) (fun zc1 => ?_)
  · have zc_9 : ¬ (1 ≤ e ∧ e ≤ lNe D) := by split at zc1 <;> omega
    refine j_bipush hc dX0_priceOfSale_24 (by decide) ?_
    exact j_iret hc he dX0_priceOfSale_26 rfl (by omega) (by omega) ⟨vI_eq (by unfold psS; first | rw [if_pos zc_9] | rw [if_neg zc_9]), rfl⟩
  · have zc_9 : 1 ≤ e ∧ e ≤ lNe D := by split at zc1 <;> omega
    refine j_aload_n hc dX0_priceOfSale_13 rfl ?_
    refine j_get hc dX0_priceOfSale_14 fX0_34 g30 rfl ?_
    refine j_iload_n hc dX0_priceOfSale_17 rfl ?_
    refine j_iconst hc dX0_priceOfSale_18 ?_
    refine j_isub hc dX0_priceOfSale_19 ?_
    refine j_iald hc dX0_priceOfSale_20 g31 (by omega) (by omega) ?_
    refine j_goto (tgt := 26) hc dX0_priceOfSale_21 (by decide) ?_
    exact j_iret hc he dX0_priceOfSale_26 rfl (by omega) (by omega) ⟨vI_eq (by unfold psS; first | rw [if_pos zc_9] | rw [if_neg zc_9]), rfl⟩
