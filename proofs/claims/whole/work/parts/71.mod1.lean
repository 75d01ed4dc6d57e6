/-! ===== the reference: below, sales ===== -/
theorem tk_bs {D : LaS} : ∀ n : Nat, tkS D (bsN D n) = btN D n
  | 0 => by
    show tkS D 0 = 0
    unfold tkS
    rw [if_neg (by omega)]
  | n + 1 => by
    simp only [bsN, btN]
    split
    · rfl
    · exact tk_bs n
theorem bsN_top {D : LaS} (hD : LOK D) {j : Nat} (h : (lNe D : Int) ≤ j) : ∀ t : Nat, bsN D (j + t) = bsN D j
  | 0 => rfl
  | t + 1 => by
    show (if tkS D ((j + t + 1 : Nat) : Int) > btN D (j + t) then ((j + t + 1 : Nat) : Int) else bsN D (j + t)) = _
    have h1 := btN_b hD (j + t)
    rw [if_neg (by unfold tkS; rw [if_neg (by omega)]; omega)]
    exact bsN_top hD h t
set_option maxRecDepth 100000 in
set_option maxHeartbeats 4000000 in
theorem ev_X11_belowOf {k : WC} {h : AH} {s : Int → Int} {A : MAs} {l : Int} {D : LaS} {E : LaY} (hS : MdS h s A) (hM : MlD A l D E) (hD : LOK D) (hE : YOK E) (hl : s 37 = l) : ∀ (m d : Nat) (n q : Int), n = m + 1 → m ≤ 11 → 4 * m + 4 ≤ d → 0 ≤ q → q < lSe D → Ev k d mdX11_belowOf h [vR (70, 0), vI n, vI q] 0 0 (pr (vL (beN D m q)) h) := by
  obtain ⟨⟨zl0, zl1⟩, mSe, mNe, mPa, mCo, mMi, mRo, mLa, mRn, mHv, mBu, mSl, mGr, mTb⟩ := id hM
  obtain ⟨d1, d2, d3, d4, d5, d6, d7, d8, d9, d10, d11, d12, d13⟩ := id hD
  obtain ⟨y1, y2, y3, y4, y5, y6, y7, y8, y9, y10⟩ := id hE
  intro m
  induction m with
  | zero =>
    intro d n q hnm hm hd hs0 hs1
    refine Ev.mk (by decide +kernel) [_, _, _] rfl (Nat.le_of_ble_eq_true rfl) (fun w hc he => ?_)
    refine j_iload_n hc dX11_belowOf_0 rfl ?_
    refine j_iconst hc dX11_belowOf_1 ?_
    refine j_icmp_ne (tgt := 9) hc dX11_belowOf_2 (by decide) ⟨by omega, by omega⟩ ⟨by omega, by omega⟩ (fun zc1 => ?_) (fun zc1 => ?_)
    · exact absurd zc1 (by omega)
    · refine j_lconst (x := 1) hc dX11_belowOf_5 (by decide) ?_
      refine j_goto (tgt := 36) hc dX11_belowOf_6 (by decide) ?_
      exact j_lret hc he dX11_belowOf_36 rfl (by omega) (by omega) ⟨rfl, rfl⟩
  | succ m ih =>
    intro d n q hnm hm hd hs0 hs1
    have zn := nxS_b hD hs0
    have zw := d13 (nxS D q) zn.1 zn.2
    refine Ev.mk (by decide +kernel) [_, _, _] rfl (Nat.le_of_ble_eq_true rfl) (fun w hc he => ?_)
    refine j_iload_n hc dX11_belowOf_0 rfl ?_
    refine j_iconst hc dX11_belowOf_1 ?_
    refine j_icmp_ne (tgt := 9) hc dX11_belowOf_2 (by decide) ⟨by omega, by omega⟩ ⟨by omega, by omega⟩ (fun zc1 => ?_) (fun zc1 => ?_)
    · refine j_aload_n hc dX11_belowOf_9 rfl ?_
      refine j_aload_n hc dX11_belowOf_10 rfl ?_
      refine j_get hc dX11_belowOf_11 fX11_278 hS.1 rfl ?_
      refine j_aload_n hc dX11_belowOf_14 rfl ?_
      refine j_iload_n hc dX11_belowOf_15 rfl ?_
      refine j_callV (d' := d - 1) hc dX11_belowOf_16 vX11_284 hS.1 (ev_X11_after (by omega) hS hM hD hE hl (by omega) (by omega)) rfl (by omega) (by omega) (by omega) rfl rfl (Nat.le_of_ble_eq_true rfl) (ret1 ?_)
      rw [hl]
      refine j_callV (d' := d - 1) hc dX11_belowOf_19 vX11_165 hS.1 (ev_X11_weightOf (by omega) hS hM hD hE (by omega) (by omega)) rfl (by omega) (by omega) (by omega) rfl rfl (Nat.le_of_ble_eq_true rfl) (ret1 ?_)
      refine j_i2l hc dX11_belowOf_22 ⟨by omega, by omega⟩ ?_
      refine j_aload_n hc dX11_belowOf_23 rfl ?_
      refine j_iload_n hc dX11_belowOf_24 rfl ?_
      refine j_iconst hc dX11_belowOf_25 ?_
      refine j_isub hc dX11_belowOf_26 ?_
      refine j_aload_n hc dX11_belowOf_27 rfl ?_
      refine j_iload_n hc dX11_belowOf_28 rfl ?_
      refine j_callV (d' := d - 1) hc dX11_belowOf_29 vX11_284 hS.1 (ev_X11_after (by omega) hS hM hD hE hl (by omega) (by omega)) rfl (by omega) (by omega) (by omega) rfl rfl (Nat.le_of_ble_eq_true rfl) (ret1 ?_)
      refine j_callV (d' := d - 1) hc dX11_belowOf_32 vX11_287 hS.1 (ih (d - 1) (n - 1) (nxS D q) (by omega) (by omega) (by omega) zn.1 zn.2) rfl (by omega) (by omega) (by omega) rfl rfl (Nat.le_of_ble_eq_true rfl) (ret1 ?_)
      refine j_lmul hc dX11_belowOf_35 ?_
      exact j_lret hc he dX11_belowOf_36 rfl (by omega) (by omega) ⟨vL_eq rfl, rfl⟩
    · exact absurd zc1 (by omega)
set_option maxRecDepth 100000 in
set_option maxHeartbeats 4000000 in
theorem ev_X11_takes {k : WC} {d : Nat} {h : AH} {s : Int → Int} {A : MAs} {l : Int} {D : LaS} {E : LaY} {q : Int} (hd : 1 ≤ d) (hS : MdS h s A) (hM : MlD A l D E) (hD : LOK D) (hE : YOK E) (hl : s 37 = l) (hq0 : 0 ≤ q) (hq1 : q ≤ lNe D)  : Ev k d mdX11_takes h [vR (70, 0), vI q] 0 0 (pr (vI (tkS D q)) h) := by
  obtain ⟨⟨zl0, zl1⟩, mSe, mNe, mPa, mCo, mMi, mRo, mLa, mRn, mHv, mBu, mSl, mGr, mTb⟩ := id hM
  obtain ⟨d1, d2, d3, d4, d5, d6, d7, d8, d9, d10, d11, d12, d13⟩ := id hD
  obtain ⟨y1, y2, y3, y4, y5, y6, y7, y8, y9, y10⟩ := id hE
  refine Ev.mk (by decide +kernel) [_, _] rfl (Nat.le_of_ble_eq_true rfl) (fun w hc he => ?_)
  refine j_iload_n hc dX11_takes_0 rfl ?_
  refine j_if_ne (b := 0) (tgt := 8) hc dX11_takes_1 (by decide) ⟨by omega, by omega⟩ (fun zc1 => ?_) (fun zc1 => ?_)
  · refine j_iload_n hc dX11_takes_8 rfl ?_
    refine j_aload_n hc dX11_takes_9 rfl ?_
    refine j_get hc dX11_takes_10 fX11_16 hS.1 rfl ?_
    refine j_sipush hc dX11_takes_13 (by decide) ?_
    refine j_aload_n hc dX11_takes_16 rfl ?_
    refine j_get hc dX11_takes_17 fX11_278 hS.1 rfl ?_
    rw [hl]
    refine j_imul hc dX11_takes_20 ?_
    refine j_iload_n hc dX11_takes_21 rfl ?_
    refine j_iadd hc dX11_takes_22 ?_
    refine j_iconst hc dX11_takes_23 ?_
    refine j_isub hc dX11_takes_24 ?_
    refine j_iald hc dX11_takes_25 hS.2.2.2.1 (by omega) (by omega) ?_
    rw [show 180 * l + q - 1 = 180 * l + (q - 1) by omega, mPa (q - 1) (by omega) (by omega)]
    refine j_imul hc dX11_takes_26 ?_
    exact j_iret hc he dX11_takes_27 rfl (by omega) (by omega) ⟨vI_eq (by unfold tkS; first | rw [if_pos ⟨by omega, by omega⟩] | rw [if_neg (by omega)]), rfl⟩
  · refine j_iconst hc dX11_takes_4 ?_
    refine j_goto (tgt := 27) hc dX11_takes_5 (by decide) ?_
    exact j_iret hc he dX11_takes_27 rfl (by omega) (by omega) ⟨vI_eq (by unfold tkS; first | rw [if_pos ⟨by omega, by omega⟩] | rw [if_neg (by omega)]), rfl⟩
set_option maxRecDepth 100000 in
set_option maxHeartbeats 4000000 in
theorem lp_X11_soldOf {k : WC} {d : Nat} {w : MC} {h : AH} {s : Int → Int} {A : MAs} {l : Int} {D : LaS} {E : LaY} {e : Int} (hd : 2 ≤ d) (hS : MdS h s A) (hM : MlD A l D E) (hD : LOK D) (hE : YOK E) (hl : s 37 = l) (he0 : 0 ≤ e) (he1 : e ≤ 40)  (hc : Cx w k d 0 0 mdX11_soldOf) (he : Ends w 0 0 (pr (vI (saS D e)) h)) : ∀ (zm : Nat) (j : Nat) (c x : Int), 200 - j = zm → (j : Int) ≤ e → j ≤ lNe D → c = bsN D j → x = j + 1 → J w 0 0 4 [some (vR (70, 0)), some (vI e), some (vI c), some (vI x)] [] h := by
  obtain ⟨⟨zl0, zl1⟩, mSe, mNe, mPa, mCo, mMi, mRo, mLa, mRn, mHv, mBu, mSl, mGr, mTb⟩ := id hM
  obtain ⟨d1, d2, d3, d4, d5, d6, d7, d8, d9, d10, d11, d12, d13⟩ := id hD
  obtain ⟨y1, y2, y3, y4, y5, y6, y7, y8, y9, y10⟩ := id hE
  intro zm
  induction zm using Nat.strongRecOn with
  | _ zm ih =>
    intro j c x hm hj1 hj2 hcc hx
    subst hcc
    subst hx
    have zb := bsN_b hD j
    have zt := btN_b hD j
    have zk := tk_bs (D := D) j
    have zk1 := tkS_b hD (j + 1)
    refine j_iload_n hc dX11_soldOf_4 rfl ?_
    refine j_iload_n hc dX11_soldOf_5 rfl ?_
    refine j_aload_n hc dX11_soldOf_6 rfl ?_
    refine j_get hc dX11_soldOf_7 fX11_19 hS.1 rfl ?_
    refine j_aload_n hc dX11_soldOf_10 rfl ?_
    refine j_get hc dX11_soldOf_11 fX11_278 hS.1 rfl ?_
    rw [hl]
    refine j_iald hc dX11_soldOf_14 hS.2.2.2.2.1 (by omega) (by omega) ?_
    rw [mNe]
    refine j_mmin hc dX11_soldOf_15 mX11_169 mo_min ⟨by omega, by omega⟩ ⟨by omega, by omega⟩ (by omega) (by omega) rfl (by omega) (Nat.le_of_ble_eq_true rfl) ?_
    refine j_icmp_gt (tgt := 46) hc dX11_soldOf_18 (by decide) ⟨by omega, by omega⟩ ⟨by omega, by omega⟩ (fun zc1 => ?_) (fun zc1 => ?_)
    · refine j_iload_n hc dX11_soldOf_46 rfl ?_
      exact j_iret hc he dX11_soldOf_47 rfl (by omega) (by omega) ⟨vI_eq (by
        unfold saS
        rw [if_pos ⟨he0, he1⟩]
        by_cases ze : e = j
        · rw [ze]; rfl
        · have := bsN_top hD (j := j) (by omega) (e.toNat - j)
          rw [show j + (e.toNat - j) = e.toNat by omega] at this
          exact this.symm), rfl⟩
    · refine j_aload_n hc dX11_soldOf_21 rfl ?_
      refine j_iload_n hc dX11_soldOf_22 rfl ?_
      refine j_callV (d' := d - 1) hc dX11_soldOf_23 vX11_329 hS.1 (ev_X11_takes (by omega) hS hM hD hE hl (by omega) (by omega)) rfl (by omega) (by omega) (by omega) rfl rfl (Nat.le_of_ble_eq_true rfl) (ret1 ?_)
      refine j_aload_n hc dX11_soldOf_26 rfl ?_
      refine j_iload_n hc dX11_soldOf_27 rfl ?_
      refine j_callV (d' := d - 1) hc dX11_soldOf_28 vX11_329 hS.1 (ev_X11_takes (by omega) hS hM hD hE hl (by omega) (by omega)) rfl (by omega) (by omega) (by omega) rfl rfl (Nat.le_of_ble_eq_true rfl) (ret1 ?_)
      refine j_icmp_le (tgt := 38) hc dX11_soldOf_31 (by decide) ⟨by omega, by omega⟩ ⟨by omega, by omega⟩ (fun zc2 => ?_) (fun zc2 => ?_)
      · refine j_iload_n hc dX11_soldOf_38 rfl ?_
        refine j_istore_n (L' := [_, _, _, _]) hc dX11_soldOf_39 (Nat.le_of_ble_eq_true rfl) rfl ?_
        refine j_iinc (L' := [_, _, _, _]) hc dX11_soldOf_40 rfl (Nat.le_of_ble_eq_true rfl) rfl ?_
        refine j_goto (tgt := 4) hc dX11_soldOf_43 (by decide) ?_
        exact ih _ (by omega) (j + 1) _ _ rfl (by omega) (by omega) (by
          simp only [bsN]
          have ze : ((j + 1 : Nat) : Int) = (j : Int) + 1 := by omega
          rw [ze, ← zk]
          first | rw [if_pos (by omega)] | rw [if_neg (by omega)]) (by omega)
      · refine j_iload_n hc dX11_soldOf_34 rfl ?_
        refine j_goto (tgt := 39) hc dX11_soldOf_35 (by decide) ?_
        refine j_istore_n (L' := [_, _, _, _]) hc dX11_soldOf_39 (Nat.le_of_ble_eq_true rfl) rfl ?_
        refine j_iinc (L' := [_, _, _, _]) hc dX11_soldOf_40 rfl (Nat.le_of_ble_eq_true rfl) rfl ?_
        refine j_goto (tgt := 4) hc dX11_soldOf_43 (by decide) ?_
        exact ih _ (by omega) (j + 1) _ _ rfl (by omega) (by omega) (by
          simp only [bsN]
          have ze : ((j + 1 : Nat) : Int) = (j : Int) + 1 := by omega
          rw [ze, ← zk]
          first | rw [if_pos (by omega)] | rw [if_neg (by omega)]) (by omega)
set_option maxRecDepth 100000 in
set_option maxHeartbeats 4000000 in
theorem ev_X11_soldOf {k : WC} {d : Nat} {h : AH} {s : Int → Int} {A : MAs} {l : Int} {D : LaS} {E : LaY} {e : Int} (hd : 2 ≤ d) (hS : MdS h s A) (hM : MlD A l D E) (hD : LOK D) (hE : YOK E) (hl : s 37 = l) (he0 : 0 ≤ e) (he1 : e ≤ 40)  : Ev k d mdX11_soldOf h [vR (70, 0), vI e] 0 0 (pr (vI (saS D e)) h) := by
  obtain ⟨⟨zl0, zl1⟩, mSe, mNe, mPa, mCo, mMi, mRo, mLa, mRn, mHv, mBu, mSl, mGr, mTb⟩ := id hM
  obtain ⟨d1, d2, d3, d4, d5, d6, d7, d8, d9, d10, d11, d12, d13⟩ := id hD
  obtain ⟨y1, y2, y3, y4, y5, y6, y7, y8, y9, y10⟩ := id hE
  refine Ev.mk (by decide +kernel) [_, _, _, _] rfl (Nat.le_of_ble_eq_true rfl) (fun w hc he => ?_)
  refine j_iconst hc dX11_soldOf_0 ?_
  refine j_istore_n (L' := [_, _, _, _]) hc dX11_soldOf_1 (Nat.le_of_ble_eq_true rfl) rfl ?_
  refine j_iconst hc dX11_soldOf_2 ?_
  refine j_istore_n (L' := [_, _, _, _]) hc dX11_soldOf_3 (Nat.le_of_ble_eq_true rfl) rfl ?_
  exact lp_X11_soldOf hd hS hM hD hE hl he0 he1 hc he _ 0 _ _ rfl (by omega) (by omega) rfl rfl
/-! ===== the reference: what was kept, as far as it is known ===== -/
def kIx (kd n q a : Int) : Int := kd * 2132 + ((n * 4 + q) * 41 + a)
def MmE (D : LaS) (E : LaY) (ru : RU) (cs : Int) (ke se be : Int → Int) (kd n q a : Int) : Prop := ke (kIx kd n q a) = kpS D E ru cs kd n q a ∧ (kd = 2 ∨ kd = 3 → be (kIx kd n q a) = bpS D E cs kd n q a) ∧ (kd = 3 → se ((n * 4 + q) * 41 + a) = saS D (a - kpS D E ru cs 3 n q a))
def MmV (D : LaS) (E : LaY) (ru : RU) (cs : Int) (kp ke se be : Int → Int) : Prop := ∀ kd n q a : Int, 1 ≤ kd → kd ≤ 4 → 1 ≤ n → n ≤ 12 → 0 ≤ q → q < lSe D → 0 ≤ a → a ≤ 40 → (kp (kIx kd n q a) = 0 ∨ kp (kIx kd n q a) = 1) ∧ (kp (kIx kd n q a) = 1 → MmE D E ru cs ke se be kd n q a)
def MmX (h : AH) (D : LaS) (E : LaY) (ru : RU) (cs : Int) (kp ke se be : Int → Int) : Prop := h (231, 0) = some (oZ 10660 kp) ∧ h (232, 0) = some (oI 10660 ke) ∧ h (233, 0) = some (oI 2132 se) ∧ h (234, 0) = some (oL 10660 be) ∧ (∃ pf, h (230, 0) = some (oL 400 pf)) ∧ MmV D E ru cs kp ke se be
abbrev isDp : Nm → Prop := fun z => 230 ≤ z.1 ∧ z.1 ≤ 234
theorem nDp {z : Nm} (h : isSt z) : ¬ isDp z := fun y => by
  rcases h with h | h | h | h
  · rw [h] at y; exact absurd y (by decide)
  · omega
  · omega
  · omega
theorem kIx_b {kd n q a : Int} (h0 : 0 ≤ kd) (h1 : kd ≤ 4) (h2 : 1 ≤ n) (h3 : n ≤ 12) (h4 : 0 ≤ q) (h5 : q < 4) (h6 : 0 ≤ a) (h7 : a ≤ 40) : 0 ≤ kIx kd n q a ∧ kIx kd n q a < 10660 := by unfold kIx; omega
theorem kIx_inj {kd n q a kd' n' q' a' : Int} (h4 : 0 ≤ q) (h5 : q < 4) (h6 : 0 ≤ a) (h7 : a ≤ 40) (g2 : 1 ≤ n') (g3 : n' ≤ 12) (h2 : 1 ≤ n) (h3 : n ≤ 12) (g4 : 0 ≤ q') (g5 : q' < 4) (g6 : 0 ≤ a') (g7 : a' ≤ 40) (e : kIx kd n q a = kIx kd' n' q' a') : kd = kd' ∧ n = n' ∧ q = q' ∧ a = a' := by unfold kIx at e; omega
/-- one entry more -/
theorem MmV.step {D : LaS} {E : LaY} (hD : LOK D) {ru : RU} {cs : Int} {kp ke se be : Int → Int} {kd n q a : Int} (h : MmV D E ru cs kp ke se be) (h2 : 1 ≤ n) (h3 : n ≤ 12) (h4 : 0 ≤ q) (h5 : q < lSe D) (h6 : 0 ≤ a) (h7 : a ≤ 40) (hb : kd = 2 ∨ kd = 3 → be (kIx kd n q a) = bpS D E cs kd n q a) (hs : kd = 3 → se ((n * 4 + q) * 41 + a) = saS D (a - kpS D E ru cs 3 n q a)) : MmV D E ru cs (fu kp (kIx kd n q a) 1) (fu ke (kIx kd n q a) (kpS D E ru cs kd n q a)) se be := fun kd' n' q' a' g0 g1 g2 g3 g4 g5 g6 g7 => by
  have d2 := hD.2.1
  obtain ⟨k1, k2⟩ := h kd' n' q' a' g0 g1 g2 g3 g4 g5 g6 g7
  by_cases e : kIx kd' n' q' a' = kIx kd n q a
  · obtain ⟨rfl, rfl, rfl, rfl⟩ := kIx_inj g4 (by omega) g6 g7 h2 h3 g2 g3 h4 (by omega) h6 h7 e
    unfold MmE
    rw [fu_same, fu_same]
    exact ⟨Or.inr rfl, fun _ => ⟨rfl, hb, hs⟩⟩
  · unfold MmE
    rw [fu_ne e, fu_ne e]
    exact ⟨k1, k2⟩
/-- a best that is right may be written -/
theorem MmV.best {D : LaS} {E : LaY} (hD : LOK D) {ru : RU} {cs : Int} {kp ke se be : Int → Int} {kd n q a v : Int} (h : MmV D E ru cs kp ke se be) (h2 : 1 ≤ n) (h3 : n ≤ 12) (h4 : 0 ≤ q) (h5 : q < lSe D) (h6 : 0 ≤ a) (h7 : a ≤ 40) (hv : v = bpS D E cs kd n q a) : MmV D E ru cs kp ke se (fu be (kIx kd n q a) v) := fun kd' n' q' a' g0 g1 g2 g3 g4 g5 g6 g7 => by
  have d2 := hD.2.1
  obtain ⟨k1, k2⟩ := h kd' n' q' a' g0 g1 g2 g3 g4 g5 g6 g7
  refine ⟨k1, fun z => ?_⟩
  obtain ⟨m1, m2, m3⟩ := k2 z
  refine ⟨m1, fun y => ?_, m3⟩
  by_cases e : kIx kd' n' q' a' = kIx kd n q a
  · obtain ⟨rfl, rfl, rfl, rfl⟩ := kIx_inj g4 (by omega) g6 g7 h2 h3 g2 g3 h4 (by omega) h6 h7 e
    rw [fu_same, hv]
  · rw [fu_ne e]; exact m2 y
theorem MmV.sell {D : LaS} {E : LaY} (hD : LOK D) {ru : RU} {cs : Int} {kp ke se be : Int → Int} {n q a v : Int} (h : MmV D E ru cs kp ke se be) (h2 : 1 ≤ n) (h3 : n ≤ 12) (h4 : 0 ≤ q) (h5 : q < lSe D) (h6 : 0 ≤ a) (h7 : a ≤ 40) (hv : v = saS D (a - kpS D E ru cs 3 n q a)) : MmV D E ru cs kp ke (fu se ((n * 4 + q) * 41 + a) v) be := fun kd' n' q' a' g0 g1 g2 g3 g4 g5 g6 g7 => by
  have d2 := hD.2.1
  obtain ⟨k1, k2⟩ := h kd' n' q' a' g0 g1 g2 g3 g4 g5 g6 g7
  refine ⟨k1, fun z => ?_⟩
  obtain ⟨m1, m2, m3⟩ := k2 z
  refine ⟨m1, m2, fun y => ?_⟩
  by_cases e : (n' * 4 + q') * 41 + a' = (n * 4 + q) * 41 + a
  · obtain ⟨rfl, rfl, rfl⟩ : n' = n ∧ q' = q ∧ a' = a := by omega
    rw [fu_same, hv]
  · rw [fu_ne e]; exact m3 y
/-- the land's rule, as the reference reckons it -/
def RuC (k : WC) (s : Int → Int) (A : MAs) (E : LaY) (ru : RU) : Prop := (yRn E = -1 ∧ ru = none) ∨ (yRn E ≠ -1 ∧ ∃ q : Nat × (Int → Int), ru = some q ∧ (∀ j : Int, 0 ≤ j → j < q.1 → inI (q.2 j)) ∧ ∀ (d : Nat) (h : AH) (a t n p r : Int) (pf : Int → Int), 10 ≤ d → MdS h s A → h (230, 0) = some (oL 400 pf) → inI a → inI t → inI n → inI p → inI r → Ev k d mdX11_worthOf h [vR (70, 0), vI (yRn E), vI a, vI t, vI n, vI p, vI r] 0 0 (pe fun v h' => v = vI (woS q.2 q.1 a t n p r) ∧ (∃ pf', h' (230, 0) = some (oL 400 pf')) ∧ Fr (fun z => z = (230, 0)) h h'))
def KePo (D : LaS) (E : LaY) (ru : RU) (cs kd n q a : Int) (h : AH) : Option AV → AH → Prop := pe fun v h' => v = vI (kpS D E ru cs kd n q a) ∧ (∃ kp ke se be : Int → Int, MmX h' D E ru cs kp ke se be ∧ (1 ≤ kd → kd = 3 ∨ n ≠ 1 → kp (kIx kd n q a) = 1)) ∧ Fr isDp h h'
def KeC (k : WC) (s : Int → Int) (A : MAs) (D : LaS) (E : LaY) (ru : RU) (cs n : Int) (c : Nat) : Prop := ∀ (d : Nat) (h : AH) (kd q a : Int) (kp ke se be : Int → Int), c ≤ d → MdS h s A → MmX h D E ru cs kp ke se be → 0 ≤ kd → kd ≤ 4 → 0 ≤ q → q < lSe D → 0 ≤ a → a ≤ 40 → Ev k d mdX11_kept h [vR (70, 0), vI kd, vI n, vI q, vI a] 0 0 (KePo D E ru cs kd n q a h)
/-- a method of the same kind that answers v -/
def KvPo (D : LaS) (E : LaY) (ru : RU) (cs : Int) (x : AV) (h : AH) : Option AV → AH → Prop := pe fun v h' => v = x ∧ (∃ kp ke se be : Int → Int, MmX h' D E ru cs kp ke se be) ∧ Fr isDp h h'
theorem fsk_at {P : Nat → Bool} {f j : Nat} (h1 : j < f) (hn : ∀ i, i < j → P i = false) (hp : P j = true) : fsk P f 0 = j := by
  have h2 := fsk_skip P j (f - j) 0 (fun i _ b => hn i (by omega))
  rw [show f - j + j = f by omega, Nat.zero_add] at h2
  rw [h2, show f - j = (f - j - 1) + 1 by omega]
  simp only [fsk, hp]
  rfl
theorem fsk_end {P : Nat → Bool} {f : Nat} (hn : ∀ i, i < f → P i = false) : fsk P f 0 = f := by
  have h2 := fsk_skip P f 0 0 (fun i _ b => hn i (by omega))
  rw [Nat.zero_add] at h2
  rw [h2]
  rfl
