/-! ===== the reference: its cells ===== -/
def mF (s : Int → Int) : List AV := [vI (s 0), vR (201, 0), vI (s 2), vI (s 3), vI (s 4), vI (s 5), vR (206, 0), vR (207, 0), vR (208, 0), vR (209, 0), vR (210, 0), vR (211, 0), vR (212, 0), vR (213, 0), vR (214, 0), vR (215, 0), vR (216, 0), vR (217, 0), vR (218, 0), vR (219, 0), vR (220, 0), vR (221, 0), vI (s 22), vR (223, 0), vR (224, 0), vR (225, 0), vR (226, 0), vI (s 27), vI (s 28), vI (s 29), vR (230, 0), vR (231, 0), vR (232, 0), vR (233, 0), vR (234, 0), vR (235, 0), vR (236, 0), vI (s 37), vI (s 38), vR (239, 0), vR (240, 0), vR (241, 0), vR (242, 0), vR (243, 0), vI (s 44), vI (s 45), vI (s 46), vR (247, 0), vI (s 48)]
theorem mset_0 {s : Int → Int} {v : Int} : (mF s).set 0 (vI v) = mF (fu s 0 v) := rfl
theorem mset_2 {s : Int → Int} {v : Int} : (mF s).set 2 (vI v) = mF (fu s 2 v) := rfl
theorem mset_3 {s : Int → Int} {v : Int} : (mF s).set 3 (vI v) = mF (fu s 3 v) := rfl
theorem mset_4 {s : Int → Int} {v : Int} : (mF s).set 4 (vI v) = mF (fu s 4 v) := rfl
theorem mset_5 {s : Int → Int} {v : Int} : (mF s).set 5 (vI v) = mF (fu s 5 v) := rfl
theorem mset_22 {s : Int → Int} {v : Int} : (mF s).set 22 (vI v) = mF (fu s 22 v) := rfl
theorem mset_27 {s : Int → Int} {v : Int} : (mF s).set 27 (vI v) = mF (fu s 27 v) := rfl
theorem mset_28 {s : Int → Int} {v : Int} : (mF s).set 28 (vI v) = mF (fu s 28 v) := rfl
theorem mset_29 {s : Int → Int} {v : Int} : (mF s).set 29 (vI v) = mF (fu s 29 v) := rfl
theorem mset_37 {s : Int → Int} {v : Int} : (mF s).set 37 (vI v) = mF (fu s 37 v) := rfl
theorem mset_38 {s : Int → Int} {v : Int} : (mF s).set 38 (vI v) = mF (fu s 38 v) := rfl
theorem mset_44 {s : Int → Int} {v : Int} : (mF s).set 44 (vI v) = mF (fu s 44 v) := rfl
theorem mset_45 {s : Int → Int} {v : Int} : (mF s).set 45 (vI v) = mF (fu s 45 v) := rfl
theorem mset_46 {s : Int → Int} {v : Int} : (mF s).set 46 (vI v) = mF (fu s 46 v) := rfl
theorem mset_48 {s : Int → Int} {v : Int} : (mF s).set 48 (vI v) = mF (fu s 48 v) := rfl
abbrev MAs : Type := Int → Int → Int
def MdS (h : AH) (s : Int → Int) (A : MAs) : Prop := h (70, 0) = some (oO 10 (mF s)) ∧ h (201, 0) = some (oI 240 (A 1)) ∧ h (206, 0) = some (oI 7 (A 6)) ∧ h (207, 0) = some (oI 1260 (A 7)) ∧ h (208, 0) = some (oI 7 (A 8)) ∧ h (209, 0) = some (oI 7 (A 9)) ∧ h (210, 0) = some (oI 112 (A 10)) ∧ h (211, 0) = some (oI 112 (A 11)) ∧ h (212, 0) = some (oI 28 (A 12)) ∧ h (213, 0) = some (oI 7 (A 13)) ∧ h (214, 0) = some (oI 7 (A 14)) ∧ h (215, 0) = some (oI 7 (A 15)) ∧ h (216, 0) = some (oI 6 (A 16)) ∧ h (217, 0) = some (oI 6 (A 17)) ∧ h (218, 0) = some (oI 984 (A 18)) ∧ h (219, 0) = some (oI 6 (A 19)) ∧ h (220, 0) = some (oI 6 (A 20)) ∧ h (221, 0) = some (oI 6 (A 21)) ∧ h (223, 0) = some (oI 2800 (A 23)) ∧ h (224, 0) = some (oI 7 (A 24)) ∧ h (225, 0) = some (oI 448 (A 25)) ∧ h (226, 0) = some (oI 448 (A 26)) ∧ h (241, 0) = some (oI 80 (A 41)) ∧ h (242, 0) = some (oI 2 (A 42))
abbrev isSt : Nm → Prop := fun z => z = (70, 0) ∨ (201 ≤ z.1 ∧ z.1 ≤ 226) ∨ z.1 = 241 ∨ z.1 = 242
theorem MdS.fr {h h' : AH} {s : Int → Int} {A : MAs} (q : ∀ z : Nm, isSt z → h' z = h z) (a : MdS h s A) : MdS h' s A := by
  obtain ⟨g0, g1, g2, g3, g4, g5, g6, g7, g8, g9, g10, g11, g12, g13, g14, g15, g16, g17, g18, g19, g20, g21, g22, g23⟩ := a
  exact ⟨(q _ (Or.inl rfl)).trans g0, (q _ (Or.inr (by decide))).trans g1, (q _ (Or.inr (by decide))).trans g2, (q _ (Or.inr (by decide))).trans g3, (q _ (Or.inr (by decide))).trans g4, (q _ (Or.inr (by decide))).trans g5, (q _ (Or.inr (by decide))).trans g6, (q _ (Or.inr (by decide))).trans g7, (q _ (Or.inr (by decide))).trans g8, (q _ (Or.inr (by decide))).trans g9, (q _ (Or.inr (by decide))).trans g10, (q _ (Or.inr (by decide))).trans g11, (q _ (Or.inr (by decide))).trans g12, (q _ (Or.inr (by decide))).trans g13, (q _ (Or.inr (by decide))).trans g14, (q _ (Or.inr (by decide))).trans g15, (q _ (Or.inr (by decide))).trans g16, (q _ (Or.inr (by decide))).trans g17, (q _ (Or.inr (by decide))).trans g18, (q _ (Or.inr (by decide))).trans g19, (q _ (Or.inr (by decide))).trans g20, (q _ (Or.inr (by decide))).trans g21, (q _ (Or.inr (by decide))).trans g22, (q _ (Or.inr (by decide))).trans g23⟩
theorem MdS.mv {h h' : AH} {n : Nm} {o : AO} {s : Int → Int} {A : MAs} (e : up h n o = h') (hn : ¬ isSt n) (a : MdS h s A) : MdS h' s A := MdS.fr (fun z hz => by rw [← e]; exact up_ne fun e2 => hn (by rw [← e2]; exact hz)) a
/-- what the reference holds of land l -/
def MlD (A : MAs) (l : Int) (D : LaS) (E : LaY) : Prop := (0 ≤ l ∧ l < 6) ∧ A 6 l = lSe D ∧ A 8 l = lNe D ∧ (∀ i : Int, 0 ≤ i → i < lNe D → A 7 (180 * l + i) = lPa D i) ∧ A 13 l = lCo D ∧ A 14 l = lMi D ∧ A 15 l = lRo D ∧ A 16 l = yLaw E ∧ A 17 l = yRn E ∧
  (∀ q : Int, 0 ≤ q → q < lSe D → A 12 (4 * l + q) = lHv D q ∧ ∀ i : Int, 0 ≤ i → i < lHv D q → A 10 (4 * (4 * l + q) + i) = lSk D (q * 4 + i) ∧ A 11 (4 * (4 * l + q) + i) = lWt D (q * 4 + i)) ∧
  A 19 l = yBuy E ∧ A 20 l = ySell E ∧ A 21 l = yGr E ∧ ∀ i : Int, 0 ≤ i → i < 164 → A 18 (164 * l + i) = yTab E i
set_option maxRecDepth 100000 in
set_option maxHeartbeats 4000000 in
theorem ev_X11_in {k : WC} {d : Nat} {h : AH} {a lo hi : Int} (hd : 1 ≤ d) (ha : inI a) (hlo : inI lo) (hhi : inI hi) : Ev k d mdX11_in h [vI a, vI lo, vI hi] 0 0 (pr (vI (if lo ≤ a ∧ a ≤ hi then 1 else 0)) h) := by
  refine Ev.mk (by decide +kernel) [_, _, _] rfl (Nat.le_of_ble_eq_true rfl) (fun w hc he => ?_)
  refine j_iload_n hc dX11_in_0 rfl ?_
  refine j_iload_n hc dX11_in_1 rfl ?_
  refine j_icmp_lt (tgt := 14) hc dX11_in_2 (by decide) ⟨by omega, by omega⟩ ⟨by omega, by omega⟩ (fun zc1 => ?_) (fun zc1 => ?_)
  · refine j_iconst hc dX11_in_14 ?_
    exact j_zret hc he dX11_in_15 rfl (by omega) (by omega) (by first | exact Or.inl rfl | exact Or.inr rfl) ⟨vI_eq (by first | rfl | (split <;> omega)), rfl⟩
  · refine j_iload_n hc dX11_in_5 rfl ?_
    refine j_iload_n hc dX11_in_6 rfl ?_
    refine j_icmp_gt (tgt := 14) hc dX11_in_7 (by decide) ⟨by omega, by omega⟩ ⟨by omega, by omega⟩ (fun zc2 => ?_) (fun zc2 => ?_)
    · refine j_iconst hc dX11_in_14 ?_
      exact j_zret hc he dX11_in_15 rfl (by omega) (by omega) (by first | exact Or.inl rfl | exact Or.inr rfl) ⟨vI_eq (by first | rfl | (split <;> omega)), rfl⟩
    · refine j_iconst hc dX11_in_10 ?_
      refine j_goto (tgt := 15) hc dX11_in_11 (by decide) ?_
      exact j_zret hc he dX11_in_15 rfl (by omega) (by omega) (by first | exact Or.inl rfl | exact Or.inr rfl) ⟨vI_eq (by first | rfl | (split <;> omega)), rfl⟩
set_option maxRecDepth 100000 in
set_option maxHeartbeats 4000000 in
theorem ev_X11_state {k : WC} {d : Nat} {h : AH} {n s a : Int} (hd : 1 ≤ d) : Ev k d mdX11_state h [vI n, vI s, vI a] 0 0 (pr (vI ((n * 4 + s) * 41 + a)) h) := by
  refine Ev.mk (by decide +kernel) [_, _, _] rfl (Nat.le_of_ble_eq_true rfl) (fun w hc he => ?_)
  refine j_iload_n hc dX11_state_0 rfl ?_
  refine j_iconst hc dX11_state_1 ?_
  refine j_imul hc dX11_state_2 ?_
  refine j_iload_n hc dX11_state_3 rfl ?_
  refine j_iadd hc dX11_state_4 ?_
  refine j_bipush hc dX11_state_5 (by decide) ?_
  refine j_imul hc dX11_state_7 ?_
  refine j_iload_n hc dX11_state_8 rfl ?_
  refine j_iadd hc dX11_state_9 ?_
  exact j_iret hc he dX11_state_10 rfl (by omega) (by omega) ⟨rfl, rfl⟩
set_option maxRecDepth 100000 in
set_option maxHeartbeats 4000000 in
theorem ev_X11_priceAt {k : WC} {d : Nat} {h : AH} {s : Int → Int} {A : MAs} {l : Int} {D : LaS} {E : LaY} {e : Int} (hd : 1 ≤ d) (hS : MdS h s A) (hM : MlD A l D E) (hD : LOK D) (hE : YOK E) (he0 : 0 ≤ e) (he1 : e ≤ 1000)  : Ev k d mdX11_priceAt h [vR (70, 0), vI l, vI e] 0 0 (pr (vI (prS D e)) h) := by
  obtain ⟨⟨zl0, zl1⟩, mSe, mNe, mPa, mCo, mMi, mRo, mLa, mRn, mHv, mBu, mSl, mGr, mTb⟩ := id hM
  obtain ⟨d1, d2, d3, d4, d5, d6, d7, d8, d9, d10, d11, d12, d13⟩ := id hD
  obtain ⟨y1, y2, y3, y4, y5, y6, y7, y8, y9, y10⟩ := id hE
  refine Ev.mk (by decide +kernel) [_, _, _] rfl (Nat.le_of_ble_eq_true rfl) (fun w hc he => ?_)
  refine j_iload_n hc dX11_priceAt_0 rfl ?_
  refine j_aload_n hc dX11_priceAt_1 rfl ?_
  refine j_get hc dX11_priceAt_2 fX11_19 hS.1 rfl ?_
  refine j_iload_n hc dX11_priceAt_5 rfl ?_
  refine j_iald hc dX11_priceAt_6 hS.2.2.2.2.1 (by omega) (by omega) ?_
  rw [mNe]
  refine j_icmp_ge (tgt := 25) hc dX11_priceAt_7 (by decide) ⟨by omega, by omega⟩ ⟨by omega, by omega⟩ (fun zc1 => ?_) (fun zc1 => ?_)
  · refine j_iconst hc dX11_priceAt_25 ?_
    exact j_iret hc he dX11_priceAt_26 rfl (by omega) (by omega) ⟨vI_eq (by unfold prS; first | rw [if_pos ⟨by omega, by omega⟩] | rw [if_neg (by omega)]), rfl⟩
  · refine j_aload_n hc dX11_priceAt_10 rfl ?_
    refine j_get hc dX11_priceAt_11 fX11_16 hS.1 rfl ?_
    refine j_sipush hc dX11_priceAt_14 (by decide) ?_
    refine j_iload_n hc dX11_priceAt_17 rfl ?_
    refine j_imul hc dX11_priceAt_18 ?_
    refine j_iload_n hc dX11_priceAt_19 rfl ?_
    refine j_iadd hc dX11_priceAt_20 ?_
    refine j_iald hc dX11_priceAt_21 hS.2.2.2.1 (by omega) (by omega) ?_
    rw [mPa e he0 (by omega)]
    refine j_goto (tgt := 26) hc dX11_priceAt_22 (by decide) ?_
    exact j_iret hc he dX11_priceAt_26 rfl (by omega) (by omega) ⟨vI_eq (by unfold prS; first | rw [if_pos ⟨by omega, by omega⟩] | rw [if_neg (by omega)]), rfl⟩
set_option maxRecDepth 100000 in
set_option maxHeartbeats 4000000 in
theorem ev_X11_hungry {k : WC} {d : Nat} {h : AH} {s : Int → Int} {A : MAs} {l : Int} {D : LaS} {E : LaY} {e : Int} (hd : 2 ≤ d) (hS : MdS h s A) (hM : MlD A l D E) (hD : LOK D) (hE : YOK E) (he0 : inI e) (he1 : inI (lNe D - e))  : Ev k d mdX11_hungry h [vR (70, 0), vI l, vI e] 0 0 (pr (vI (max 0 (lNe D - e))) h) := by
  obtain ⟨⟨zl0, zl1⟩, mSe, mNe, mPa, mCo, mMi, mRo, mLa, mRn, mHv, mBu, mSl, mGr, mTb⟩ := id hM
  obtain ⟨d1, d2, d3, d4, d5, d6, d7, d8, d9, d10, d11, d12, d13⟩ := id hD
  obtain ⟨y1, y2, y3, y4, y5, y6, y7, y8, y9, y10⟩ := id hE
  refine Ev.mk (by decide +kernel) [_, _, _] rfl (Nat.le_of_ble_eq_true rfl) (fun w hc he => ?_)
  refine j_iconst hc dX11_hungry_0 ?_
  refine j_aload_n hc dX11_hungry_1 rfl ?_
  refine j_get hc dX11_hungry_2 fX11_19 hS.1 rfl ?_
  refine j_iload_n hc dX11_hungry_5 rfl ?_
  refine j_iald hc dX11_hungry_6 hS.2.2.2.2.1 (by omega) (by omega) ?_
  rw [mNe]
  refine j_iload_n hc dX11_hungry_7 rfl ?_
  refine j_isub hc dX11_hungry_8 ?_
  refine j_mmax hc dX11_hungry_9 mX11_260 mo_max ⟨by omega, by omega⟩ he1 (by omega) (by omega) rfl (by omega) (Nat.le_of_ble_eq_true rfl) ?_
  exact j_iret hc he dX11_hungry_12 rfl (by omega) (by omega) ⟨rfl, rfl⟩
set_option maxRecDepth 100000 in
set_option maxHeartbeats 4000000 in
theorem ev_X11_leftOf {k : WC} {d : Nat} {h : AH} {s : Int → Int} {A : MAs} {l : Int} {D : LaS} {E : LaY} {e : Int} (hd : 1 ≤ d) (hS : MdS h s A) (hM : MlD A l D E) (hD : LOK D) (hE : YOK E) (he0 : 0 ≤ e) (he1 : e ≤ 1000)  : Ev k d mdX11_leftOf h [vR (70, 0), vI l, vI e] 0 0 (pr (vI (leS D e)) h) := by
  obtain ⟨⟨zl0, zl1⟩, mSe, mNe, mPa, mCo, mMi, mRo, mLa, mRn, mHv, mBu, mSl, mGr, mTb⟩ := id hM
  obtain ⟨d1, d2, d3, d4, d5, d6, d7, d8, d9, d10, d11, d12, d13⟩ := id hD
  obtain ⟨y1, y2, y3, y4, y5, y6, y7, y8, y9, y10⟩ := id hE
  refine Ev.mk (by decide +kernel) [_, _, _] rfl (Nat.le_of_ble_eq_true rfl) (fun w hc he => ?_)
  refine j_aload_n hc dX11_leftOf_0 rfl ?_
  refine j_get hc dX11_leftOf_1 fX11_37 hS.1 rfl ?_
  refine j_iload_n hc dX11_leftOf_4 rfl ?_
  refine j_iald hc dX11_leftOf_5 hS.2.2.2.2.2.2.2.2.2.2.1 (by omega) (by omega) ?_
  rw [mMi]
  refine j_if_ne (b := 0) (tgt := 13) hc dX11_leftOf_6 (by decide) ⟨by omega, by omega⟩ (fun zc1 => ?_) (fun zc1 => ?_)
  · refine j_iload_n hc dX11_leftOf_13 rfl ?_
    refine j_iload_n hc dX11_leftOf_14 rfl ?_
    refine j_aload_n hc dX11_leftOf_15 rfl ?_
    refine j_get hc dX11_leftOf_16 fX11_37 hS.1 rfl ?_
    refine j_iload_n hc dX11_leftOf_19 rfl ?_
    refine j_iald hc dX11_leftOf_20 hS.2.2.2.2.2.2.2.2.2.2.1 (by omega) (by omega) ?_
    rw [mMi]
    refine j_idiv hc dX11_leftOf_21 ⟨by omega, by omega⟩ ⟨by omega, by omega⟩ (by omega) ?_
    refine j_isub hc dX11_leftOf_22 ?_
    exact j_iret hc he dX11_leftOf_23 rfl (by omega) (by omega) ⟨vI_eq (by unfold leS; first | rw [if_pos (by omega), Int.tdiv_eq_ediv_of_nonneg he0] | rw [if_neg (by omega)]), rfl⟩
  · refine j_iload_n hc dX11_leftOf_9 rfl ?_
    refine j_goto (tgt := 23) hc dX11_leftOf_10 (by decide) ?_
    exact j_iret hc he dX11_leftOf_23 rfl (by omega) (by omega) ⟨vI_eq (by unfold leS; first | rw [if_pos (by omega), Int.tdiv_eq_ediv_of_nonneg he0] | rw [if_neg (by omega)]), rfl⟩
set_option maxRecDepth 100000 in
set_option maxHeartbeats 4000000 in
theorem ev_X11_after {k : WC} {d : Nat} {h : AH} {s : Int → Int} {A : MAs} {l : Int} {D : LaS} {E : LaY} {q : Int} (hd : 1 ≤ d) (hS : MdS h s A) (hM : MlD A l D E) (hD : LOK D) (hE : YOK E) (hl : s 37 = l) (hs0 : 0 ≤ q) (hs1 : q < lSe D)  : Ev k d mdX11_after h [vR (70, 0), vI q] 0 0 (pr (vI (nxS D q)) h) := by
  obtain ⟨⟨zl0, zl1⟩, mSe, mNe, mPa, mCo, mMi, mRo, mLa, mRn, mHv, mBu, mSl, mGr, mTb⟩ := id hM
  obtain ⟨d1, d2, d3, d4, d5, d6, d7, d8, d9, d10, d11, d12, d13⟩ := id hD
  obtain ⟨y1, y2, y3, y4, y5, y6, y7, y8, y9, y10⟩ := id hE
  refine Ev.mk (by decide +kernel) [_, _] rfl (Nat.le_of_ble_eq_true rfl) (fun w hc he => ?_)
  refine j_iload_n hc dX11_after_0 rfl ?_
  refine j_iconst hc dX11_after_1 ?_
  refine j_iadd hc dX11_after_2 ?_
  refine j_aload_n hc dX11_after_3 rfl ?_
  refine j_get hc dX11_after_4 fX11_13 hS.1 rfl ?_
  refine j_aload_n hc dX11_after_7 rfl ?_
  refine j_get hc dX11_after_8 fX11_278 hS.1 rfl ?_
  rw [hl]
  refine j_iald hc dX11_after_11 hS.2.2.1 (by omega) (by omega) ?_
  rw [mSe]
  refine j_irem hc dX11_after_12 ⟨by omega, by omega⟩ ⟨by omega, by omega⟩ (by omega) ?_
  exact j_iret hc he dX11_after_13 rfl (by omega) (by omega) ⟨vI_eq (by
    unfold nxS
    split
    · rw [Int.tdiv_eq_zero_of_lt (by omega) (by omega)]; omega
    · rw [show q + 1 = lSe D by omega, Int.tdiv_self (by omega)]; omega), rfl⟩
set_option maxRecDepth 100000 in
set_option maxHeartbeats 4000000 in
theorem ev_X11_harvests {k : WC} {d : Nat} {h : AH} {s : Int → Int} {A : MAs} {l : Int} {D : LaS} {E : LaY} {q : Int} (hd : 1 ≤ d) (hS : MdS h s A) (hM : MlD A l D E) (hD : LOK D) (hE : YOK E) (hl : s 37 = l) (hs0 : 0 ≤ q) (hs1 : q < lSe D)  : Ev k d mdX11_harvests h [vR (70, 0), vI q] 0 0 (pr (vI (lHv D q)) h) := by
  obtain ⟨⟨zl0, zl1⟩, mSe, mNe, mPa, mCo, mMi, mRo, mLa, mRn, mHv, mBu, mSl, mGr, mTb⟩ := id hM
  obtain ⟨d1, d2, d3, d4, d5, d6, d7, d8, d9, d10, d11, d12, d13⟩ := id hD
  obtain ⟨y1, y2, y3, y4, y5, y6, y7, y8, y9, y10⟩ := id hE
  refine Ev.mk (by decide +kernel) [_, _] rfl (Nat.le_of_ble_eq_true rfl) (fun w hc he => ?_)
  refine j_aload_n hc dX11_harvests_0 rfl ?_
  refine j_get hc dX11_harvests_1 fX11_31 hS.1 rfl ?_
  refine j_iconst hc dX11_harvests_4 ?_
  refine j_aload_n hc dX11_harvests_5 rfl ?_
  refine j_get hc dX11_harvests_6 fX11_278 hS.1 rfl ?_
  rw [hl]
  refine j_imul hc dX11_harvests_9 ?_
  refine j_iload_n hc dX11_harvests_10 rfl ?_
  refine j_iadd hc dX11_harvests_11 ?_
  refine j_iald hc dX11_harvests_12 hS.2.2.2.2.2.2.2.2.1 (by omega) (by omega) ?_
  rw [(mHv q hs0 hs1).1]
  exact j_iret hc he dX11_harvests_13 rfl (by omega) (by omega) ⟨rfl, rfl⟩
set_option maxRecDepth 100000 in
set_option maxHeartbeats 4000000 in
theorem ev_X11_sacksOf {k : WC} {d : Nat} {h : AH} {s : Int → Int} {A : MAs} {l : Int} {D : LaS} {E : LaY} {q i : Int} (hd : 1 ≤ d) (hS : MdS h s A) (hM : MlD A l D E) (hD : LOK D) (hE : YOK E) (hl : s 37 = l) (hs0 : 0 ≤ q) (hs1 : q < lSe D) (hi0 : 0 ≤ i) (hi1 : i < lHv D q)  : Ev k d mdX11_sacksOf h [vR (70, 0), vI q, vI i] 0 0 (pr (vI (lSk D (q * 4 + i))) h) := by
  obtain ⟨⟨zl0, zl1⟩, mSe, mNe, mPa, mCo, mMi, mRo, mLa, mRn, mHv, mBu, mSl, mGr, mTb⟩ := id hM
  obtain ⟨d1, d2, d3, d4, d5, d6, d7, d8, d9, d10, d11, d12, d13⟩ := id hD
  obtain ⟨y1, y2, y3, y4, y5, y6, y7, y8, y9, y10⟩ := id hE
  have zh := d13 q hs0 hs1
  refine Ev.mk (by decide +kernel) [_, _, _] rfl (Nat.le_of_ble_eq_true rfl) (fun w hc he => ?_)
  refine j_aload_n hc dX11_sacksOf_0 rfl ?_
  refine j_get hc dX11_sacksOf_1 fX11_25 hS.1 rfl ?_
  refine j_iconst hc dX11_sacksOf_4 ?_
  refine j_iconst hc dX11_sacksOf_5 ?_
  refine j_aload_n hc dX11_sacksOf_6 rfl ?_
  refine j_get hc dX11_sacksOf_7 fX11_278 hS.1 rfl ?_
  rw [hl]
  refine j_imul hc dX11_sacksOf_10 ?_
  refine j_iload_n hc dX11_sacksOf_11 rfl ?_
  refine j_iadd hc dX11_sacksOf_12 ?_
  refine j_imul hc dX11_sacksOf_13 ?_
  refine j_iload_n hc dX11_sacksOf_14 rfl ?_
  refine j_iadd hc dX11_sacksOf_15 ?_
  refine j_iald hc dX11_sacksOf_16 hS.2.2.2.2.2.2.1 (by omega) (by omega) ?_
  rw [((mHv q hs0 hs1).2 i hi0 hi1).1]
  exact j_iret hc he dX11_sacksOf_17 rfl (by omega) (by omega) ⟨rfl, rfl⟩
set_option maxRecDepth 100000 in
set_option maxHeartbeats 4000000 in
theorem ev_X11_weightIn {k : WC} {d : Nat} {h : AH} {s : Int → Int} {A : MAs} {l : Int} {D : LaS} {E : LaY} {q i : Int} (hd : 1 ≤ d) (hS : MdS h s A) (hM : MlD A l D E) (hD : LOK D) (hE : YOK E) (hl : s 37 = l) (hs0 : 0 ≤ q) (hs1 : q < lSe D) (hi0 : 0 ≤ i) (hi1 : i < lHv D q)  : Ev k d mdX11_weightIn h [vR (70, 0), vI q, vI i] 0 0 (pr (vI (lWt D (q * 4 + i))) h) := by
  obtain ⟨⟨zl0, zl1⟩, mSe, mNe, mPa, mCo, mMi, mRo, mLa, mRn, mHv, mBu, mSl, mGr, mTb⟩ := id hM
  obtain ⟨d1, d2, d3, d4, d5, d6, d7, d8, d9, d10, d11, d12, d13⟩ := id hD
  obtain ⟨y1, y2, y3, y4, y5, y6, y7, y8, y9, y10⟩ := id hE
  have zh := d13 q hs0 hs1
  refine Ev.mk (by decide +kernel) [_, _, _] rfl (Nat.le_of_ble_eq_true rfl) (fun w hc he => ?_)
  refine j_aload_n hc dX11_weightIn_0 rfl ?_
  refine j_get hc dX11_weightIn_1 fX11_28 hS.1 rfl ?_
  refine j_iconst hc dX11_weightIn_4 ?_
  refine j_iconst hc dX11_weightIn_5 ?_
  refine j_aload_n hc dX11_weightIn_6 rfl ?_
  refine j_get hc dX11_weightIn_7 fX11_278 hS.1 rfl ?_
  rw [hl]
  refine j_imul hc dX11_weightIn_10 ?_
  refine j_iload_n hc dX11_weightIn_11 rfl ?_
  refine j_iadd hc dX11_weightIn_12 ?_
  refine j_imul hc dX11_weightIn_13 ?_
  refine j_iload_n hc dX11_weightIn_14 rfl ?_
  refine j_iadd hc dX11_weightIn_15 ?_
  refine j_iald hc dX11_weightIn_16 hS.2.2.2.2.2.2.2.1 (by omega) (by omega) ?_
  rw [((mHv q hs0 hs1).2 i hi0 hi1).2]
  exact j_iret hc he dX11_weightIn_17 rfl (by omega) (by omega) ⟨rfl, rfl⟩
set_option maxRecDepth 100000 in
set_option maxHeartbeats 4000000 in
theorem ev_X11_may {k : WC} {d : Nat} {h : AH} {s : Int → Int} {A : MAs} {l : Int} {D : LaS} {E : LaY} {a : Int} (hd : 2 ≤ d) (hS : MdS h s A) (hM : MlD A l D E) (hD : LOK D) (hE : YOK E) (hl : s 37 = l) (ha0 : inI a)  : Ev k d mdX11_may h [vR (70, 0), vI a] 0 0 (pr (vI (min a (moS D E))) h) := by
  obtain ⟨⟨zl0, zl1⟩, mSe, mNe, mPa, mCo, mMi, mRo, mLa, mRn, mHv, mBu, mSl, mGr, mTb⟩ := id hM
  obtain ⟨d1, d2, d3, d4, d5, d6, d7, d8, d9, d10, d11, d12, d13⟩ := id hD
  obtain ⟨y1, y2, y3, y4, y5, y6, y7, y8, y9, y10⟩ := id hE
  refine Ev.mk (by decide +kernel) [_, _] rfl (Nat.le_of_ble_eq_true rfl) (fun w hc he => ?_)
  refine j_iload_n hc dX11_may_0 rfl ?_
  refine j_aload_n hc dX11_may_1 rfl ?_
  refine j_get hc dX11_may_2 fX11_40 hS.1 rfl ?_
  refine j_aload_n hc dX11_may_5 rfl ?_
  refine j_get hc dX11_may_6 fX11_278 hS.1 rfl ?_
  rw [hl]
  refine j_iald hc dX11_may_9 hS.2.2.2.2.2.2.2.2.2.2.2.1 (by omega) (by omega) ?_
  rw [mRo]
  refine j_aload_n hc dX11_may_10 rfl ?_
  refine j_get hc dX11_may_11 fX11_43 hS.1 rfl ?_
  refine j_aload_n hc dX11_may_14 rfl ?_
  refine j_get hc dX11_may_15 fX11_278 hS.1 rfl ?_
  rw [hl]
  refine j_iald hc dX11_may_18 hS.2.2.2.2.2.2.2.2.2.2.2.2.1 (by omega) (by omega) ?_
  rw [mLa]
  refine j_mmin hc dX11_may_19 mX11_169 mo_min ⟨by omega, by omega⟩ ⟨by omega, by omega⟩ (by omega) (by omega) rfl (by omega) (Nat.le_of_ble_eq_true rfl) ?_
  refine j_mmin hc dX11_may_22 mX11_169 mo_min ha0 ⟨by omega, by omega⟩ (by omega) (by omega) rfl (by omega) (Nat.le_of_ble_eq_true rfl) ?_
  exact j_iret hc he dX11_may_25 rfl (by omega) (by omega) ⟨rfl, rfl⟩
theorem goN_top {D : LaS} {e : Int} {j : Nat} (h1 : (j : Int) ≤ e) (h2 : e ≤ j ∨ (lNe D : Int) ≤ j) : goN D j = goN D e.toNat := by
  have key : ∀ t : Nat, (t = 0 ∨ (lNe D : Int) ≤ j) → goN D (j + t) = goN D j := fun t => by
    induction t with
    | zero => intro _; rfl
    | succ t ih =>
      intro h
      show goN D (j + t) + prS D ((j + t : Nat) : Int) = _
      rw [ih (Or.inr (by omega))]
      unfold prS
      rw [if_neg (by omega)]
      omega
  have := key (e.toNat - j) (by omega)
  rw [show j + (e.toNat - j) = e.toNat by omega] at this
  exact this.symm
set_option maxRecDepth 100000 in
set_option maxHeartbeats 4000000 in
theorem lp_X11_goods {k : WC} {d : Nat} {w : MC} {h : AH} {s : Int → Int} {A : MAs} {l : Int} {D : LaS} {E : LaY} {e : Int} (hd : 2 ≤ d) (hS : MdS h s A) (hM : MlD A l D E) (hD : LOK D) (hE : YOK E) (he0 : 0 ≤ e) (he1 : e ≤ 1000)  (hc : Cx w k d 0 0 mdX11_goods) (he : Ends w 0 0 (pr (vI (goS D e)) h)) : ∀ (zm : Nat) (j : Nat) (c : Int), 1000 - j = zm → (j : Int) ≤ e → j ≤ lNe D → c = goN D j → J w 0 0 5 [some (vR (70, 0)), some (vI l), some (vI e), some (vI c), some (vI j)] [] h := by
  obtain ⟨⟨zl0, zl1⟩, mSe, mNe, mPa, mCo, mMi, mRo, mLa, mRn, mHv, mBu, mSl, mGr, mTb⟩ := id hM
  obtain ⟨d1, d2, d3, d4, d5, d6, d7, d8, d9, d10, d11, d12, d13⟩ := id hD
  obtain ⟨y1, y2, y3, y4, y5, y6, y7, y8, y9, y10⟩ := id hE
  intro zm
  induction zm using Nat.strongRecOn with
  | _ zm ih =>
    intro j c hm hj1 hj2 hcc
    refine j_iload hc dX11_goods_5 rfl ?_
    refine j_iload_n hc dX11_goods_7 rfl ?_
    refine j_aload_n hc dX11_goods_8 rfl ?_
    refine j_get hc dX11_goods_9 fX11_19 hS.1 rfl ?_
    refine j_iload_n hc dX11_goods_12 rfl ?_
    refine j_iald hc dX11_goods_13 hS.2.2.2.2.1 (by omega) (by omega) ?_
    rw [mNe]
    refine j_mmin hc dX11_goods_14 mX11_169 mo_min ⟨by omega, by omega⟩ ⟨by omega, by omega⟩ (by omega) (by omega) rfl (by omega) (Nat.le_of_ble_eq_true rfl) ?_
    refine j_icmp_ge (tgt := 42) hc dX11_goods_17 (by decide) ⟨by omega, by omega⟩ ⟨by omega, by omega⟩ (fun zc1 => ?_) (fun zc1 => ?_)
    · refine j_iload_n hc dX11_goods_42 rfl ?_
      exact j_iret hc he dX11_goods_43 rfl (by omega) (by omega) ⟨vI_eq (by rw [hcc]; unfold goS; exact goN_top (by omega) (by omega)), rfl⟩
    · refine j_iload_n hc dX11_goods_20 rfl ?_
      refine j_aload_n hc dX11_goods_21 rfl ?_
      refine j_get hc dX11_goods_22 fX11_16 hS.1 rfl ?_
      refine j_sipush hc dX11_goods_25 (by decide) ?_
      refine j_iload_n hc dX11_goods_28 rfl ?_
      refine j_imul hc dX11_goods_29 ?_
      refine j_iload hc dX11_goods_30 rfl ?_
      refine j_iadd hc dX11_goods_32 ?_
      refine j_iald hc dX11_goods_33 hS.2.2.2.1 (by omega) (by omega) ?_
      rw [mPa j (by omega) (by omega)]
      refine j_iadd hc dX11_goods_34 ?_
      refine j_istore_n (L' := [_, _, _, _, _]) hc dX11_goods_35 (Nat.le_of_ble_eq_true rfl) rfl ?_
      refine j_iinc (L' := [_, _, _, _, _]) hc dX11_goods_36 rfl (Nat.le_of_ble_eq_true rfl) rfl ?_
      refine j_goto (tgt := 5) hc dX11_goods_39 (by decide) ?_
      exact ih _ (by omega) (j + 1) _ rfl (by omega) (by omega) (by simp only [goN]; rw [hcc]; congr 1; unfold prS; rw [if_pos ⟨by omega, by omega⟩])
set_option maxRecDepth 100000 in
set_option maxHeartbeats 4000000 in
theorem ev_X11_goods {k : WC} {d : Nat} {h : AH} {s : Int → Int} {A : MAs} {l : Int} {D : LaS} {E : LaY} {e : Int} (hd : 2 ≤ d) (hS : MdS h s A) (hM : MlD A l D E) (hD : LOK D) (hE : YOK E) (he0 : 0 ≤ e) (he1 : e ≤ 1000)  : Ev k d mdX11_goods h [vR (70, 0), vI l, vI e] 0 0 (pr (vI (goS D e)) h) := by
  obtain ⟨⟨zl0, zl1⟩, mSe, mNe, mPa, mCo, mMi, mRo, mLa, mRn, mHv, mBu, mSl, mGr, mTb⟩ := id hM
  obtain ⟨d1, d2, d3, d4, d5, d6, d7, d8, d9, d10, d11, d12, d13⟩ := id hD
  obtain ⟨y1, y2, y3, y4, y5, y6, y7, y8, y9, y10⟩ := id hE
  refine Ev.mk (by decide +kernel) [_, _, _, _, _] rfl (Nat.le_of_ble_eq_true rfl) (fun w hc he => ?_)
  refine j_iconst hc dX11_goods_0 ?_
  refine j_istore_n (L' := [_, _, _, _, _]) hc dX11_goods_1 (Nat.le_of_ble_eq_true rfl) rfl ?_
  refine j_iconst hc dX11_goods_2 ?_
  refine j_istore (L' := [_, _, _, _, _]) hc dX11_goods_3 (Nat.le_of_ble_eq_true rfl) rfl ?_
  exact lp_X11_goods hd hS hM hD hE he0 he1 hc he _ 0 _ rfl (by omega) (by omega) rfl
set_option maxRecDepth 100000 in
set_option maxHeartbeats 4000000 in
theorem lp_X11_weightOf {k : WC} {d : Nat} {w : MC} {h : AH} {s : Int → Int} {A : MAs} {l : Int} {D : LaS} {E : LaY} {q : Int} (hd : 1 ≤ d) (hS : MdS h s A) (hM : MlD A l D E) (hD : LOK D) (hE : YOK E) (hs0 : 0 ≤ q) (hs1 : q < lSe D)  (hc : Cx w k d 0 0 mdX11_weightOf) (he : Ends w 0 0 (pr (vI (lWs D q)) h)) : ∀ (zm : Nat) (j : Nat) (c : Int), 4 - j = zm → (j : Int) ≤ lHv D q → c = suN (lWt D) (4 * q) j → J w 0 0 5 [some (vR (70, 0)), some (vI l), some (vI q), some (vI c), some (vI j)] [] h := by
  obtain ⟨⟨zl0, zl1⟩, mSe, mNe, mPa, mCo, mMi, mRo, mLa, mRn, mHv, mBu, mSl, mGr, mTb⟩ := id hM
  obtain ⟨d1, d2, d3, d4, d5, d6, d7, d8, d9, d10, d11, d12, d13⟩ := id hD
  obtain ⟨y1, y2, y3, y4, y5, y6, y7, y8, y9, y10⟩ := id hE
  obtain ⟨zh1, zh2, zh3, zh4, zh5, zh6⟩ := d13 q hs0 hs1
  intro zm
  induction zm using Nat.strongRecOn with
  | _ zm ih =>
    intro j c hm hj hcc
    refine j_iload hc dX11_weightOf_5 rfl ?_
    refine j_aload_n hc dX11_weightOf_7 rfl ?_
    refine j_get hc dX11_weightOf_8 fX11_31 hS.1 rfl ?_
    refine j_iconst hc dX11_weightOf_11 ?_
    refine j_iload_n hc dX11_weightOf_12 rfl ?_
    refine j_imul hc dX11_weightOf_13 ?_
    refine j_iload_n hc dX11_weightOf_14 rfl ?_
    refine j_iadd hc dX11_weightOf_15 ?_
    refine j_iald hc dX11_weightOf_16 hS.2.2.2.2.2.2.2.2.1 (by omega) (by omega) ?_
    rw [(mHv q hs0 hs1).1]
    refine j_icmp_ge (tgt := 44) hc dX11_weightOf_17 (by decide) ⟨by omega, by omega⟩ ⟨by omega, by omega⟩ (fun zc1 => ?_) (fun zc1 => ?_)
    · refine j_iload_n hc dX11_weightOf_44 rfl ?_
      exact j_iret hc he dX11_weightOf_45 rfl (by omega) (by omega) ⟨vI_eq (by rw [hcc, zh5, show (lHv D q).toNat = j by omega]), rfl⟩
    · refine j_iload_n hc dX11_weightOf_20 rfl ?_
      refine j_aload_n hc dX11_weightOf_21 rfl ?_
      refine j_get hc dX11_weightOf_22 fX11_28 hS.1 rfl ?_
      refine j_iconst hc dX11_weightOf_25 ?_
      refine j_iconst hc dX11_weightOf_26 ?_
      refine j_iload_n hc dX11_weightOf_27 rfl ?_
      refine j_imul hc dX11_weightOf_28 ?_
      refine j_iload_n hc dX11_weightOf_29 rfl ?_
      refine j_iadd hc dX11_weightOf_30 ?_
      refine j_imul hc dX11_weightOf_31 ?_
      refine j_iload hc dX11_weightOf_32 rfl ?_
      refine j_iadd hc dX11_weightOf_34 ?_
      refine j_iald hc dX11_weightOf_35 hS.2.2.2.2.2.2.2.1 (by omega) (by omega) ?_
      rw [((mHv q hs0 hs1).2 j (by omega) (by omega)).2]
      refine j_iadd hc dX11_weightOf_36 ?_
      refine j_istore_n (L' := [_, _, _, _, _]) hc dX11_weightOf_37 (Nat.le_of_ble_eq_true rfl) rfl ?_
      refine j_iinc (L' := [_, _, _, _, _]) hc dX11_weightOf_38 rfl (Nat.le_of_ble_eq_true rfl) rfl ?_
      refine j_goto (tgt := 5) hc dX11_weightOf_41 (by decide) ?_
      exact ih _ (by omega) (j + 1) _ rfl (by omega) (by simp only [suN]; rw [hcc, show 4 * q + (j : Int) = q * 4 + j by omega])
set_option maxRecDepth 100000 in
set_option maxHeartbeats 4000000 in
theorem ev_X11_weightOf {k : WC} {d : Nat} {h : AH} {s : Int → Int} {A : MAs} {l : Int} {D : LaS} {E : LaY} {q : Int} (hd : 1 ≤ d) (hS : MdS h s A) (hM : MlD A l D E) (hD : LOK D) (hE : YOK E) (hs0 : 0 ≤ q) (hs1 : q < lSe D)  : Ev k d mdX11_weightOf h [vR (70, 0), vI l, vI q] 0 0 (pr (vI (lWs D q)) h) := by
  obtain ⟨⟨zl0, zl1⟩, mSe, mNe, mPa, mCo, mMi, mRo, mLa, mRn, mHv, mBu, mSl, mGr, mTb⟩ := id hM
  obtain ⟨d1, d2, d3, d4, d5, d6, d7, d8, d9, d10, d11, d12, d13⟩ := id hD
  obtain ⟨y1, y2, y3, y4, y5, y6, y7, y8, y9, y10⟩ := id hE
  have zh := d13 q hs0 hs1
  refine Ev.mk (by decide +kernel) [_, _, _, _, _] rfl (Nat.le_of_ble_eq_true rfl) (fun w hc he => ?_)
  refine j_iconst hc dX11_weightOf_0 ?_
  refine j_istore_n (L' := [_, _, _, _, _]) hc dX11_weightOf_1 (Nat.le_of_ble_eq_true rfl) rfl ?_
  refine j_iconst hc dX11_weightOf_2 ?_
  refine j_istore (L' := [_, _, _, _, _]) hc dX11_weightOf_3 (Nat.le_of_ble_eq_true rfl) rfl ?_
  exact lp_X11_weightOf hd hS hM hD hE hs0 hs1 hc he _ 0 _ rfl (by omega) rfl
