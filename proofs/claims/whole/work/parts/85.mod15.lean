/-! ===== the reference: what changes it ===== -/
theorem MoB.mv {h h' : AH} {n : Nm} {o : AO} (e : up h n o = h') (hn : n.1 < 230 ∨ 236 < n.1) (a : MoB h) : MoB h' := by
  have q : ∀ z : Nm, 230 ≤ z.1 → z.1 ≤ 236 → h' z = h z := fun z h0 h1 => by rw [← e]; exact up_ne fun y => by rw [y] at h0 h1; omega
  obtain ⟨⟨f0, a0⟩, ⟨f1, a1⟩, ⟨f2, a2⟩, ⟨f3, a3⟩, ⟨f4, a4⟩, ⟨f5, a5⟩, f6, a6⟩ := a
  exact ⟨⟨f0, (q _ (by decide) (by decide)).trans a0⟩, ⟨f1, (q _ (by decide) (by decide)).trans a1⟩, ⟨f2, (q _ (by decide) (by decide)).trans a2⟩, ⟨f3, (q _ (by decide) (by decide)).trans a3⟩, ⟨f4, (q _ (by decide) (by decide)).trans a4⟩, ⟨f5, (q _ (by decide) (by decide)).trans a5⟩, f6, (q _ (by decide) (by decide)).trans a6⟩
theorem MoX.mv {h h' : AH} {n : Nm} {o : AO} {S : BaS} (e : up h n o = h') (hn : n.1 < 239 ∨ n.1 = 241 ∨ n.1 = 242) (a : MoX h S) : MoX h' S := by
  have q : ∀ z : Nm, 239 ≤ z.1 → z.1 ≠ 241 → z.1 ≠ 242 → h' z = h z := fun z h0 h1 h2 => by rw [← e]; exact up_ne fun y => by rw [y] at h0 h1 h2; omega
  obtain ⟨⟨f1, a1⟩, ⟨f2, a2⟩, ⟨f3, a3, b3⟩, f4, a4⟩ := a
  exact ⟨⟨f1, (q _ (by decide) (by decide) (by decide)).trans a1⟩, ⟨f2, (q _ (by decide) (by decide) (by decide)).trans a2⟩, ⟨f3, (q _ (by decide) (by decide) (by decide)).trans a3, b3⟩, f4, (q _ (by decide) (by decide) (by decide)).trans a4⟩
theorem MrD.ch {A A' : MAs} {r : Int} {c : Cls} (h : MrD A r c) (e23 : A' 23 = A 23) (e24 : A' 24 = A 24) (e25 : A' 25 = A 25) (e26 : A' 26 = A 26) : MrD A' r c := by
  unfold MrD
  rw [e23, e24, e25, e26]
  exact h
theorem MoR.yE {s : Int → Int} {A A' : MAs} {S : BaS} {th l : Int} {E' : LaY} (hR : MoR s A S th) (hl : lnV S l) (hl6 : bLc S ≤ 6) (e1 : A' 1 = A 1) (e6 : A' 6 = A 6) (e7 : A' 7 = A 7) (e8 : A' 8 = A 8) (e10 : A' 10 = A 10) (e11 : A' 11 = A 11) (e12 : A' 12 = A 12) (e13 : A' 13 = A 13) (e14 : A' 14 = A 14) (e15 : A' 15 = A 15) (e23 : A' 23 = A 23) (e24 : A' 24 = A 24) (e25 : A' 25 = A 25) (e26 : A' 26 = A 26) (e41 : A' 41 = A 41) (e42 : A' 42 = A 42)
    (ho : ∀ j : Int, 0 ≤ j → j < 6 → j ≠ l → A' 16 j = A 16 j ∧ A' 17 j = A 17 j ∧ A' 19 j = A 19 j ∧ A' 20 j = A 20 j ∧ A' 21 j = A 21 j ∧ ∀ i : Int, 0 ≤ i → i < 164 → A' 18 (164 * j + i) = A 18 (164 * j + i))
    (ha : A' 16 l = yLaw E' ∧ A' 17 l = yRn E' ∧ A' 19 l = yBuy E' ∧ A' 20 l = ySell E' ∧ A' 21 l = yGr E' ∧ ∀ i : Int, 0 ≤ i → i < 164 → A' 18 (164 * l + i) = yTab E' i) : MoR s A' (sE S l E') th := by
  obtain ⟨m0, m2, m22, m27, m44, m45, m46, mTp, mLd, mRu, mRw, mFr⟩ := hR
  refine ⟨m0, m2, m22, m27, m44, m45, m46, fun i h0 h1 => by rw [e1]; exact mTp i h0 h1, fun j h0 h1 => ?_, fun r h0 h1 => ⟨((mRu r h0 h1).1).ch e23 e24 e25 e26, (mRu r h0 h1).2⟩, fun r h0 h1 => by rw [e41, e42]; exact mRw r h0 h1, fun j h0 h1 => ?_⟩
  · have h1' : j < bLc S := h1
    obtain ⟨g0, g6, g8, g7, g13, g14, g15, g16, g17, g12, g19, g20, g21, g18⟩ := mLd j h0 h1'
    show MlD A' j (bD S j) (fuL (bE S) l E' j)
    unfold MlD
    rw [e6, e7, e8, e10, e11, e12, e13, e14, e15]
    by_cases e : j = l
    · rw [e] at g0 g6 g8 g7 g13 g14 g15 g12 ⊢
      rw [show fuL (bE S) l E' l = E' from if_pos rfl]
      obtain ⟨a1, a2, a3, a4, a5, a6⟩ := ha
      exact ⟨g0, g6, g8, g7, g13, g14, g15, a1, a2, g12, a3, a4, a5, a6⟩
    · rw [show fuL (bE S) l E' j = bE S j from if_neg e]
      obtain ⟨a1, a2, a3, a4, a5, a6⟩ := ho j h0 (by omega) e
      exact ⟨g0, g6, g8, g7, g13, g14, g15, a1.trans g16, a2.trans g17, g12, a3.trans g19, a4.trans g20, a5.trans g21, fun i i0 i1 => (a6 i i0 i1).trans (g18 i i0 i1)⟩
  · have h0' : bLc S ≤ j := h0
    obtain ⟨g1, g2, g3, g4, g5, g6⟩ := mFr j h0' h1
    obtain ⟨a1, a2, a3, a4, a5, a6⟩ := ho j (by have := hl.1; have := hl.2; omega) h1 (by have := hl.2; omega)
    exact ⟨a1.trans g1, a2.trans g2, a3.trans g3, a4.trans g4, a5.trans g5, fun i i0 i1 => (a6 i i0 i1).trans (g6 i i0 i1)⟩
set_option maxRecDepth 100000 in
set_option maxHeartbeats 4000000 in
theorem ev_X11_law_a {k : WC} {d : Nat} {h : AH} {S : BaS} {th : Int} {l x : Int} (hd : 8 ≤ d) (hMo : ModAt h S th) (hil : inI l) (hix : inI x) (hK' : BOK (if lnV S l ∧ 0 ≤ x ∧ x ≤ 20 then sE S l (eLaw (bE S l) x) else S)) : Ev k d mdX11_law h [vR (70, 0), vI l, vI x] 0 0 (pe fun v h' => v = vI (if lnV S l ∧ 0 ≤ x ∧ x ≤ 20 then 1 else 0) ∧ ModAt h' (if lnV S l ∧ 0 ≤ x ∧ x ≤ 20 then sE S l (eLaw (bE S l) x) else S) th ∧ Fr isMo h h') := by
  obtain ⟨s, A, hS, hR, hB, hX, hK⟩ := id hMo
  obtain ⟨m0, m2, m22, m27, m44, m45, m46, mTp, mLd, mRu, mRw, mFr⟩ := id hR
  obtain ⟨⟨kTa, kTb⟩, ⟨kL0, kL1⟩, ⟨kR0, kR1⟩, kLd, kRu, kRw, ⟨kT0, kT1⟩, kS0, kS1⟩ := id hK
  refine Ev.mk (by decide +kernel) [_, _, _] rfl (Nat.le_of_ble_eq_true rfl) (fun w hc he => ?_)
  refine j_aload_n hc dX11_law_0 rfl ?_
  refine j_iload_n hc dX11_law_1 rfl ?_
  refine j_callV (d' := d - 1) hc dX11_law_2 vX11_257 hS.1 (ev_X11_isLand (by omega) hS hR hK hil) rfl (by omega) (by omega) (by omega) rfl rfl (Nat.le_of_ble_eq_true rfl) (ret1 ?_)
  refine j_if_eq (b := 0) (tgt := 18) hc dX11_law_5 (by decide) (by split <;> exact ⟨by omega, by omega⟩) (fun zc1 => ?_) (fun zc1 => ?_)
  · have zw5 := one_neg zc1
    refine j_iconst hc dX11_law_18 ?_
    exact j_zret hc he dX11_law_19 rfl (by omega) (by omega) (by first | exact Or.inl rfl | exact Or.inr rfl) ⟨_, rfl, by rw [if_neg (by omega)], by rw [if_neg (by omega)]; exact hMo, Fr.rf _ _⟩
  · have zw1 := one_pos zc1
    obtain ⟨hD, hE, hrn, hyo⟩ := kLd l zw1.1 zw1.2
    have hM := mLd l zw1.1 zw1.2
    obtain ⟨⟨zl0, zl1⟩, mSe, mNe, mPa, mCo, mMi, mRo, mLa, mRn, mHv, mBu, mSl, mGr, mTb⟩ := id hM
    obtain ⟨d1, d2, d3, d4, d5, d6, d7, d8, d9, d10, d11, d12, d13⟩ := id hD
    obtain ⟨y1, y2, y3, y4, y5, y6, y7, y8, y9, y10⟩ := id hE
    have hW := fun k => ru_of (k := k) (l := l) hR hK zw1
    have hWb := fun k => ru_of (k := k) (l := l) (MoR.s37 (l := l) (c := lCo (bD S l)) hR) hK zw1
    refine j_iload_n hc dX11_law_8 rfl ?_
    refine j_iconst hc dX11_law_9 ?_
    refine j_bipush hc dX11_law_10 (by decide) ?_
    refine j_callS (d' := d - 1) hc dX11_law_12 sX11_145 (ev_X11_in (by omega) hix ⟨by omega, by omega⟩ ⟨by omega, by omega⟩) rfl (by omega) (by omega) (by omega) rfl rfl (Nat.le_of_ble_eq_true rfl) (ret1 ?_)
    refine j_if_ne (b := 0) (tgt := 20) hc dX11_law_15 (by decide) (by split <;> exact ⟨by omega, by omega⟩) (fun zc2 => ?_) (fun zc2 => ?_)
    · have zw2 := one_pos zc2
      refine j_aload_n hc dX11_law_20 rfl ?_
      refine j_get hc dX11_law_21 fX11_43 hS.1 rfl ?_
      refine j_iload_n hc dX11_law_24 rfl ?_
      refine j_iload_n hc dX11_law_25 rfl ?_
      refine j_iast hc dX11_law_26 hS.2.2.2.2.2.2.2.2.2.2.2.2.1 (by omega) (by omega) ?_
      generalize ezh1 : up _ _ _ = zh1
      have zzmod_zh1 := MdS.pa_16 ezh1 hS
      have zzmob_zh1 := MoB.mv ezh1 (by simp) hB
      have zzmox_zh1 := MoX.mv ezh1 (by simp) hX
      refine j_iconst hc dX11_law_27 ?_
      exact j_zret hc he dX11_law_28 rfl (by omega) (by omega) (by first | exact Or.inl rfl | exact Or.inr rfl) ⟨_, rfl, by rw [if_pos (⟨zw1, zw2⟩)], by rw [if_pos (⟨zw1, zw2⟩)] at hK' ⊢; exact ⟨_, _, zzmod_zh1, MoR.yE hR zw1 kL1 rfl rfl rfl rfl rfl rfl rfl rfl rfl rfl rfl rfl rfl rfl rfl rfl (fun j _ _ hj => ⟨fu_ne hj, rfl, rfl, rfl, rfl, fun _ _ _ => rfl⟩) ⟨fu_same _ _ _, mRn, mBu, mSl, mGr, mTb⟩, zzmob_zh1, zzmox_zh1, hK'⟩, (by rw [← ezh1]; exact (Fr.rf _ _).push (by first | exact Or.inl rfl | exact Or.inr (by decide)))⟩
    · have zw5 := one_neg zc2
      refine j_iconst hc dX11_law_18 ?_
      exact j_zret hc he dX11_law_19 rfl (by omega) (by omega) (by first | exact Or.inl rfl | exact Or.inr rfl) ⟨_, rfl, by rw [if_neg (by omega)], by rw [if_neg (by omega)]; exact hMo, Fr.rf _ _⟩
set_option maxRecDepth 100000 in
set_option maxHeartbeats 4000000 in
theorem ev_X11_by_a {k : WC} {d : Nat} {h : AH} {S : BaS} {th : Int} {l r : Int} (hd : 8 ≤ d) (hMo : ModAt h S th) (hil : inI l) (hir : inI r) (hK' : BOK (if lnV S l ∧ -1 ≤ r ∧ r < bRc S then sE S l (eBy (bE S l) r) else S)) : Ev k d mdX11_by h [vR (70, 0), vI l, vI r] 0 0 (pe fun v h' => v = vI (if lnV S l ∧ -1 ≤ r ∧ r < bRc S then 1 else 0) ∧ ModAt h' (if lnV S l ∧ -1 ≤ r ∧ r < bRc S then sE S l (eBy (bE S l) r) else S) th ∧ Fr isMo h h') := by
  obtain ⟨s, A, hS, hR, hB, hX, hK⟩ := id hMo
  obtain ⟨m0, m2, m22, m27, m44, m45, m46, mTp, mLd, mRu, mRw, mFr⟩ := id hR
  obtain ⟨⟨kTa, kTb⟩, ⟨kL0, kL1⟩, ⟨kR0, kR1⟩, kLd, kRu, kRw, ⟨kT0, kT1⟩, kS0, kS1⟩ := id hK
  refine Ev.mk (by decide +kernel) [_, _, _] rfl (Nat.le_of_ble_eq_true rfl) (fun w hc he => ?_)
  refine j_aload_n hc dX11_by_0 rfl ?_
  refine j_iload_n hc dX11_by_1 rfl ?_
  refine j_callV (d' := d - 1) hc dX11_by_2 vX11_257 hS.1 (ev_X11_isLand (by omega) hS hR hK hil) rfl (by omega) (by omega) (by omega) rfl rfl (Nat.le_of_ble_eq_true rfl) (ret1 ?_)
  refine j_if_eq (b := 0) (tgt := 22) hc dX11_by_5 (by decide) (by split <;> exact ⟨by omega, by omega⟩) (fun zc1 => ?_) (fun zc1 => ?_)
  · have zw5 := one_neg zc1
    refine j_iconst hc dX11_by_22 ?_
    exact j_zret hc he dX11_by_23 rfl (by omega) (by omega) (by first | exact Or.inl rfl | exact Or.inr rfl) ⟨_, rfl, by rw [if_neg (by omega)], by rw [if_neg (by omega)]; exact hMo, Fr.rf _ _⟩
  · have zw1 := one_pos zc1
    obtain ⟨hD, hE, hrn, hyo⟩ := kLd l zw1.1 zw1.2
    have hM := mLd l zw1.1 zw1.2
    obtain ⟨⟨zl0, zl1⟩, mSe, mNe, mPa, mCo, mMi, mRo, mLa, mRn, mHv, mBu, mSl, mGr, mTb⟩ := id hM
    obtain ⟨d1, d2, d3, d4, d5, d6, d7, d8, d9, d10, d11, d12, d13⟩ := id hD
    obtain ⟨y1, y2, y3, y4, y5, y6, y7, y8, y9, y10⟩ := id hE
    have hW := fun k => ru_of (k := k) (l := l) hR hK zw1
    have hWb := fun k => ru_of (k := k) (l := l) (MoR.s37 (l := l) (c := lCo (bD S l)) hR) hK zw1
    refine j_iload_n hc dX11_by_8 rfl ?_
    refine j_iconst hc dX11_by_9 ?_
    refine j_aload_n hc dX11_by_10 rfl ?_
    refine j_get hc dX11_by_11 fX11_227 hS.1 rfl ?_
    rw [m27]
    refine j_iconst hc dX11_by_14 ?_
    refine j_isub hc dX11_by_15 ?_
    refine j_callS (d' := d - 1) hc dX11_by_16 sX11_145 (ev_X11_in (by omega) hir ⟨by omega, by omega⟩ ⟨by omega, by omega⟩) rfl (by omega) (by omega) (by omega) rfl rfl (Nat.le_of_ble_eq_true rfl) (ret1 ?_)
    refine j_if_ne (b := 0) (tgt := 24) hc dX11_by_19 (by decide) (by split <;> exact ⟨by omega, by omega⟩) (fun zc2 => ?_) (fun zc2 => ?_)
    · have zw2 := one_pos zc2
      refine j_aload_n hc dX11_by_24 rfl ?_
      refine j_get hc dX11_by_25 fX11_46 hS.1 rfl ?_
      refine j_iload_n hc dX11_by_28 rfl ?_
      refine j_iload_n hc dX11_by_29 rfl ?_
      refine j_iast hc dX11_by_30 hS.2.2.2.2.2.2.2.2.2.2.2.2.2.1 (by omega) (by omega) ?_
      generalize ezh1 : up _ _ _ = zh1
      have zzmod_zh1 := MdS.pa_17 ezh1 hS
      have zzmob_zh1 := MoB.mv ezh1 (by simp) hB
      have zzmox_zh1 := MoX.mv ezh1 (by simp) hX
      refine j_iconst hc dX11_by_31 ?_
      exact j_zret hc he dX11_by_32 rfl (by omega) (by omega) (by first | exact Or.inl rfl | exact Or.inr rfl) ⟨_, rfl, by rw [if_pos (⟨zw1, by omega, by omega⟩)], by rw [if_pos (⟨zw1, by omega, by omega⟩)] at hK' ⊢; exact ⟨_, _, zzmod_zh1, MoR.yE hR zw1 kL1 rfl rfl rfl rfl rfl rfl rfl rfl rfl rfl rfl rfl rfl rfl rfl rfl (fun j _ _ hj => ⟨rfl, fu_ne hj, rfl, rfl, rfl, fun _ _ _ => rfl⟩) ⟨mLa, fu_same _ _ _, mBu, mSl, mGr, mTb⟩, zzmob_zh1, zzmox_zh1, hK'⟩, (by rw [← ezh1]; exact (Fr.rf _ _).push (by first | exact Or.inl rfl | exact Or.inr (by decide)))⟩
    · have zw5 := one_neg zc2
      refine j_iconst hc dX11_by_22 ?_
      exact j_zret hc he dX11_by_23 rfl (by omega) (by omega) (by first | exact Or.inl rfl | exact Or.inr rfl) ⟨_, rfl, by rw [if_neg (by omega)], by rw [if_neg (by omega)]; exact hMo, Fr.rf _ _⟩
set_option maxRecDepth 100000 in
set_option maxHeartbeats 4000000 in
theorem ev_X11_granary_a {k : WC} {d : Nat} {h : AH} {S : BaS} {th : Int} {l bu sl ro : Int} (hd : 8 ≤ d) (hMo : ModAt h S th) (hil : inI l) (hib : inI bu) (his : inI sl) (hir : inI ro) (hK' : BOK (if lnV S l ∧ (0 ≤ sl ∧ sl ≤ 99) ∧ (0 ≤ bu ∧ bu ≤ sl) ∧ 0 ≤ ro ∧ ro ≤ 20 then sE S l (eGr (bE S l) bu sl ro) else S)) : Ev k d mdX11_granary h [vR (70, 0), vI l, vI bu, vI sl, vI ro] 0 0 (pe fun v h' => v = vI (if lnV S l ∧ (0 ≤ sl ∧ sl ≤ 99) ∧ (0 ≤ bu ∧ bu ≤ sl) ∧ 0 ≤ ro ∧ ro ≤ 20 then 1 else 0) ∧ ModAt h' (if lnV S l ∧ (0 ≤ sl ∧ sl ≤ 99) ∧ (0 ≤ bu ∧ bu ≤ sl) ∧ 0 ≤ ro ∧ ro ≤ 20 then sE S l (eGr (bE S l) bu sl ro) else S) th ∧ Fr isMo h h') := by
  obtain ⟨s, A, hS, hR, hB, hX, hK⟩ := id hMo
  obtain ⟨m0, m2, m22, m27, m44, m45, m46, mTp, mLd, mRu, mRw, mFr⟩ := id hR
  obtain ⟨⟨kTa, kTb⟩, ⟨kL0, kL1⟩, ⟨kR0, kR1⟩, kLd, kRu, kRw, ⟨kT0, kT1⟩, kS0, kS1⟩ := id hK
  refine Ev.mk (by decide +kernel) [_, _, _, _, _] rfl (Nat.le_of_ble_eq_true rfl) (fun w hc he => ?_)
  refine j_aload_n hc dX11_granary_0 rfl ?_
  refine j_iload_n hc dX11_granary_1 rfl ?_
  refine j_callV (d' := d - 1) hc dX11_granary_2 vX11_257 hS.1 (ev_X11_isLand (by omega) hS hR hK hil) rfl (by omega) (by omega) (by omega) rfl rfl (Nat.le_of_ble_eq_true rfl) (ret1 ?_)
  refine j_if_eq (b := 0) (tgt := 39) hc dX11_granary_5 (by decide) (by split <;> exact ⟨by omega, by omega⟩) (fun zc1 => ?_) (fun zc1 => ?_)
  · have zw5 := one_neg zc1
    refine j_iconst hc dX11_granary_39 ?_
    exact j_zret hc he dX11_granary_40 rfl (by omega) (by omega) (by first | exact Or.inl rfl | exact Or.inr rfl) ⟨_, rfl, by rw [if_neg (by omega)], by rw [if_neg (by omega)]; exact hMo, Fr.rf _ _⟩
  · have zw1 := one_pos zc1
    obtain ⟨hD, hE, hrn, hyo⟩ := kLd l zw1.1 zw1.2
    have hM := mLd l zw1.1 zw1.2
    obtain ⟨⟨zl0, zl1⟩, mSe, mNe, mPa, mCo, mMi, mRo, mLa, mRn, mHv, mBu, mSl, mGr, mTb⟩ := id hM
    obtain ⟨d1, d2, d3, d4, d5, d6, d7, d8, d9, d10, d11, d12, d13⟩ := id hD
    obtain ⟨y1, y2, y3, y4, y5, y6, y7, y8, y9, y10⟩ := id hE
    have hW := fun k => ru_of (k := k) (l := l) hR hK zw1
    have hWb := fun k => ru_of (k := k) (l := l) (MoR.s37 (l := l) (c := lCo (bD S l)) hR) hK zw1
    refine j_iload_n hc dX11_granary_8 rfl ?_
    refine j_iconst hc dX11_granary_9 ?_
    refine j_bipush hc dX11_granary_10 (by decide) ?_
    refine j_callS (d' := d - 1) hc dX11_granary_12 sX11_145 (ev_X11_in (by omega) hib ⟨by omega, by omega⟩ ⟨by omega, by omega⟩) rfl (by omega) (by omega) (by omega) rfl rfl (Nat.le_of_ble_eq_true rfl) (ret1 ?_)
    refine j_if_eq (b := 0) (tgt := 39) hc dX11_granary_15 (by decide) (by split <;> exact ⟨by omega, by omega⟩) (fun zc2 => ?_) (fun zc2 => ?_)
    · have zw5 := one_neg zc2
      refine j_iconst hc dX11_granary_39 ?_
      exact j_zret hc he dX11_granary_40 rfl (by omega) (by omega) (by first | exact Or.inl rfl | exact Or.inr rfl) ⟨_, rfl, by rw [if_neg (by omega)], by rw [if_neg (by omega)]; exact hMo, Fr.rf _ _⟩
    · have zw2 := one_pos zc2
      refine j_iload_n hc dX11_granary_18 rfl ?_
      refine j_iload_n hc dX11_granary_19 rfl ?_
      refine j_bipush hc dX11_granary_20 (by decide) ?_
      refine j_callS (d' := d - 1) hc dX11_granary_22 sX11_145 (ev_X11_in (by omega) his hib ⟨by omega, by omega⟩) rfl (by omega) (by omega) (by omega) rfl rfl (Nat.le_of_ble_eq_true rfl) (ret1 ?_)
      refine j_if_eq (b := 0) (tgt := 39) hc dX11_granary_25 (by decide) (by split <;> exact ⟨by omega, by omega⟩) (fun zc3 => ?_) (fun zc3 => ?_)
      · have zw5 := one_neg zc3
        refine j_iconst hc dX11_granary_39 ?_
        exact j_zret hc he dX11_granary_40 rfl (by omega) (by omega) (by first | exact Or.inl rfl | exact Or.inr rfl) ⟨_, rfl, by rw [if_neg (by omega)], by rw [if_neg (by omega)]; exact hMo, Fr.rf _ _⟩
      · have zw3 := one_pos zc3
        refine j_iload hc dX11_granary_28 rfl ?_
        refine j_iconst hc dX11_granary_30 ?_
        refine j_bipush hc dX11_granary_31 (by decide) ?_
        refine j_callS (d' := d - 1) hc dX11_granary_33 sX11_145 (ev_X11_in (by omega) hir ⟨by omega, by omega⟩ ⟨by omega, by omega⟩) rfl (by omega) (by omega) (by omega) rfl rfl (Nat.le_of_ble_eq_true rfl) (ret1 ?_)
        refine j_if_ne (b := 0) (tgt := 41) hc dX11_granary_36 (by decide) (by split <;> exact ⟨by omega, by omega⟩) (fun zc4 => ?_) (fun zc4 => ?_)
        · have zw4 := one_pos zc4
          refine j_aload_n hc dX11_granary_41 rfl ?_
          refine j_get hc dX11_granary_42 fX11_52 hS.1 rfl ?_
          refine j_iload_n hc dX11_granary_45 rfl ?_
          refine j_iload_n hc dX11_granary_46 rfl ?_
          refine j_iast hc dX11_granary_47 hS.2.2.2.2.2.2.2.2.2.2.2.2.2.2.2.1 (by omega) (by omega) ?_
          generalize ezh1 : up _ _ _ = zh1
          have zzmod_zh1 := MdS.pa_19 ezh1 hS
          have zzmob_zh1 := MoB.mv ezh1 (by simp) hB
          have zzmox_zh1 := MoX.mv ezh1 (by simp) hX
          refine j_aload_n hc dX11_granary_48 rfl ?_
          refine j_get hc dX11_granary_49 fX11_55 zzmod_zh1.1 rfl ?_
          refine j_iload_n hc dX11_granary_52 rfl ?_
          refine j_iload_n hc dX11_granary_53 rfl ?_
          refine j_iast hc dX11_granary_54 zzmod_zh1.2.2.2.2.2.2.2.2.2.2.2.2.2.2.2.2.1 (by omega) (by omega) ?_
          generalize ezh2 : up _ _ _ = zh2
          have zzmod_zh2 := MdS.pa_20 ezh2 zzmod_zh1
          have zzmob_zh2 := MoB.mv ezh2 (by simp) zzmob_zh1
          have zzmox_zh2 := MoX.mv ezh2 (by simp) zzmox_zh1
          refine j_aload_n hc dX11_granary_55 rfl ?_
          refine j_get hc dX11_granary_56 fX11_58 zzmod_zh2.1 rfl ?_
          refine j_iload_n hc dX11_granary_59 rfl ?_
          refine j_iload hc dX11_granary_60 rfl ?_
          refine j_iast hc dX11_granary_62 zzmod_zh2.2.2.2.2.2.2.2.2.2.2.2.2.2.2.2.2.2.1 (by omega) (by omega) ?_
          generalize ezh3 : up _ _ _ = zh3
          have zzmod_zh3 := MdS.pa_21 ezh3 zzmod_zh2
          have zzmob_zh3 := MoB.mv ezh3 (by simp) zzmob_zh2
          have zzmox_zh3 := MoX.mv ezh3 (by simp) zzmox_zh2
          refine j_iconst hc dX11_granary_63 ?_
          exact j_zret hc he dX11_granary_64 rfl (by omega) (by omega) (by first | exact Or.inl rfl | exact Or.inr rfl) ⟨_, rfl, by rw [if_pos (⟨zw1, ⟨by omega, by omega⟩, ⟨by omega, by omega⟩, by omega, by omega⟩)], by rw [if_pos (⟨zw1, ⟨by omega, by omega⟩, ⟨by omega, by omega⟩, by omega, by omega⟩)] at hK' ⊢; exact ⟨_, _, zzmod_zh3, MoR.yE hR zw1 kL1 rfl rfl rfl rfl rfl rfl rfl rfl rfl rfl rfl rfl rfl rfl rfl rfl (fun j _ _ hj => ⟨rfl, rfl, fu_ne hj, fu_ne hj, fu_ne hj, fun _ _ _ => rfl⟩) ⟨mLa, mRn, fu_same _ _ _, fu_same _ _ _, fu_same _ _ _, mTb⟩, zzmob_zh3, zzmox_zh3, hK'⟩, (by rw [← ezh3, ← ezh2, ← ezh1]; exact (((Fr.rf _ _).push (by first | exact Or.inl rfl | exact Or.inr (by decide))).push (by first | exact Or.inl rfl | exact Or.inr (by decide))).push (by first | exact Or.inl rfl | exact Or.inr (by decide)))⟩
        · have zw5 := one_neg zc4
          refine j_iconst hc dX11_granary_39 ?_
          exact j_zret hc he dX11_granary_40 rfl (by omega) (by omega) (by first | exact Or.inl rfl | exact Or.inr rfl) ⟨_, rfl, by rw [if_neg (by omega)], by rw [if_neg (by omega)]; exact hMo, Fr.rf _ _⟩
set_option maxRecDepth 100000 in
set_option maxHeartbeats 4000000 in
theorem ev_X11_tell_a {k : WC} {d : Nat} {h : AH} {S : BaS} {th : Int} {l q a x : Int} (hd : 8 ≤ d) (hMo : ModAt h S th) (hil : inI l) (his : inI q) (hia : inI a) (hix : inI x) (hK' : BOK (if laV S l 1 q a ∧ 0 ≤ x ∧ x ≤ min a 20 then sE S l (eTab (bE S l) (q * 41 + a) x) else S)) : Ev k d mdX11_tell h [vR (70, 0), vI l, vI q, vI a, vI x] 0 0 (pe fun v h' => v = vI (if laV S l 1 q a ∧ 0 ≤ x ∧ x ≤ min a 20 then 1 else 0) ∧ ModAt h' (if laV S l 1 q a ∧ 0 ≤ x ∧ x ≤ min a 20 then sE S l (eTab (bE S l) (q * 41 + a) x) else S) th ∧ Fr isMo h h') := by
  obtain ⟨s, A, hS, hR, hB, hX, hK⟩ := id hMo
  obtain ⟨m0, m2, m22, m27, m44, m45, m46, mTp, mLd, mRu, mRw, mFr⟩ := id hR
  obtain ⟨⟨kTa, kTb⟩, ⟨kL0, kL1⟩, ⟨kR0, kR1⟩, kLd, kRu, kRw, ⟨kT0, kT1⟩, kS0, kS1⟩ := id hK
  refine Ev.mk (by decide +kernel) [_, _, _, _, _] rfl (Nat.le_of_ble_eq_true rfl) (fun w hc he => ?_)
  refine j_aload_n hc dX11_tell_0 rfl ?_
  refine j_iload_n hc dX11_tell_1 rfl ?_
  refine j_iload_n hc dX11_tell_2 rfl ?_
  refine j_callV (d' := d - 1) hc dX11_tell_3 vX11_265 hS.1 (ev_X11_isSeason (by omega) hS hR hK hil his) rfl (by omega) (by omega) (by omega) rfl rfl (Nat.le_of_ble_eq_true rfl) (ret1 ?_)
  refine j_if_eq (b := 0) (tgt := 34) hc dX11_tell_6 (by decide) (by split <;> exact ⟨by omega, by omega⟩) (fun zc1 => ?_) (fun zc1 => ?_)
  · have zw5 := one_neg zc1
    refine j_iconst hc dX11_tell_34 ?_
    exact j_zret hc he dX11_tell_35 rfl (by omega) (by omega) (by first | exact Or.inl rfl | exact Or.inr rfl) ⟨_, rfl, by rw [if_neg (by omega)], by rw [if_neg (by omega)]; exact hMo, Fr.rf _ _⟩
  · have zs := one_pos zc1
    have zw1 := zs.1
    obtain ⟨hD, hE, hrn, hyo⟩ := kLd l zw1.1 zw1.2
    have hM := mLd l zw1.1 zw1.2
    obtain ⟨⟨zl0, zl1⟩, mSe, mNe, mPa, mCo, mMi, mRo, mLa, mRn, mHv, mBu, mSl, mGr, mTb⟩ := id hM
    obtain ⟨d1, d2, d3, d4, d5, d6, d7, d8, d9, d10, d11, d12, d13⟩ := id hD
    obtain ⟨y1, y2, y3, y4, y5, y6, y7, y8, y9, y10⟩ := id hE
    have hW := fun k => ru_of (k := k) (l := l) hR hK zw1
    have hWb := fun k => ru_of (k := k) (l := l) (MoR.s37 (l := l) (c := lCo (bD S l)) hR) hK zw1
    refine j_iload_n hc dX11_tell_9 rfl ?_
    refine j_iconst hc dX11_tell_10 ?_
    refine j_bipush hc dX11_tell_11 (by decide) ?_
    refine j_callS (d' := d - 1) hc dX11_tell_13 sX11_145 (ev_X11_in (by omega) hia ⟨by omega, by omega⟩ ⟨by omega, by omega⟩) rfl (by omega) (by omega) (by omega) rfl rfl (Nat.le_of_ble_eq_true rfl) (ret1 ?_)
    refine j_if_eq (b := 0) (tgt := 34) hc dX11_tell_16 (by decide) (by split <;> exact ⟨by omega, by omega⟩) (fun zc2 => ?_) (fun zc2 => ?_)
    · have zw5 := one_neg zc2
      refine j_iconst hc dX11_tell_34 ?_
      exact j_zret hc he dX11_tell_35 rfl (by omega) (by omega) (by first | exact Or.inl rfl | exact Or.inr rfl) ⟨_, rfl, by rw [if_neg (by omega)], by rw [if_neg (by omega)]; exact hMo, Fr.rf _ _⟩
    · have zw2 := one_pos zc2
      refine j_iload hc dX11_tell_19 rfl ?_
      refine j_iconst hc dX11_tell_21 ?_
      refine j_iload_n hc dX11_tell_22 rfl ?_
      refine j_bipush hc dX11_tell_23 (by decide) ?_
      refine j_mmin hc dX11_tell_25 mX11_169 mo_min hia ⟨by omega, by omega⟩ (by omega) (by omega) rfl (by omega) (Nat.le_of_ble_eq_true rfl) ?_
      refine j_callS (d' := d - 1) hc dX11_tell_28 sX11_145 (ev_X11_in (by omega) hix ⟨by omega, by omega⟩ ⟨by omega, by omega⟩) rfl (by omega) (by omega) (by omega) rfl rfl (Nat.le_of_ble_eq_true rfl) (ret1 ?_)
      refine j_if_ne (b := 0) (tgt := 36) hc dX11_tell_31 (by decide) (by split <;> exact ⟨by omega, by omega⟩) (fun zc3 => ?_) (fun zc3 => ?_)
      · have zw3 := one_pos zc3
        refine j_aload_n hc dX11_tell_36 rfl ?_
        refine j_get hc dX11_tell_37 fX11_49 hS.1 rfl ?_
        refine j_bipush hc dX11_tell_40 (by decide) ?_
        refine j_iconst hc dX11_tell_42 ?_
        refine j_iload_n hc dX11_tell_43 rfl ?_
        refine j_imul hc dX11_tell_44 ?_
        refine j_iload_n hc dX11_tell_45 rfl ?_
        refine j_iadd hc dX11_tell_46 ?_
        refine j_imul hc dX11_tell_47 ?_
        refine j_iload_n hc dX11_tell_48 rfl ?_
        refine j_iadd hc dX11_tell_49 ?_
        refine j_iload hc dX11_tell_50 rfl ?_
        refine j_iast hc dX11_tell_52 hS.2.2.2.2.2.2.2.2.2.2.2.2.2.2.1 (by omega) (by omega) ?_
        generalize ezh1 : up _ _ _ = zh1
        have zzmod_zh1 := MdS.pa_18 ezh1 hS
        have zzmob_zh1 := MoB.mv ezh1 (by simp) hB
        have zzmox_zh1 := MoX.mv ezh1 (by simp) hX
        refine j_iconst hc dX11_tell_53 ?_
        exact j_zret hc he dX11_tell_54 rfl (by omega) (by omega) (by first | exact Or.inl rfl | exact Or.inr rfl) ⟨_, rfl, by rw [if_pos (⟨⟨zw1, ⟨by omega, by omega⟩, zs.2, zw2⟩, zw3⟩)], by rw [if_pos (⟨⟨zw1, ⟨by omega, by omega⟩, zs.2, zw2⟩, zw3⟩)] at hK' ⊢; exact ⟨_, _, zzmod_zh1, MoR.yE hR zw1 kL1 rfl rfl rfl rfl rfl rfl rfl rfl rfl rfl rfl rfl rfl rfl rfl rfl (fun j j0 j1 hj => ⟨rfl, rfl, rfl, rfl, rfl, fun i i0 i1 => fu_ne (by omega)⟩) ⟨mLa, mRn, mBu, mSl, mGr, fun i i0 i1 => (by by_cases e : i = q * 41 + a; (· rw [e]; show fu _ _ _ (164 * l + (q * 41 + a)) = fu _ _ _ _; rw [show 164 * l + (q * 41 + a) = 41 * (4 * l + q) + a by omega, fu_same, fu_same]); exact (fu_ne (by omega)).trans ((mTb i i0 i1).trans (fu_ne e).symm))⟩, zzmob_zh1, zzmox_zh1, hK'⟩, (by rw [← ezh1]; exact (Fr.rf _ _).push (by first | exact Or.inl rfl | exact Or.inr (by decide)))⟩
      · have zw5 := one_neg zc3
        refine j_iconst hc dX11_tell_34 ?_
        exact j_zret hc he dX11_tell_35 rfl (by omega) (by omega) (by first | exact Or.inl rfl | exact Or.inr rfl) ⟨_, rfl, by rw [if_neg (by omega)], by rw [if_neg (by omega)]; exact hMo, Fr.rf _ _⟩
theorem MoR.rw {s : Int → Int} {A A' : MAs} {S : BaS} {th : Int} {rw : Int → Int → Int} {rl : Int → Int} (hR : MoR s A S th) (e1 : A' 1 = A 1) (e6 : A' 6 = A 6) (e7 : A' 7 = A 7) (e8 : A' 8 = A 8) (e10 : A' 10 = A 10) (e11 : A' 11 = A 11) (e12 : A' 12 = A 12) (e13 : A' 13 = A 13) (e14 : A' 14 = A 14) (e15 : A' 15 = A 15) (e23 : A' 23 = A 23) (e24 : A' 24 = A 24) (e25 : A' 25 = A 25) (e26 : A' 26 = A 26) (e16 : A' 16 = A 16) (e17 : A' 17 = A 17) (e18 : A' 18 = A 18) (e19 : A' 19 = A 19) (e20 : A' 20 = A 20) (e21 : A' 21 = A 21) (ha : ∀ r : Int, 0 ≤ r → r ≤ 1 → A' 42 r = rl r ∧ ∀ x : Int, 0 ≤ x → x < 40 → A' 41 (40 * r + x) = rw r x) : MoR s A' (sRw S rw rl) th := by
  obtain ⟨m0, m2, m22, m27, m44, m45, m46, mTp, mLd, mRu, mRw, mFr⟩ := hR
  refine ⟨m0, m2, m22, m27, m44, m45, m46, fun i h0 h1 => by rw [e1]; exact mTp i h0 h1, fun j h0 h1 => ?_, fun r h0 h1 => ⟨((mRu r h0 h1).1).ch e23 e24 e25 e26, (mRu r h0 h1).2⟩, ha, fun j h0 h1 => by rw [e16, e17, e18, e19, e20, e21]; exact mFr j h0 h1⟩
  unfold MlD
  rw [e6, e7, e8, e10, e11, e12, e13, e14, e15, e16, e17, e18, e19, e20, e21]
  exact mLd j h0 h1
set_option maxRecDepth 100000 in
set_option maxHeartbeats 4000000 in
theorem ev_X11_row_a {k : WC} {d : Nat} {h : AH} {S : BaS} {th : Int} {r x : Int} (hd : 8 ≤ d) (hMo : ModAt h S th) (hir : inI r) (hix : inI x) (hK' : BOK (if (0 ≤ r ∧ r ≤ 1) ∧ (0 ≤ x ∧ x ≤ 20) ∧ bRl S r < 40 then sRw S (fu2 (bRw S) r (fu (bRw S r) (bRl S r) x)) (fu (bRl S) r (bRl S r + 1)) else S)) : Ev k d mdX11_row h [vR (70, 0), vI r, vI x] 0 0 (pe fun v h' => v = vI (if (0 ≤ r ∧ r ≤ 1) ∧ (0 ≤ x ∧ x ≤ 20) ∧ bRl S r < 40 then bRl S r + 1 else -1) ∧ ModAt h' (if (0 ≤ r ∧ r ≤ 1) ∧ (0 ≤ x ∧ x ≤ 20) ∧ bRl S r < 40 then sRw S (fu2 (bRw S) r (fu (bRw S r) (bRl S r) x)) (fu (bRl S) r (bRl S r + 1)) else S) th ∧ Fr isMo h h') := by
  obtain ⟨s, A, hS, hR, hB, hX, hK⟩ := id hMo
  obtain ⟨m0, m2, m22, m27, m44, m45, m46, mTp, mLd, mRu, mRw, mFr⟩ := id hR
  obtain ⟨⟨kTa, kTb⟩, ⟨kL0, kL1⟩, ⟨kR0, kR1⟩, kLd, kRu, kRw, ⟨kT0, kT1⟩, kS0, kS1⟩ := id hK
  refine Ev.mk (by decide +kernel) [_, _, _] rfl (Nat.le_of_ble_eq_true rfl) (fun w hc he => ?_)
  refine j_iload_n hc dX11_row_0 rfl ?_
  refine j_iconst hc dX11_row_1 ?_
  refine j_iconst hc dX11_row_2 ?_
  refine j_callS (d' := d - 1) hc dX11_row_3 sX11_145 (ev_X11_in (by omega) hir ⟨by omega, by omega⟩ ⟨by omega, by omega⟩) rfl (by omega) (by omega) (by omega) rfl rfl (Nat.le_of_ble_eq_true rfl) (ret1 ?_)
  refine j_if_eq (b := 0) (tgt := 30) hc dX11_row_6 (by decide) (by split <;> exact ⟨by omega, by omega⟩) (fun zc1 => ?_) (fun zc1 => ?_)
  · have zw5 := one_neg zc1
    refine j_iconst hc dX11_row_30 ?_
    exact j_iret hc he dX11_row_31 rfl (by omega) (by omega) ⟨_, rfl, by rw [if_neg (by omega)], by rw [if_neg (by omega)]; exact hMo, Fr.rf _ _⟩
  · have zw2 := one_pos zc1
    refine j_iload_n hc dX11_row_9 rfl ?_
    refine j_iconst hc dX11_row_10 ?_
    refine j_bipush hc dX11_row_11 (by decide) ?_
    refine j_callS (d' := d - 1) hc dX11_row_13 sX11_145 (ev_X11_in (by omega) hix ⟨by omega, by omega⟩ ⟨by omega, by omega⟩) rfl (by omega) (by omega) (by omega) rfl rfl (Nat.le_of_ble_eq_true rfl) (ret1 ?_)
    refine j_if_eq (b := 0) (tgt := 30) hc dX11_row_16 (by decide) (by split <;> exact ⟨by omega, by omega⟩) (fun zc2 => ?_) (fun zc2 => ?_)
    · have zw5 := one_neg zc2
      refine j_iconst hc dX11_row_30 ?_
      exact j_iret hc he dX11_row_31 rfl (by omega) (by omega) ⟨_, rfl, by rw [if_neg (by omega)], by rw [if_neg (by omega)]; exact hMo, Fr.rf _ _⟩
    · have zw3 := one_pos zc2
      refine j_aload_n hc dX11_row_19 rfl ?_
      refine j_get hc dX11_row_20 fX11_105 hS.1 rfl ?_
      refine j_iload_n hc dX11_row_23 rfl ?_
      refine j_iald hc dX11_row_24 hS.2.2.2.2.2.2.2.2.2.2.2.2.2.2.2.2.2.2.2.2.2.2.2 (by omega) (by omega) ?_
      obtain ⟨zq1, zq2⟩ := mRw r zw2.1 zw2.2
      obtain ⟨zq3, zq4, zq5⟩ := kRw r zw2.1 zw2.2
      rw [zq1]
      refine j_bipush hc dX11_row_25 (by decide) ?_
      refine j_icmp_ne (tgt := 32) hc dX11_row_27 (by decide) ⟨by omega, by omega⟩ ⟨by omega, by omega⟩ (fun zc3 => ?_) (fun zc3 => ?_)
      · refine j_aload_n hc dX11_row_32 rfl ?_
        refine j_get hc dX11_row_33 fX11_102 hS.1 rfl ?_
        refine j_bipush hc dX11_row_36 (by decide) ?_
        refine j_iload_n hc dX11_row_38 rfl ?_
        refine j_imul hc dX11_row_39 ?_
        refine j_aload_n hc dX11_row_40 rfl ?_
        refine j_get hc dX11_row_41 fX11_105 hS.1 rfl ?_
        refine j_iload_n hc dX11_row_44 rfl ?_
        refine j_iald hc dX11_row_45 hS.2.2.2.2.2.2.2.2.2.2.2.2.2.2.2.2.2.2.2.2.2.2.2 (by omega) (by omega) ?_
        rw [zq1]
        refine j_iadd hc dX11_row_46 ?_
        refine j_iload_n hc dX11_row_47 rfl ?_
        refine j_iast hc dX11_row_48 hS.2.2.2.2.2.2.2.2.2.2.2.2.2.2.2.2.2.2.2.2.2.2.1 (by omega) (by omega) ?_
        generalize ezh1 : up _ _ _ = zh1
        have zzmod_zh1 := MdS.pa_41 ezh1 hS
        have zzmob_zh1 := MoB.mv ezh1 (by simp) hB
        have zzmox_zh1 := MoX.mv ezh1 (by simp) hX
        refine j_aload_n hc dX11_row_49 rfl ?_
        refine j_get hc dX11_row_50 fX11_105 zzmod_zh1.1 rfl ?_
        refine j_iload_n hc dX11_row_53 rfl ?_
        refine j_dup2 hc dX11_row_54 rfl rfl ?_
        refine j_iald hc dX11_row_55 zzmod_zh1.2.2.2.2.2.2.2.2.2.2.2.2.2.2.2.2.2.2.2.2.2.2.2 (by omega) (by omega) ?_
        rw [show fuA _ 41 _ 42 = A 42 from rfl, zq1]
        refine j_iconst hc dX11_row_56 ?_
        refine j_iadd hc dX11_row_57 ?_
        refine j_iast hc dX11_row_58 zzmod_zh1.2.2.2.2.2.2.2.2.2.2.2.2.2.2.2.2.2.2.2.2.2.2.2 (by omega) (by omega) ?_
        generalize ezh2 : up _ _ _ = zh2
        have zzmod_zh2 := MdS.pa_42 ezh2 zzmod_zh1
        have zzmob_zh2 := MoB.mv ezh2 (by simp) zzmob_zh1
        have zzmox_zh2 := MoX.mv ezh2 (by simp) zzmox_zh1
        refine j_aload_n hc dX11_row_59 rfl ?_
        refine j_get hc dX11_row_60 fX11_105 zzmod_zh2.1 rfl ?_
        refine j_iload_n hc dX11_row_63 rfl ?_
        refine j_iald hc dX11_row_64 zzmod_zh2.2.2.2.2.2.2.2.2.2.2.2.2.2.2.2.2.2.2.2.2.2.2.2 (by omega) (by omega) ?_
        exact j_iret hc he dX11_row_65 rfl (by omega) (by omega) ⟨_, rfl, by rw [if_pos ⟨zw2, zw3, by omega⟩]; exact congrArg vI (fu_same _ _ _), by rw [if_pos (⟨zw2, zw3, by omega⟩)] at hK' ⊢; exact ⟨_, _, zzmod_zh2, MoR.rw hR rfl rfl rfl rfl rfl rfl rfl rfl rfl rfl rfl rfl rfl rfl rfl rfl rfl rfl rfl rfl (fun r2 r0 r1 => (by refine ⟨?_, fun y y0 y1 => ?_⟩; (· show fu _ _ _ _ = fu _ _ _ _; by_cases e : r2 = r; (· rw [e, fu_same, fu_same]); rw [fu_ne e, fu_ne e]; exact (mRw r2 r0 r1).1); show fu _ _ _ _ = fu2 _ _ _ _ _; by_cases e : r2 = r; (· subst e; rw [show fu2 (bRw S) r2 (fu (bRw S r2) (bRl S r2) x) r2 = fu (bRw S r2) (bRl S r2) x from if_pos rfl]; by_cases e2 : y = bRl S r2; (· rw [e2, fu_same, fu_same]); rw [fu_ne (by omega), fu_ne e2]; exact (mRw r2 r0 r1).2 y y0 y1); rw [show fu2 (bRw S) r (fu (bRw S r) (bRl S r) x) r2 = bRw S r2 from if_neg e, fu_ne (by omega)]; exact (mRw r2 r0 r1).2 y y0 y1)), zzmob_zh2, zzmox_zh2, hK'⟩, (by rw [← ezh2, ← ezh1]; exact ((Fr.rf _ _).push (by first | exact Or.inl rfl | exact Or.inr (by decide))).push (by first | exact Or.inl rfl | exact Or.inr (by decide)))⟩
      · refine j_iconst hc dX11_row_30 ?_
        exact j_iret hc he dX11_row_31 rfl (by omega) (by omega) ⟨_, rfl, by rw [if_neg (by omega)], by rw [if_neg (by omega)]; exact hMo, Fr.rf _ _⟩
set_option maxRecDepth 100000 in
set_option maxHeartbeats 4000000 in
theorem ev_X11_clear_a {k : WC} {d : Nat} {h : AH} {S : BaS} {th : Int} {r : Int} (hd : 8 ≤ d) (hMo : ModAt h S th) (hir : inI r) (hK' : BOK (if 0 ≤ r ∧ r ≤ 1 then sRw S (bRw S) (fu (bRl S) r 0) else S)) : Ev k d mdX11_clear h [vR (70, 0), vI r] 0 0 (pe fun v h' => v = vI (if 0 ≤ r ∧ r ≤ 1 then bRl S r else -1) ∧ ModAt h' (if 0 ≤ r ∧ r ≤ 1 then sRw S (bRw S) (fu (bRl S) r 0) else S) th ∧ Fr isMo h h') := by
  obtain ⟨s, A, hS, hR, hB, hX, hK⟩ := id hMo
  obtain ⟨m0, m2, m22, m27, m44, m45, m46, mTp, mLd, mRu, mRw, mFr⟩ := id hR
  obtain ⟨⟨kTa, kTb⟩, ⟨kL0, kL1⟩, ⟨kR0, kR1⟩, kLd, kRu, kRw, ⟨kT0, kT1⟩, kS0, kS1⟩ := id hK
  refine Ev.mk (by decide +kernel) [_, _, _] rfl (Nat.le_of_ble_eq_true rfl) (fun w hc he => ?_)
  refine j_iload_n hc dX11_clear_0 rfl ?_
  refine j_iconst hc dX11_clear_1 ?_
  refine j_iconst hc dX11_clear_2 ?_
  refine j_callS (d' := d - 1) hc dX11_clear_3 sX11_145 (ev_X11_in (by omega) hir ⟨by omega, by omega⟩ ⟨by omega, by omega⟩) rfl (by omega) (by omega) (by omega) rfl rfl (Nat.le_of_ble_eq_true rfl) (ret1 ?_)
  refine j_if_ne (b := 0) (tgt := 11) hc dX11_clear_6 (by decide) (by split <;> exact ⟨by omega, by omega⟩) (fun zc1 => ?_) (fun zc1 => ?_)
  · have zw2 := one_pos zc1
    refine j_aload_n hc dX11_clear_11 rfl ?_
    refine j_get hc dX11_clear_12 fX11_105 hS.1 rfl ?_
    refine j_iload_n hc dX11_clear_15 rfl ?_
    refine j_iald hc dX11_clear_16 hS.2.2.2.2.2.2.2.2.2.2.2.2.2.2.2.2.2.2.2.2.2.2.2 (by omega) (by omega) ?_
    rw [(mRw r zw2.1 zw2.2).1]
    refine j_istore_n (L' := [_, _, _]) hc dX11_clear_17 (Nat.le_of_ble_eq_true rfl) rfl ?_
    refine j_aload_n hc dX11_clear_18 rfl ?_
    refine j_get hc dX11_clear_19 fX11_105 hS.1 rfl ?_
    refine j_iload_n hc dX11_clear_22 rfl ?_
    refine j_iconst hc dX11_clear_23 ?_
    refine j_iast hc dX11_clear_24 hS.2.2.2.2.2.2.2.2.2.2.2.2.2.2.2.2.2.2.2.2.2.2.2 (by omega) (by omega) ?_
    generalize ezh1 : up _ _ _ = zh1
    have zzmod_zh1 := MdS.pa_42 ezh1 hS
    have zzmob_zh1 := MoB.mv ezh1 (by simp) hB
    have zzmox_zh1 := MoX.mv ezh1 (by simp) hX
    refine j_iload_n hc dX11_clear_25 rfl ?_
    exact j_iret hc he dX11_clear_26 rfl (by omega) (by omega) ⟨_, rfl, by rw [if_pos (zw2)], by rw [if_pos (zw2)] at hK' ⊢; exact ⟨_, _, zzmod_zh1, MoR.rw hR rfl rfl rfl rfl rfl rfl rfl rfl rfl rfl rfl rfl rfl rfl rfl rfl rfl rfl rfl rfl (fun r2 r0 r1 => ⟨(by show fu _ _ _ _ = fu _ _ _ _; by_cases e : r2 = r; (· rw [e, fu_same, fu_same]); rw [fu_ne e, fu_ne e]; exact (mRw r2 r0 r1).1), (mRw r2 r0 r1).2⟩), zzmob_zh1, zzmox_zh1, hK'⟩, (by rw [← ezh1]; exact (Fr.rf _ _).push (by first | exact Or.inl rfl | exact Or.inr (by decide)))⟩
  · have zw5 := one_neg zc1
    refine j_iconst hc dX11_clear_9 ?_
    exact j_iret hc he dX11_clear_10 rfl (by omega) (by omega) ⟨_, rfl, by rw [if_neg (by omega)], by rw [if_neg (by omega)]; exact hMo, Fr.rf _ _⟩
theorem MoR.tp {s : Int → Int} {A A' : MAs} {S : BaS} {th : Int} {t : (Int → Int) × Int} (hR : MoR s A S th) (e6 : A' 6 = A 6) (e7 : A' 7 = A 7) (e8 : A' 8 = A 8) (e10 : A' 10 = A 10) (e11 : A' 11 = A 11) (e12 : A' 12 = A 12) (e13 : A' 13 = A 13) (e14 : A' 14 = A 14) (e15 : A' 15 = A 15) (e23 : A' 23 = A 23) (e24 : A' 24 = A 24) (e25 : A' 25 = A 25) (e26 : A' 26 = A 26) (e41 : A' 41 = A 41) (e42 : A' 42 = A 42) (e16 : A' 16 = A 16) (e17 : A' 17 = A 17) (e18 : A' 18 = A 18) (e19 : A' 19 = A 19) (e20 : A' 20 = A 20) (e21 : A' 21 = A 21) (ha : ∀ i : Int, 0 ≤ i → i < t.2 → A' 1 i = t.1 i) : MoR (fu s 2 t.2) A' (sTp S t) th := by
  obtain ⟨m0, m2, m22, m27, m44, m45, m46, mTp, mLd, mRu, mRw, mFr⟩ := hR
  refine ⟨m0, fu_same _ _ _, m22, m27, m44, m45, m46, ha, fun j h0 h1 => ?_, fun r h0 h1 => ⟨((mRu r h0 h1).1).ch e23 e24 e25 e26, (mRu r h0 h1).2⟩, fun r h0 h1 => by rw [e41, e42]; exact mRw r h0 h1, fun j h0 h1 => by rw [e16, e17, e18, e19, e20, e21]; exact mFr j h0 h1⟩
  unfold MlD
  rw [e6, e7, e8, e10, e11, e12, e13, e14, e15, e16, e17, e18, e19, e20, e21]
  exact mLd j h0 h1
set_option maxRecDepth 100000 in
set_option maxHeartbeats 4000000 in
theorem ev_X11_end_a {k : WC} {d : Nat} {h : AH} {S : BaS} {th : Int} {x : Int} (hd : 8 ≤ d) (hMo : ModAt h S th) (hix : inI x) (hK' : BOK (if 0 ≤ x ∧ x ≤ bN S then sTp S (bB S, x) else S)) : Ev k d mdX11_end h [vR (70, 0), vI x] 0 0 (pe fun v h' => v = vI (if 0 ≤ x ∧ x ≤ bN S then 1 else 0) ∧ ModAt h' (if 0 ≤ x ∧ x ≤ bN S then sTp S (bB S, x) else S) th ∧ Fr isMo h h') := by
  obtain ⟨s, A, hS, hR, hB, hX, hK⟩ := id hMo
  obtain ⟨m0, m2, m22, m27, m44, m45, m46, mTp, mLd, mRu, mRw, mFr⟩ := id hR
  obtain ⟨⟨kTa, kTb⟩, ⟨kL0, kL1⟩, ⟨kR0, kR1⟩, kLd, kRu, kRw, ⟨kT0, kT1⟩, kS0, kS1⟩ := id hK
  refine Ev.mk (by decide +kernel) [_, _] rfl (Nat.le_of_ble_eq_true rfl) (fun w hc he => ?_)
  refine j_iload_n hc dX11_end_0 rfl ?_
  refine j_if_lt (b := 0) (tgt := 12) hc dX11_end_1 (by decide) hix (fun zc1 => ?_) (fun zc1 => ?_)
  · refine j_iconst hc dX11_end_12 ?_
    exact j_zret hc he dX11_end_13 rfl (by omega) (by omega) (by first | exact Or.inl rfl | exact Or.inr rfl) ⟨_, rfl, by rw [if_neg (by omega)], by rw [if_neg (by omega)]; exact hMo, Fr.rf _ _⟩
  · refine j_iload_n hc dX11_end_4 rfl ?_
    refine j_aload_n hc dX11_end_5 rfl ?_
    refine j_get hc dX11_end_6 fX11_122 hS.1 rfl ?_
    rw [m2]
    refine j_icmp_le (tgt := 14) hc dX11_end_9 (by decide) hix (by exact ⟨by omega, by omega⟩) (fun zc2 => ?_) (fun zc2 => ?_)
    · refine j_aload_n hc dX11_end_14 rfl ?_
      refine j_iload_n hc dX11_end_15 rfl ?_
      refine j_put  hc dX11_end_16 pX11_122 hS.1 rfl mset_2 ?_
      generalize ezh1 : up _ _ _ = zh1
      have zzmod_zh1 := MdS.pf ezh1 hS
      have zzmob_zh1 := MoB.mv ezh1 (by simp) hB
      have zzmox_zh1 := MoX.mv ezh1 (by simp) hX
      refine j_iconst hc dX11_end_19 ?_
      exact j_zret hc he dX11_end_20 rfl (by omega) (by omega) (by first | exact Or.inl rfl | exact Or.inr rfl) ⟨_, rfl, by rw [if_pos (⟨by omega, by omega⟩)], by rw [if_pos (⟨by omega, by omega⟩)] at hK' ⊢; exact ⟨_, _, zzmod_zh1, MoR.tp (t := (bB S, x)) hR rfl rfl rfl rfl rfl rfl rfl rfl rfl rfl rfl rfl rfl rfl rfl rfl rfl rfl rfl rfl rfl (fun i h0 h1 => mTp i h0 (by dsimp only at h1; omega)), zzmob_zh1, zzmox_zh1, hK'⟩, (by rw [← ezh1]; exact (Fr.rf _ _).push (by first | exact Or.inl rfl | exact Or.inr (by decide)))⟩
    · refine j_iconst hc dX11_end_12 ?_
      exact j_zret hc he dX11_end_13 rfl (by omega) (by omega) (by first | exact Or.inl rfl | exact Or.inr rfl) ⟨_, rfl, by rw [if_neg (by omega)], by rw [if_neg (by omega)]; exact hMo, Fr.rf _ _⟩
set_option maxRecDepth 100000 in
set_option maxHeartbeats 4000000 in
theorem ev_X11_spent {k : WC} {d : Nat} {h : AH} {S : BaS} {th : Int} (hd : 1 ≤ d) (hMo : ModAt h S th)  : Ev k d mdX11_spent h [vR (70, 0)] 0 0 (pr (vI (bSp S)) h) := by
  obtain ⟨s, A, hS, hR, hB, hX, hK⟩ := id hMo
  obtain ⟨m0, m2, m22, m27, m44, m45, m46, mTp, mLd, mRu, mRw, mFr⟩ := id hR
  obtain ⟨⟨kTa, kTb⟩, ⟨kL0, kL1⟩, ⟨kR0, kR1⟩, kLd, kRu, kRw, ⟨kT0, kT1⟩, kS0, kS1⟩ := id hK
  refine Ev.mk (by decide +kernel) [_] rfl (Nat.le_of_ble_eq_true rfl) (fun w hc he => ?_)
  refine j_aload_n hc dX11_spent_0 rfl ?_
  refine j_get hc dX11_spent_1 fX11_389 hS.1 rfl ?_
  rw [m46]
  exact j_iret hc he dX11_spent_4 rfl (by omega) (by omega) ⟨rfl, rfl⟩
set_option maxRecDepth 100000 in
set_option maxHeartbeats 4000000 in
theorem ev_X11_thrown {k : WC} {d : Nat} {h : AH} {S : BaS} {th : Int} (hd : 1 ≤ d) (hMo : ModAt h S th)  : Ev k d mdX11_thrown h [vR (70, 0)] 0 0 (pr (vI th) h) := by
  obtain ⟨s, A, hS, hR, hB, hX, hK⟩ := id hMo
  obtain ⟨m0, m2, m22, m27, m44, m45, m46, mTp, mLd, mRu, mRw, mFr⟩ := id hR
  obtain ⟨⟨kTa, kTb⟩, ⟨kL0, kL1⟩, ⟨kR0, kR1⟩, kLd, kRu, kRw, ⟨kT0, kT1⟩, kS0, kS1⟩ := id hK
  refine Ev.mk (by decide +kernel) [_] rfl (Nat.le_of_ble_eq_true rfl) (fun w hc he => ?_)
  refine j_aload_n hc dX11_thrown_0 rfl ?_
  refine j_get hc dX11_thrown_1 fX11_114 hS.1 rfl ?_
  rw [m0]
  exact j_iret hc he dX11_thrown_4 rfl (by omega) (by omega) ⟨rfl, rfl⟩
set_option maxRecDepth 100000 in
set_option maxHeartbeats 4000000 in
theorem ev_X11_count {k : WC} {d : Nat} {h : AH} {S : BaS} {th : Int} {wh : Int} (hd : 1 ≤ d) (hMo : ModAt h S th) (hiw : inI wh) : Ev k d mdX11_count h [vR (70, 0), vI wh] 0 0 (pr (vI (if wh = 0 then bLc S else if wh = 1 then bRc S else if wh = 2 then bRl S 0 else if wh = 3 then bRl S 1 else if wh = 4 then bN S else -1)) h) := by
  obtain ⟨s, A, hS, hR, hB, hX, hK⟩ := id hMo
  obtain ⟨m0, m2, m22, m27, m44, m45, m46, mTp, mLd, mRu, mRw, mFr⟩ := id hR
  obtain ⟨⟨kTa, kTb⟩, ⟨kL0, kL1⟩, ⟨kR0, kR1⟩, kLd, kRu, kRw, ⟨kT0, kT1⟩, kS0, kS1⟩ := id hK
  refine Ev.mk (by decide +kernel) [_, _] rfl (Nat.le_of_ble_eq_true rfl) (fun w hc he => ?_)
  refine j_iload_n hc dX11_count_0 rfl ?_
  rcases (by omega : (wh < 0 ∨ 4 < wh) ∨ wh = 0 ∨ wh = 1 ∨ wh = 2 ∨ wh = 3 ∨ wh = 4) with zc1 | zc1 | zc1 | zc1 | zc1 | zc1
  · refine j_tableOut (tgt := 65) hc dX11_count_1 hiw zc1 (by decide) ?_
    refine j_iconst hc dX11_count_65 ?_
    exact j_iret hc he dX11_count_66 rfl (by omega) (by omega) ⟨vI_eq (by (repeat (first | rw [if_pos (by omega)] | rw [if_neg (by omega)]))), rfl⟩
  · refine j_tableIn (tgt := 36) (off := 35) hc dX11_count_1 hiw (by omega) (by omega) (by rw [zc1]; rfl) (by decide) ?_
    refine j_aload_n hc dX11_count_36 rfl ?_
    refine j_get hc dX11_count_37 fX11_224 hS.1 rfl ?_
    rw [m22]
    exact j_iret hc he dX11_count_40 rfl (by omega) (by omega) ⟨vI_eq (by (repeat (first | rw [if_pos (by omega)] | rw [if_neg (by omega)]))), rfl⟩
  · refine j_tableIn (tgt := 41) (off := 40) hc dX11_count_1 hiw (by omega) (by omega) (by rw [zc1]; rfl) (by decide) ?_
    refine j_aload_n hc dX11_count_41 rfl ?_
    refine j_get hc dX11_count_42 fX11_227 hS.1 rfl ?_
    rw [m27]
    exact j_iret hc he dX11_count_45 rfl (by omega) (by omega) ⟨vI_eq (by (repeat (first | rw [if_pos (by omega)] | rw [if_neg (by omega)]))), rfl⟩
  · refine j_tableIn (tgt := 46) (off := 45) hc dX11_count_1 hiw (by omega) (by omega) (by rw [zc1]; rfl) (by decide) ?_
    refine j_aload_n hc dX11_count_46 rfl ?_
    refine j_get hc dX11_count_47 fX11_105 hS.1 rfl ?_
    refine j_iconst hc dX11_count_50 ?_
    refine j_iald hc dX11_count_51 hS.2.2.2.2.2.2.2.2.2.2.2.2.2.2.2.2.2.2.2.2.2.2.2 (by omega) (by omega) ?_
    rw [(mRw 0 (by omega) (by omega)).1]
    exact j_iret hc he dX11_count_52 rfl (by omega) (by omega) ⟨vI_eq (by (repeat (first | rw [if_pos (by omega)] | rw [if_neg (by omega)]))), rfl⟩
  · refine j_tableIn (tgt := 53) (off := 52) hc dX11_count_1 hiw (by omega) (by omega) (by rw [zc1]; rfl) (by decide) ?_
    refine j_aload_n hc dX11_count_53 rfl ?_
    refine j_get hc dX11_count_54 fX11_105 hS.1 rfl ?_
    refine j_iconst hc dX11_count_57 ?_
    refine j_iald hc dX11_count_58 hS.2.2.2.2.2.2.2.2.2.2.2.2.2.2.2.2.2.2.2.2.2.2.2 (by omega) (by omega) ?_
    rw [(mRw 1 (by omega) (by omega)).1]
    exact j_iret hc he dX11_count_59 rfl (by omega) (by omega) ⟨vI_eq (by (repeat (first | rw [if_pos (by omega)] | rw [if_neg (by omega)]))), rfl⟩
  · refine j_tableIn (tgt := 60) (off := 59) hc dX11_count_1 hiw (by omega) (by omega) (by rw [zc1]; rfl) (by decide) ?_
    refine j_aload_n hc dX11_count_60 rfl ?_
    refine j_get hc dX11_count_61 fX11_122 hS.1 rfl ?_
    rw [m2]
    exact j_iret hc he dX11_count_64 rfl (by omega) (by omega) ⟨vI_eq (by (repeat (first | rw [if_pos (by omega)] | rw [if_neg (by omega)]))), rfl⟩
