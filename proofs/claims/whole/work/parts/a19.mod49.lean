/-! ===== the reference: fault, land, rule ===== -/
theorem MoX.fq {h h' : AH} {S : BaS} (q : ∀ z : Nm, 239 ≤ z.1 → z.1 ≠ 241 → z.1 ≠ 242 → h' z = h z) (a : MoX h S) : MoX h' S := by
  obtain ⟨⟨f1, a1⟩, ⟨f2, a2⟩, ⟨f3, a3, b3⟩, f4, a4⟩ := a
  exact ⟨⟨f1, (q _ (by decide) (by decide) (by decide)).trans a1⟩, ⟨f2, (q _ (by decide) (by decide) (by decide)).trans a2⟩, ⟨f3, (q _ (by decide) (by decide) (by decide)).trans a3, b3⟩, f4, (q _ (by decide) (by decide) (by decide)).trans a4⟩
theorem nLm {z : Nm} (h : 230 ≤ z.1) : ¬ isLm z := fun y => by
  rcases y with y | y
  · rw [y] at h; exact absurd h (by decide)
  · omega
theorem nRq {z : Nm} (h : 230 ≤ z.1) : ¬ isRq z := fun y => by
  rcases y with y | y
  · rw [y] at h; exact absurd h (by decide)
  · omega
theorem isLm_mo {z : Nm} (h : isLm z) : isMo z := by
  rcases h with h | h
  · rw [h]; exact Or.inl rfl
  · exact Or.inr (by omega)
theorem isRq_mo {z : Nm} (h : isRq z) : isMo z := by
  rcases h with h | h
  · rw [h]; exact Or.inl rfl
  · exact Or.inr (by omega)
theorem MoR.rd {s : Int → Int} {A : MAs} {S : BaS} {th : Int} (h : MoR s A S th) (hK : BOK S) : RdM s A (bB S) (bN S) := ⟨h.2.1, ⟨hK.1.1, hK.1.2.1⟩, fun j j0 j1 => ⟨h.2.2.2.2.2.2.2.1 j j0 j1, hK.1.2.2 j j0 j1⟩⟩
theorem MlD.ag {A A' : MAs} {l j : Int} {D : LaS} {E : LaY} (h : MlD A j D E) (hD : LOK D) (hA : AgL A A' l) (hj : j ≠ l) : MlD A' j D E := by
  obtain ⟨⟨m0, m1⟩, mSe, mNe, mPa, mCo, mMi, mRo, mLa, mRn, mHv, mBu, mSl, mGr, mTb⟩ := h
  obtain ⟨d1, d2, d3, d4, d5, d6, d7, d8, d9, d10, d11, d12, d13⟩ := hD
  obtain ⟨⟨a1, a16, a17, a18, a19, a20, a21, a23, a24, a25, a26, a41, a42⟩, aj⟩ := hA
  obtain ⟨b6, b8, b13, b14, b15, b7, b12⟩ := aj j m0 (by omega) hj
  refine ⟨⟨m0, m1⟩, b6.trans mSe, b8.trans mNe, fun i i0 i1 => (b7 i i0 (by omega)).trans (mPa i i0 i1), b13.trans mCo, b14.trans mMi, b15.trans mRo, (congrFun a16 j).trans mLa, (congrFun a17 j).trans mRn, fun q q0 q1 => ?_, (congrFun a19 j).trans mBu, (congrFun a20 j).trans mSl, (congrFun a21 j).trans mGr, fun i i0 i1 => (congrFun a18 _).trans (mTb i i0 i1)⟩
  obtain ⟨c1, c2⟩ := b12 q q0 (by omega)
  obtain ⟨n1, n2⟩ := mHv q q0 q1
  have n3 := d13 q q0 q1
  exact ⟨c1.trans n1, fun i i0 i1 => ⟨(c2 i i0 (by omega)).1.trans (n2 i i0 i1).1, (c2 i i0 (by omega)).2.trans (n2 i i0 i1).2⟩⟩
theorem MoR.agl {s s' : Int → Int} {A A' : MAs} {S : BaS} {th l : Int} (h : MoR s A S th) (hK : BOK S) (hm : SmR s s') (hA : AgL A A' l) (hl : bLc S ≤ l) : MoR s' A' S th := by
  obtain ⟨m0, m2, m22, m27, m44, m45, m46, mTp, mLd, mRu, mRw, mFr⟩ := h
  obtain ⟨⟨a1, a16, a17, a18, a19, a20, a21, a23, a24, a25, a26, a41, a42⟩, aj⟩ := id hA
  refine ⟨(hm 0 (by omega) (by omega)).trans m0, (hm 2 (by omega) (by omega)).trans m2, (hm 22 (by omega) (by omega)).trans m22, (hm 27 (by omega) (by omega)).trans m27, (hm 44 (by omega) (by omega)).trans m44, (hm 45 (by omega) (by omega)).trans m45, (hm 46 (by omega) (by omega)).trans m46, fun i i0 i1 => (congrFun a1 i).trans (mTp i i0 i1), fun j j0 j1 => (mLd j j0 j1).ag (hK.2.2.2.1 j j0 j1).1 hA (by omega), fun r r0 r1 => ⟨(mRu r r0 r1).1.ch a23 a24 a25 a26, (mRu r r0 r1).2⟩, fun r r0 r1 => ?_, fun j j0 j1 => ?_⟩
  · rw [a42, a41]
    exact mRw r r0 r1
  · rw [a16, a17, a18, a19, a20, a21]
    exact mFr j j0 j1
theorem MrD.ag {A A' : MAs} {r j : Int} {c : Cls} (h : MrD A j c) (hA : AgQ A A' r) (hj : j ≠ r) : MrD A' j c := by
  obtain ⟨h1, h2, h3, h4, h5⟩ := h
  obtain ⟨-, a23, a24, a25⟩ := hA
  refine ⟨(a24 j hj).trans h1, h2, h3, fun i hi => (a23 _ (by omega)).trans (h4 i hi), fun pre q suf e => ?_⟩
  have hl : c.length = pre.length + (suf.length + 1) := by rw [e, List.length_append]; rfl
  obtain ⟨b1, b2⟩ := a25 (64 * j + pre.length) (by omega)
  rw [b1, b2]
  exact h5 pre q suf e
theorem MlD.same {A A' : MAs} {j : Int} {D : LaS} {E : LaY} (h : MlD A j D E) (e6 : A' 6 = A 6) (e7 : A' 7 = A 7) (e8 : A' 8 = A 8) (e10 : A' 10 = A 10) (e11 : A' 11 = A 11) (e12 : A' 12 = A 12) (e13 : A' 13 = A 13) (e14 : A' 14 = A 14) (e15 : A' 15 = A 15) (e16 : A' 16 = A 16) (e17 : A' 17 = A 17) (e18 : A' 18 = A 18) (e19 : A' 19 = A 19) (e20 : A' 20 = A 20) (e21 : A' 21 = A 21) : MlD A' j D E := by
  unfold MlD
  rw [e6, e7, e8, e10, e11, e12, e13, e14, e15, e16, e17, e18, e19, e20, e21]
  exact h
theorem MoR.agq {s s' : Int → Int} {A A' : MAs} {S : BaS} {th r : Int} (h : MoR s A S th) (hm : SmQ s s') (hA : AgQ A A' r) (hr : bRc S ≤ r) : MoR s' A' S th := by
  obtain ⟨m0, m2, m22, m27, m44, m45, m46, mTp, mLd, mRu, mRw, mFr⟩ := h
  obtain ⟨⟨a1, a6, a7, a8, a9, a10, a11, a12, a13, a14, a15, a16, a17, a18, a19, a20, a21, a41, a42⟩, -⟩ := id hA
  refine ⟨(hm 0 (by omega) (by omega) (by omega) (by omega) (by omega)).trans m0, (hm 2 (by omega) (by omega) (by omega) (by omega) (by omega)).trans m2, (hm 22 (by omega) (by omega) (by omega) (by omega) (by omega)).trans m22, (hm 27 (by omega) (by omega) (by omega) (by omega) (by omega)).trans m27, (hm 44 (by omega) (by omega) (by omega) (by omega) (by omega)).trans m44, (hm 45 (by omega) (by omega) (by omega) (by omega) (by omega)).trans m45, (hm 46 (by omega) (by omega) (by omega) (by omega) (by omega)).trans m46, fun i i0 i1 => (congrFun a1 i).trans (mTp i i0 i1), fun j j0 j1 => (mLd j j0 j1).same a6 a7 a8 a10 a11 a12 a13 a14 a15 a16 a17 a18 a19 a20 a21, fun j j0 j1 => ⟨(mRu j j0 j1).1.ag hA (by omega), (mRu j j0 j1).2⟩, fun r r0 r1 => ?_, fun j j0 j1 => ?_⟩
  · rw [a42, a41]
    exact mRw r r0 r1
  · rw [a16, a17, a18, a19, a20, a21]
    exact mFr j j0 j1
theorem MlD.new {A : MAs} {l : Int} {X : DrS} {f : Int → Int} (hl0 : 0 ≤ l) (hl6 : l < 6) (hX : XOK X) (hf : ∀ j : Int, 0 ≤ j → j < xEa X → PaQ (xCn X) f j) (hD : DrF A l X) (hE : A 16 l = 20 ∧ A 17 l = -1 ∧ A 19 l = 0 ∧ A 20 l = 0 ∧ A 21 l = 0 ∧ ∀ i : Int, 0 ≤ i → i < 164 → A 18 (164 * l + i) = 0) : MlD A l (dOf X f) e0Y := by
  obtain ⟨⟨t6, t8, t13, t14, t15, tp⟩, tq⟩ := hD
  obtain ⟨e16, e17, e19, e20, e21, e18⟩ := hE
  have x1 := hX.1
  have x2 := hX.2.1
  have x12 := hX.2.2.2.2.2.2.2.2.2.2.2.1
  refine ⟨⟨hl0, hl6⟩, t6, by rw [t8]; show xEa X = ((xEa X).toNat : Int); omega, fun i i0 i1 => ?_, t13, t14, t15, e16, e17, fun q q0 q1 => ?_, e19, e20, e21, e18⟩
  · have i1 : i < ((xEa X).toNat : Int) := i1
    exact (tp i i0 (by omega)).same (hf i i0 (by omega))
  · have q1 : q < xSe X := q1
    obtain ⟨u1, u2⟩ := tq q q0 (by omega)
    obtain ⟨w1, w2⟩ := (fzN_at (X := X) (xSe X).toNat q q0).2 (by omega)
    have zh := hX.2.2.2.2.2.2.2.2.2.2.2.2.2.2.2 q q0 (by omega)
    show A 12 (4 * l + q) = (fzN X (xSe X).toNat).1 q ∧ ∀ i : Int, 0 ≤ i → i < (fzN X (xSe X).toNat).1 q → A 10 (4 * (4 * l + q) + i) = (fzN X (xSe X).toNat).2.1 (q * 4 + i) ∧ A 11 (4 * (4 * l + q) + i) = (fzN X (xSe X).toNat).2.2.1 (q * 4 + i)
    by_cases e : xHv X q = 0
    · obtain ⟨v1, v2, v3⟩ := u1 e
      obtain ⟨y1, -, y3, y4⟩ := w1 e
      refine ⟨v1.trans y1.symm, fun i i0 i1 => ?_⟩
      rw [y1] at i1
      have ei : i = 0 := by omega
      subst ei
      rw [Int.add_zero, Int.add_zero, Int.mul_comm q 4]
      exact ⟨v2.trans y3.symm, v3.trans y4.symm⟩
    · obtain ⟨v1, v2⟩ := u2 e
      obtain ⟨y1, -, y3⟩ := w2 e
      refine ⟨v1.trans y1.symm, fun i i0 i1 => ?_⟩
      rw [y1] at i1
      obtain ⟨v3, v4⟩ := v2 i i0 i1
      obtain ⟨y4, y5⟩ := y3 i i0 (by omega)
      rw [v3, v4, Int.mul_comm q 4]
      exact ⟨y4.symm, y5.symm⟩
set_option maxRecDepth 100000 in
set_option maxHeartbeats 4000000 in
theorem ev_X11_fault_a {k : WC} {d : Nat} {h : AH} {S : BaS} {th : Int} {so x : Int} (hd : 130 ≤ d) (hMo : ModAt h S th) (his : inI so) (hx : FaA S so x) : Ev k d mdX11_fault h [vR (70, 0), vI so] 0 0 (pe fun v h' => v = vI x ∧ ModAt h' S th ∧ Fr isMo h h') := by
  obtain ⟨s, A, hS, hR, hB, hX, hK⟩ := id hMo
  obtain ⟨m0, m2, m22, m27, m44, m45, m46, mTp, mLd, mRu, mRw, mFr⟩ := id hR
  obtain ⟨⟨kTa, kTb⟩, ⟨kL0, kL1⟩, ⟨kR0, kR1⟩, kLd, kRu, kRw, ⟨kT0, kT1⟩, kS0, kS1⟩ := id hK
  rcases hx with ⟨h0, r, ⟨cn, hv, ws, sk, wt, hz, hr⟩, zx⟩ | ⟨h1, zx⟩ | ⟨h0, h1, zx⟩
  · rw [hr] at zx
    refine Ev.mk (by decide +kernel) [_, _] rfl (Nat.le_of_ble_eq_true rfl) (fun w hc he => ?_)
    refine j_iload_n hc dX11_fault_0 rfl ?_
    refine j_if_ne (b := 0) (tgt := 13) hc dX11_fault_1 (by decide) his (fun zc1 => ?_) (fun zc1 => ?_)
    · exact absurd h0 zc1
    · refine j_aload_n hc dX11_fault_4 rfl ?_
      refine j_bipush hc dX11_fault_5 (by decide) ?_
      refine j_callV (d' := d - 1) hc dX11_fault_7 vX11_217 hS.1 (ev_X11_readLand (b := bB S) (n := bN S) (sk := sk) (wt := wt) hz (by omega) hS (hR.rd hK) (by omega) (by omega)) rfl (by omega) (by omega) (by omega) rfl rfl (Nat.le_of_ble_eq_true rfl) (retE fun zv7 zq7 zp7 => ?_)
      obtain ⟨zv1, s1, A1, zS1, zm1, zA1, zF1, zD1⟩ := zp7
      subst zv1
      have zB1 := MoB.fq (fun z hz => zF1 z (nLm hz.1)) hB
      have zX1 := MoX.fq (fun z hz _ _ => zF1 z (nLm (by omega))) hX
      refine j_goto (tgt := 29) hc dX11_fault_10 (by decide) ?_
      exact j_iret hc he dX11_fault_29 rfl (by omega) (by omega) ⟨_, rfl, congrArg vI (zx.symm), ⟨s1, A1, zS1, hR.agl hK zm1 zA1 (by omega), zB1, zX1, hK⟩, zF1.mono fun z zz => isLm_mo zz⟩
  · skip
    refine Ev.mk (by decide +kernel) [_, _] rfl (Nat.le_of_ble_eq_true rfl) (fun w hc he => ?_)
    refine j_iload_n hc dX11_fault_0 rfl ?_
    refine j_if_ne (b := 0) (tgt := 13) hc dX11_fault_1 (by decide) his (fun zc1 => ?_) (fun zc1 => ?_)
    · refine j_iload_n hc dX11_fault_13 rfl ?_
      refine j_iconst hc dX11_fault_14 ?_
      refine j_icmp_ne (tgt := 27) hc dX11_fault_15 (by decide) his ⟨by omega, by omega⟩ (fun zc2 => ?_) (fun zc2 => ?_)
      · exact absurd h1 zc2
      · refine j_aload_n hc dX11_fault_18 rfl ?_
        refine j_bipush hc dX11_fault_19 (by decide) ?_
        refine j_callV (d' := d - 1) hc dX11_fault_21 vX11_221 hS.1 (ev_X11_readRule (b := bB S) (n := bN S) (by omega) (by omega) (by omega) hS (hR.rd hK)) rfl (by omega) (by omega) (by omega) rfl rfl (Nat.le_of_ble_eq_true rfl) (retE fun zv21 zq21 zp21 => ?_)
        obtain ⟨zv1, s1, A1, zS1, zm1, zA1, zF1, zD1⟩ := zp21
        subst zv1
        have zB1 := MoB.fq (fun z hz => zF1 z (nRq hz.1)) hB
        have zX1 := MoX.fq (fun z hz _ _ => zF1 z (nRq (by omega))) hX
        refine j_goto (tgt := 29) hc dX11_fault_24 (by decide) ?_
        exact j_iret hc he dX11_fault_29 rfl (by omega) (by omega) ⟨_, rfl, congrArg vI (zx.symm), ⟨s1, A1, zS1, hR.agq zm1 zA1 (by omega), zB1, zX1, hK⟩, zF1.mono fun z zz => isRq_mo zz⟩
    · exact absurd zc1 (by omega)
  · skip
    refine Ev.mk (by decide +kernel) [_, _] rfl (Nat.le_of_ble_eq_true rfl) (fun w hc he => ?_)
    refine j_iload_n hc dX11_fault_0 rfl ?_
    refine j_if_ne (b := 0) (tgt := 13) hc dX11_fault_1 (by decide) his (fun zc1 => ?_) (fun zc1 => ?_)
    · refine j_iload_n hc dX11_fault_13 rfl ?_
      refine j_iconst hc dX11_fault_14 ?_
      refine j_icmp_ne (tgt := 27) hc dX11_fault_15 (by decide) his ⟨by omega, by omega⟩ (fun zc2 => ?_) (fun zc2 => ?_)
      · refine j_bipush hc dX11_fault_27 (by decide) ?_
        exact j_iret hc he dX11_fault_29 rfl (by omega) (by omega) ⟨_, rfl, congrArg vI (zx.symm), hMo, Fr.rf _ _⟩
      · exact absurd zc2 h1
    · exact absurd zc1 h0
set_option maxRecDepth 100000 in
set_option maxHeartbeats 4000000 in
theorem ev_X11_land_a {k : WC} {d : Nat} {h : AH} {S : BaS} {th : Int} {x : Int} {S' : BaS} (hd : 130 ≤ d) (hMo : ModAt h S th) (hx : LaA S x S') (hK' : BOK S') : Ev k d mdX11_land h [vR (70, 0)] 0 0 (pe fun v h' => v = vI x ∧ ModAt h' S' th ∧ Fr isMo h h') := by
  obtain ⟨s, A, hS, hR, hB, hX, hK⟩ := id hMo
  obtain ⟨m0, m2, m22, m27, m44, m45, m46, mTp, mLd, mRu, mRw, mFr⟩ := id hR
  obtain ⟨⟨kTa, kTb⟩, ⟨kL0, kL1⟩, ⟨kR0, kR1⟩, kLd, kRu, kRw, ⟨kT0, kT1⟩, kS0, kS1⟩ := id hK
  rcases hx with ⟨h6, hx, hs⟩ | ⟨h6, r, ⟨cn, hv, ws, sk, wt, hz, hr⟩, ⟨zr, hx, hs⟩ | ⟨zr, f, hf, hL, hx, hs⟩⟩
  · skip
    refine Ev.mk (by decide +kernel) [_] rfl (Nat.le_of_ble_eq_true rfl) (fun w hc he => ?_)
    refine j_aload_n hc dX11_land_0 rfl ?_
    refine j_get hc dX11_land_1 fX11_224 hS.1 rfl ?_
    rw [m22]
    refine j_bipush hc dX11_land_4 (by decide) ?_
    refine j_icmp_eq (tgt := 21) hc dX11_land_6 (by decide) ⟨by omega, by omega⟩ ⟨by omega, by omega⟩ (fun zc1 => ?_) (fun zc1 => ?_)
    · refine j_iconst hc dX11_land_21 ?_
      exact j_iret hc he dX11_land_22 rfl (by omega) (by omega) ⟨_, rfl, congrArg vI hx.symm, by rw [hs]; exact hMo, Fr.rf _ _⟩
    · exact absurd h6 zc1
  · rw [hr] at zr
    have zlf := laR_f (b := bB S) (n := bN S) (sk := sk) (wt := wt) hz kTa
    refine Ev.mk (by decide +kernel) [_] rfl (Nat.le_of_ble_eq_true rfl) (fun w hc he => ?_)
    refine j_aload_n hc dX11_land_0 rfl ?_
    refine j_get hc dX11_land_1 fX11_224 hS.1 rfl ?_
    rw [m22]
    refine j_bipush hc dX11_land_4 (by decide) ?_
    refine j_icmp_eq (tgt := 21) hc dX11_land_6 (by decide) ⟨by omega, by omega⟩ ⟨by omega, by omega⟩ (fun zc1 => ?_) (fun zc1 => ?_)
    · exact absurd zc1 (by omega)
    · refine j_aload_n hc dX11_land_9 rfl ?_
      refine j_aload_n hc dX11_land_10 rfl ?_
      refine j_get hc dX11_land_11 fX11_224 hS.1 rfl ?_
      rw [m22]
      refine j_callV (d' := d - 1) hc dX11_land_14 vX11_217 hS.1 (ev_X11_readLand (b := bB S) (n := bN S) (sk := sk) (wt := wt) hz (by omega) hS (hR.rd hK) (by omega) (by omega)) rfl (by omega) (by omega) (by omega) rfl rfl (Nat.le_of_ble_eq_true rfl) (retE fun zv14 zq14 zp14 => ?_)
      obtain ⟨zv1, s1, A1, zS1, zm1, zA1, zF1, zD1⟩ := zp14
      subst zv1
      have zB1 := MoB.fq (fun z hz => zF1 z (nLm hz.1)) hB
      have zX1 := MoX.fq (fun z hz _ _ => zF1 z (nLm (by omega))) hX
      refine j_iconst hc dX11_land_17 ?_
      refine j_icmp_eq (tgt := 23) hc dX11_land_18 (by decide) (by exact ⟨by omega, by omega⟩) ⟨by omega, by omega⟩ (fun zc2 => ?_) (fun zc2 => ?_)
      · exact absurd zc2 zr
      · refine j_iconst hc dX11_land_21 ?_
        exact j_iret hc he dX11_land_22 rfl (by omega) (by omega) ⟨_, rfl, congrArg vI hx.symm, by rw [hs]; exact ⟨s1, A1, zS1, hR.agl hK zm1 zA1 (Int.le_refl _), zB1, zX1, hK⟩, zF1.mono fun z zz => isLm_mo zz⟩
  · rw [hr] at zr
    have zlf := laR_f (b := bB S) (n := bN S) (sk := sk) (wt := wt) hz kTa
    have zok := laR_ok (b := bB S) (n := bN S) (sk := sk) (wt := wt) kTa hz.1 hz.2.1 hz.2.2 zr
    rw [← hr] at zok
    refine Ev.mk (by decide +kernel) [_] rfl (Nat.le_of_ble_eq_true rfl) (fun w hc he => ?_)
    refine j_aload_n hc dX11_land_0 rfl ?_
    refine j_get hc dX11_land_1 fX11_224 hS.1 rfl ?_
    rw [m22]
    refine j_bipush hc dX11_land_4 (by decide) ?_
    refine j_icmp_eq (tgt := 21) hc dX11_land_6 (by decide) ⟨by omega, by omega⟩ ⟨by omega, by omega⟩ (fun zc1 => ?_) (fun zc1 => ?_)
    · exact absurd zc1 (by omega)
    · refine j_aload_n hc dX11_land_9 rfl ?_
      refine j_aload_n hc dX11_land_10 rfl ?_
      refine j_get hc dX11_land_11 fX11_224 hS.1 rfl ?_
      rw [m22]
      refine j_callV (d' := d - 1) hc dX11_land_14 vX11_217 hS.1 (ev_X11_readLand (b := bB S) (n := bN S) (sk := sk) (wt := wt) hz (by omega) hS (hR.rd hK) (by omega) (by omega)) rfl (by omega) (by omega) (by omega) rfl rfl (Nat.le_of_ble_eq_true rfl) (retE fun zv14 zq14 zp14 => ?_)
      obtain ⟨zv1, s1, A1, zS1, zm1, zA1, zF1, zD1⟩ := zp14
      subst zv1
      have zB1 := MoB.fq (fun z hz => zF1 z (nLm hz.1)) hB
      have zX1 := MoX.fq (fun z hz _ _ => zF1 z (nLm (by omega))) hX
      have zMR : MoR (fu (fu s1 2 0) 22 (bLc S + 1)) A1 (sLd S (dOf r.2 f)) th := by
        have zr0 := hR.agl hK zm1 zA1 (Int.le_refl _)
        obtain ⟨y0, y2, y22, y27, y44, y45, y46, yTp, yLd, yRu, yRw, yFr⟩ := zr0
        refine ⟨y0, rfl, rfl, y27, y44, y45, y46, fun i i0 i1 => by have i1 : i < 0 := i1; omega, fun j j0 j1 => ?_, yRu, yRw, fun j j0 j1 => yFr j (by have j0 : bLc S + 1 ≤ j := j0; omega) j1⟩
        have j1 : j < bLc S + 1 := j1
        show MlD A1 j (fuD (bD S) (bLc S) (dOf r.2 f) j) (fuL (bE S) (bLc S) e0Y j)
        by_cases e : j = bLc S
        · rw [e, fuL_same, show fuD (bD S) (bLc S) (dOf r.2 f) (bLc S) = dOf r.2 f from if_pos rfl]
          exact MlD.new (by omega) (by omega) zok hf (by rw [hr]; exact zD1 zr) (yFr (bLc S) (Int.le_refl _) (by omega))
        · rw [fuL_ne e, show fuD (bD S) (bLc S) (dOf r.2 f) j = bD S j from if_neg e]
          exact yLd j j0 (by omega)
      refine j_iconst hc dX11_land_17 ?_
      refine j_icmp_eq (tgt := 23) hc dX11_land_18 (by decide) (by exact ⟨by omega, by omega⟩) ⟨by omega, by omega⟩ (fun zc2 => ?_) (fun zc2 => ?_)
      · refine j_aload_n hc dX11_land_23 rfl ?_
        refine j_iconst hc dX11_land_24 ?_
        refine j_put  hc dX11_land_25 pX11_122 zS1.1 rfl mset_2 ?_
        generalize ezh1 : up _ _ _ = zh1
        have zzmod_zh1 := MdS.pf ezh1 zS1
        refine j_aload_n hc dX11_land_28 rfl ?_
        refine j_dup hc dX11_land_29 rfl ?_
        refine j_get hc dX11_land_30 fX11_224 zzmod_zh1.1 rfl ?_
        rw [show fu s1 2 0 22 = bLc S from (zm1 22 (by omega) (by omega)).trans m22]
        refine j_iconst hc dX11_land_33 ?_
        refine j_iadd hc dX11_land_34 ?_
        refine j_put  hc dX11_land_35 pX11_224 zzmod_zh1.1 rfl mset_22 ?_
        generalize ezh2 : up _ _ _ = zh2
        have zzmod_zh2 := MdS.pf ezh2 zzmod_zh1
        refine j_aload_n hc dX11_land_38 rfl ?_
        refine j_get hc dX11_land_39 fX11_224 zzmod_zh2.1 rfl ?_
        rw [fu_same]
        refine j_iconst hc dX11_land_42 ?_
        refine j_isub hc dX11_land_43 ?_
        have zFF : Fr (fun z => z = (70, 0)) zq14 zh2 := by rw [← ezh2, ← ezh1]; exact (Fr.push (Fr.push (Fr.rf (fun z => z = (70, 0)) zq14) rfl) rfl)
        exact j_iret hc he dX11_land_44 rfl (by omega) (by omega) ⟨_, rfl, congrArg vI (by omega), (by
              rw [hs] at hK' ⊢
              refine ⟨_, A1, zzmod_zh2, zMR, ?_, ?_, hK'⟩
              · exact MoB.fq (fun z hz => zFF z (fun y => by rcases hz with ⟨y1, y2⟩; rw [y] at y1; exact absurd y1 (by decide))) zB1
              · exact MoX.fq (S := S) (fun z hz _ _ => zFF z (fun y => by rw [y] at hz; exact absurd hz (by decide))) zX1), Fr.tr (zF1.mono fun z zz => isLm_mo zz) (zFF.mono fun z zz => by rw [zz]; exact Or.inl rfl)⟩
      · exact absurd zr zc2
set_option maxRecDepth 100000 in
set_option maxHeartbeats 4000000 in
theorem ev_X11_rule_a {k : WC} {d : Nat} {h : AH} {S : BaS} {th : Int} (hd : 130 ≤ d) (hMo : ModAt h S th) (hK' : BOK (nRule S)) : Ev k d mdX11_rule h [vR (70, 0)] 0 0 (pe fun v h' => v = vI (aRule S) ∧ ModAt h' (nRule S) th ∧ Fr isMo h h') := by
  obtain ⟨s, A, hS, hR, hB, hX, hK⟩ := id hMo
  obtain ⟨m0, m2, m22, m27, m44, m45, m46, mTp, mLd, mRu, mRw, mFr⟩ := id hR
  obtain ⟨⟨kTa, kTb⟩, ⟨kL0, kL1⟩, ⟨kR0, kR1⟩, kLd, kRu, kRw, ⟨kT0, kT1⟩, kS0, kS1⟩ := id hK
  have zrf := ruR_f (b := bB S) (n := bN S) kTa
  by_cases h6 : bRc S = 6
  · have hs : nRule S = S := if_neg (by omega)
    have ha : aRule S = -1 := if_neg (by omega)
    refine Ev.mk (by decide +kernel) [_] rfl (Nat.le_of_ble_eq_true rfl) (fun w hc he => ?_)
    refine j_aload_n hc dX11_rule_0 rfl ?_
    refine j_get hc dX11_rule_1 fX11_227 hS.1 rfl ?_
    rw [m27]
    refine j_bipush hc dX11_rule_4 (by decide) ?_
    refine j_icmp_eq (tgt := 21) hc dX11_rule_6 (by decide) ⟨by omega, by omega⟩ ⟨by omega, by omega⟩ (fun zc1 => ?_) (fun zc1 => ?_)
    · refine j_iconst hc dX11_rule_21 ?_
      exact j_iret hc he dX11_rule_22 rfl (by omega) (by omega) ⟨_, rfl, congrArg vI ha.symm, by rw [hs]; exact hMo, Fr.rf _ _⟩
    · exact absurd h6 zc1
  by_cases zr : (ruR (bB S) (bN S)).1 = -1
  · have hs : nRule S = sRu S (ruR (bB S) (bN S)).2 := if_pos ⟨by omega, zr⟩
    have ha : aRule S = bRc S := if_pos ⟨by omega, zr⟩
    refine Ev.mk (by decide +kernel) [_] rfl (Nat.le_of_ble_eq_true rfl) (fun w hc he => ?_)
    refine j_aload_n hc dX11_rule_0 rfl ?_
    refine j_get hc dX11_rule_1 fX11_227 hS.1 rfl ?_
    rw [m27]
    refine j_bipush hc dX11_rule_4 (by decide) ?_
    refine j_icmp_eq (tgt := 21) hc dX11_rule_6 (by decide) ⟨by omega, by omega⟩ ⟨by omega, by omega⟩ (fun zc1 => ?_) (fun zc1 => ?_)
    · exact absurd zc1 h6
    · refine j_aload_n hc dX11_rule_9 rfl ?_
      refine j_aload_n hc dX11_rule_10 rfl ?_
      refine j_get hc dX11_rule_11 fX11_227 hS.1 rfl ?_
      rw [m27]
      refine j_callV (d' := d - 1) hc dX11_rule_14 vX11_221 hS.1 (ev_X11_readRule (b := bB S) (n := bN S) (by omega) (by omega) (by omega) hS (hR.rd hK)) rfl (by omega) (by omega) (by omega) rfl rfl (Nat.le_of_ble_eq_true rfl) (retE fun zv14 zq14 zp14 => ?_)
      obtain ⟨zv1, s1, A1, zS1, zm1, zA1, zF1, zD1⟩ := zp14
      subst zv1
      have zB1 := MoB.fq (fun z hz => zF1 z (nRq hz.1)) hB
      have zX1 := MoX.fq (fun z hz _ _ => zF1 z (nRq (by omega))) hX
      refine j_iconst hc dX11_rule_17 ?_
      refine j_icmp_eq (tgt := 23) hc dX11_rule_18 (by decide) (by exact ⟨by omega, by omega⟩) ⟨by omega, by omega⟩ (fun zc2 => ?_) (fun zc2 => ?_)
      · refine j_aload_n hc dX11_rule_23 rfl ?_
        refine j_iconst hc dX11_rule_24 ?_
        refine j_put  hc dX11_rule_25 pX11_122 zS1.1 rfl mset_2 ?_
        generalize ezh1 : up _ _ _ = zh1
        have zzmod_zh1 := MdS.pf ezh1 zS1
        refine j_aload_n hc dX11_rule_28 rfl ?_
        refine j_dup hc dX11_rule_29 rfl ?_
        refine j_get hc dX11_rule_30 fX11_227 zzmod_zh1.1 rfl ?_
        rw [show fu s1 2 0 27 = bRc S from (zm1 27 (by omega) (by omega) (by omega) (by omega) (by omega)).trans m27]
        refine j_iconst hc dX11_rule_33 ?_
        refine j_iadd hc dX11_rule_34 ?_
        refine j_put  hc dX11_rule_35 pX11_227 zzmod_zh1.1 rfl mset_27 ?_
        generalize ezh2 : up _ _ _ = zh2
        have zzmod_zh2 := MdS.pf ezh2 zzmod_zh1
        refine j_aload_n hc dX11_rule_38 rfl ?_
        refine j_get hc dX11_rule_39 fX11_227 zzmod_zh2.1 rfl ?_
        rw [fu_same]
        refine j_iconst hc dX11_rule_42 ?_
        refine j_isub hc dX11_rule_43 ?_
        have zFF : Fr (fun z => z = (70, 0)) zq14 zh2 := by rw [← ezh2, ← ezh1]; exact (Fr.push (Fr.push (Fr.rf (fun z => z = (70, 0)) zq14) rfl) rfl)
        have zMR : MoR (fu (fu s1 2 0) 27 (bRc S + 1)) A1 (sRu S (ruR (bB S) (bN S)).2) th := by
          have zr0 := hR.agq zm1 zA1 (Int.le_refl _)
          obtain ⟨y0, y2, y22, y27, y44, y45, y46, yTp, yLd, yRu, yRw, yFr⟩ := zr0
          refine ⟨y0, rfl, y22, rfl, y44, y45, y46, fun i i0 i1 => by have i1 : i < 0 := i1; omega, yLd, fun j j0 j1 => ?_, yRw, yFr⟩
          have j1 : j < bRc S + 1 := j1
          show MrD A1 j (fuC (bR S) (bRc S) _ j) ∧ ClsG (fuC (bR S) (bRc S) _ j)
          by_cases e : j = bRc S
          · rw [e, fuC_same]
            exact ⟨zD1 zr, ruR_gd kTa⟩
          · rw [fuC_ne e]
            exact yRu j j0 (by omega)
        exact j_iret hc he dX11_rule_44 rfl (by omega) (by omega) ⟨_, rfl, congrArg vI (by omega), (by
              rw [hs] at hK' ⊢
              refine ⟨_, A1, zzmod_zh2, zMR, ?_, ?_, hK'⟩
              · exact MoB.fq (fun z hz => zFF z (fun y => by rcases hz with ⟨y1, y2⟩; rw [y] at y1; exact absurd y1 (by decide))) zB1
              · exact MoX.fq (S := S) (fun z hz _ _ => zFF z (fun y => by rw [y] at hz; exact absurd hz (by decide))) zX1), Fr.tr (zF1.mono fun z zz => isRq_mo zz) (zFF.mono fun z zz => by rw [zz]; exact Or.inl rfl)⟩
      · exact absurd zr zc2
  · have hs : nRule S = S := if_neg (fun z => zr z.2)
    have ha : aRule S = -1 := if_neg (fun z => zr z.2)
    refine Ev.mk (by decide +kernel) [_] rfl (Nat.le_of_ble_eq_true rfl) (fun w hc he => ?_)
    refine j_aload_n hc dX11_rule_0 rfl ?_
    refine j_get hc dX11_rule_1 fX11_227 hS.1 rfl ?_
    rw [m27]
    refine j_bipush hc dX11_rule_4 (by decide) ?_
    refine j_icmp_eq (tgt := 21) hc dX11_rule_6 (by decide) ⟨by omega, by omega⟩ ⟨by omega, by omega⟩ (fun zc1 => ?_) (fun zc1 => ?_)
    · exact absurd zc1 h6
    · refine j_aload_n hc dX11_rule_9 rfl ?_
      refine j_aload_n hc dX11_rule_10 rfl ?_
      refine j_get hc dX11_rule_11 fX11_227 hS.1 rfl ?_
      rw [m27]
      refine j_callV (d' := d - 1) hc dX11_rule_14 vX11_221 hS.1 (ev_X11_readRule (b := bB S) (n := bN S) (by omega) (by omega) (by omega) hS (hR.rd hK)) rfl (by omega) (by omega) (by omega) rfl rfl (Nat.le_of_ble_eq_true rfl) (retE fun zv14 zq14 zp14 => ?_)
      obtain ⟨zv1, s1, A1, zS1, zm1, zA1, zF1, zD1⟩ := zp14
      subst zv1
      have zB1 := MoB.fq (fun z hz => zF1 z (nRq hz.1)) hB
      have zX1 := MoX.fq (fun z hz _ _ => zF1 z (nRq (by omega))) hX
      refine j_iconst hc dX11_rule_17 ?_
      refine j_icmp_eq (tgt := 23) hc dX11_rule_18 (by decide) (by exact ⟨by omega, by omega⟩) ⟨by omega, by omega⟩ (fun zc2 => ?_) (fun zc2 => ?_)
      · exact absurd zc2 zr
      · refine j_iconst hc dX11_rule_21 ?_
        exact j_iret hc he dX11_rule_22 rfl (by omega) (by omega) ⟨_, rfl, congrArg vI ha.symm, by rw [hs]; exact ⟨s1, A1, zS1, hR.agq zm1 zA1 (Int.le_refl _), zB1, zX1, hK⟩, zF1.mono fun z zz => isRq_mo zz⟩
