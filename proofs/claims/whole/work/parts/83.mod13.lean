/-! ===== the reference: answers with loops ===== -/
set_option maxRecDepth 100000 in
set_option maxHeartbeats 4000000 in
theorem lp_X11_unlike {k : WC} {d : Nat} {w : MC} {s : Int → Int} {A : MAs} {l : Int} {D : LaS} {E : LaY} {ru : RU} {cs : Int} {h0 : AH} {n q : Int} (hd : 200 ≤ d) (hWb : ∀ k : WC, RuC k s A E ru) (hM : MlD A l D E) (hD : LOK D) (hE : YOK E) (d3 : 0 ≤ cs) (d4 : cs ≤ 30) (hn1 : 1 ≤ n) (hn : n ≤ 12) (hs0 : 0 ≤ q) (hs1 : q < lSe D)  (hc : Cx w k d 0 0 mdX11_unlike) (he : Ends w 0 0 (pe fun v h' => v = vI (fsi (fun a : Nat => decide (kpS D E ru cs 1 n q a ≠ kpS D E ru cs 2 n q a)) 41 0) ∧ TbA s A D E ru cs l h0 h')) : ∀ (zm : Nat) (a : Nat) (h : AH), 41 - a = zm → a ≤ 41 → (∀ j : Nat, j < a → kpS D E ru cs 1 n q j = kpS D E ru cs 2 n q j) → TbA s A D E ru cs l h0 h → J w 0 0 21 [some (vR (70, 0)), some (vI l), some (vI n), some (vI q), some (vI a)] [] h := by
  intro zm
  induction zm using Nat.strongRecOn with
  | _ zm ih =>
    intro a h hm ha hj hT 
    refine j_iload hc dX11_unlike_21 rfl ?_
    refine j_bipush hc dX11_unlike_23 (by decide) ?_
    refine j_icmp_ge (tgt := 58) hc dX11_unlike_25 (by decide) ⟨by omega, by omega⟩ ⟨by omega, by omega⟩ (fun zc1 => ?_) (fun zc1 => ?_)
    · refine j_iconst hc dX11_unlike_58 ?_
      exact j_iret hc he dX11_unlike_59 rfl (by omega) (by omega) ⟨_, rfl, by rw [fsi_no (fun i _ hi => by simp [hj i (by omega)])], hT⟩
    · have zk1 := kpS_b hD hE (ru := ru) (cs := cs) (sr := 1) (n := n) (s := q) (a := a) (by omega)
      have zk2 := kpS_b hD hE (ru := ru) (cs := cs) (sr := 2) (n := n) (s := q) (a := a) (by omega)
      refine j_aload_n hc dX11_unlike_28 rfl ?_
      refine j_iconst hc dX11_unlike_29 ?_
      refine j_iload_n hc dX11_unlike_30 rfl ?_
      refine j_iload_n hc dX11_unlike_31 rfl ?_
      refine j_iload hc dX11_unlike_32 rfl ?_
      refine j_callV (d' := d - 1) hc dX11_unlike_34 vX11_319 hT.1.1 (tb_kept (by omega) hT (hWb _) hM hD hE d3 d4 (by omega) (by omega) (by omega) (by omega) (by omega) (by omega) (by omega) (by omega)) rfl (by omega) (by omega) (by omega) rfl rfl (Nat.le_of_ble_eq_true rfl) (retE fun zv34 zq34 zp34 => ?_)
      obtain ⟨zv1, zT1⟩ := zp34
      subst zv1
      refine j_aload_n hc dX11_unlike_37 rfl ?_
      refine j_iconst hc dX11_unlike_38 ?_
      refine j_iload_n hc dX11_unlike_39 rfl ?_
      refine j_iload_n hc dX11_unlike_40 rfl ?_
      refine j_iload hc dX11_unlike_41 rfl ?_
      refine j_callV (d' := d - 1) hc dX11_unlike_43 vX11_319 zT1.1.1 (tb_kept (by omega) zT1 (hWb _) hM hD hE d3 d4 (by omega) (by omega) (by omega) (by omega) (by omega) (by omega) (by omega) (by omega)) rfl (by omega) (by omega) (by omega) rfl rfl (Nat.le_of_ble_eq_true rfl) (retE fun zv43 zq43 zp43 => ?_)
      obtain ⟨zv2, zT2⟩ := zp43
      subst zv2
      refine j_icmp_eq (tgt := 52) hc dX11_unlike_46 (by decide) ⟨by omega, by omega⟩ ⟨by omega, by omega⟩ (fun zc2 => ?_) (fun zc2 => ?_)
      · refine j_iinc (L' := [_, _, _, _, _]) hc dX11_unlike_52 rfl (Nat.le_of_ble_eq_true rfl) rfl ?_
        refine j_goto (tgt := 21) hc dX11_unlike_55 (by decide) ?_
        exact ih _ (by omega) (a + 1) _ rfl (by omega) (fun j hj2 => by by_cases e : j = a; (· rw [e]; assumption); exact hj j (by omega)) zT2
      · refine j_iload hc dX11_unlike_49 rfl ?_
        exact j_iret hc he dX11_unlike_51 rfl (by omega) (by omega) ⟨_, rfl, by rw [fsi_at (j := a) (by omega) (by omega) (fun i _ hi => by simp [hj i hi]) (by simpa using by assumption)], zT2⟩
set_option maxRecDepth 100000 in
set_option maxHeartbeats 4000000 in
theorem ev_X11_unlike_a {k : WC} {d : Nat} {h : AH} {S : BaS} {th : Int} {l n q : Int} (hd : 300 ≤ d) (hMo : ModAt h S th) (hil : inI l) (hin : inI n) (his : inI q) : Ev k d mdX11_unlike h [vR (70, 0), vI l, vI n, vI q] 0 0 (pe fun v h' => v = vI (aUnl S l n q) ∧ ModAt h' S th ∧ Fr isMo h h') := by
  obtain ⟨s, A, hS, hR, hB, hX, hK⟩ := id hMo
  obtain ⟨m0, m2, m22, m27, m44, m45, m46, mTp, mLd, mRu, mRw, mFr⟩ := id hR
  obtain ⟨⟨kTa, kTb⟩, ⟨kL0, kL1⟩, ⟨kR0, kR1⟩, kLd, kRu, kRw, ⟨kT0, kT1⟩, kS0, kS1⟩ := id hK
  refine Ev.mk (by decide +kernel) [_, _, _, _, _] rfl (Nat.le_of_ble_eq_true rfl) (fun w hc he => ?_)
  refine j_aload_n hc dX11_unlike_0 rfl ?_
  refine j_iload_n hc dX11_unlike_1 rfl ?_
  refine j_iload_n hc dX11_unlike_2 rfl ?_
  refine j_iload_n hc dX11_unlike_3 rfl ?_
  refine j_iconst hc dX11_unlike_4 ?_
  refine j_callV (d' := d - 1) hc dX11_unlike_5 vX11_341 hS.1 (ev_X11_isState (by omega) hS hR hK hil hin his ⟨by omega, by omega⟩) rfl (by omega) (by omega) (by omega) rfl rfl (Nat.le_of_ble_eq_true rfl) (ret1 ?_)
  refine j_if_ne (b := 0) (tgt := 13) hc dX11_unlike_8 (by decide) (by split <;> exact ⟨by omega, by omega⟩) (fun zc1 => ?_) (fun zc1 => ?_)
  · have zw := one_pos zc1
    have zw1 := zw.1
    obtain ⟨⟨n1, n12⟩, ⟨s0, s4⟩, a0, a40⟩ := zw.2
    obtain ⟨hD, hE, hrn, hyo⟩ := kLd l zw1.1 zw1.2
    have hM := mLd l zw1.1 zw1.2
    obtain ⟨⟨zl0, zl1⟩, mSe, mNe, mPa, mCo, mMi, mRo, mLa, mRn, mHv, mBu, mSl, mGr, mTb⟩ := id hM
    obtain ⟨d1, d2, d3, d4, d5, d6, d7, d8, d9, d10, d11, d12, d13⟩ := id hD
    obtain ⟨y1, y2, y3, y4, y5, y6, y7, y8, y9, y10⟩ := id hE
    have hW := fun k => ru_of (k := k) (l := l) hR hK zw1
    have hWb := fun k => ru_of (k := k) (l := l) (MoR.s37 (l := l) (c := lCo (bD S l)) hR) hK zw1
    refine j_aload_n hc dX11_unlike_13 rfl ?_
    refine j_iload_n hc dX11_unlike_14 rfl ?_
    refine j_callV (d' := d - 1) hc dX11_unlike_15 vX11_348 hS.1 (ev_X11_begin (ru := ruC S l) (by omega) hS hM hD hE hB) rfl (by omega) (by omega) (by omega) rfl rfl (Nat.le_of_ble_eq_true rfl) (retN fun zq15 zp15 => ?_)
    have zT0 := BgA.tb zp15
    have hl := zT0.2.2.2.1
    refine j_iconst hc dX11_unlike_18 ?_
    refine j_istore (L' := [_, _, _, _, _]) hc dX11_unlike_19 (Nat.le_of_ble_eq_true rfl) rfl ?_
    exact lp_X11_unlike (by omega) hWb hM hD hE d3 d4 n1 n12 s0 s4 hc (he.mono fun r h' zp => by obtain ⟨v, zr, zv, zT⟩ := zp; exact ⟨v, zr, by rw [zv]; unfold aUnl; rw [if_pos zw]; rfl, zT.fin (MoR.s37 hR) hX hK⟩) _ 0 _ rfl (by omega) (fun j hj => by omega) zT0
  · have zw5 := one_neg zc1
    refine j_iconst hc dX11_unlike_11 ?_
    exact j_iret hc he dX11_unlike_12 rfl (by omega) (by omega) ⟨_, rfl, by unfold aUnl; rw [if_neg (by omega)], hMo, Fr.rf _ _⟩
set_option maxRecDepth 100000 in
set_option maxHeartbeats 4000000 in
theorem lp_X11_judge {k : WC} {d : Nat} {w : MC} {s : Int → Int} {A : MAs} {l : Int} {D : LaS} {E : LaY} {ru : RU} {cs : Int} {h0 : AH} {n q : Int} (hd : 200 ≤ d) (hWb : ∀ k : WC, RuC k s A E ru) (hM : MlD A l D E) (hD : LOK D) (hE : YOK E) (d3 : 0 ≤ cs) (d4 : cs ≤ 30) (hn1 : 1 ≤ n) (hn : n ≤ 12) (hs0 : 0 ≤ q) (hs1 : q < lSe D)  (hc : Cx w k d 0 0 mdX11_judge) (he : Ends w 0 0 (pe fun v h' => v = vI (fsi (fun a : Nat => decide (kpS D E ru cs 1 n q a ≠ yTab E (q * 41 + a))) 41 0) ∧ TbA s A D E ru cs l h0 h')) : ∀ (zm : Nat) (a : Nat) (h : AH), 41 - a = zm → a ≤ 41 → (∀ j : Nat, j < a → kpS D E ru cs 1 n q j = yTab E (q * 41 + j)) → TbA s A D E ru cs l h0 h → J w 0 0 21 [some (vR (70, 0)), some (vI l), some (vI n), some (vI q), some (vI a)] [] h := by
  intro zm
  induction zm using Nat.strongRecOn with
  | _ zm ih =>
    intro a h hm ha hj hT 
    obtain ⟨⟨zl0, zl1⟩, -, -, -, -, -, -, -, -, -, -, -, -, mTb⟩ := id hM
    have hd2 := hD.2.1
    have y10 := hE.2.2.2.2.2.2.2.2.2
    refine j_iload hc dX11_judge_21 rfl ?_
    refine j_bipush hc dX11_judge_23 (by decide) ?_
    refine j_icmp_ge (tgt := 65) hc dX11_judge_25 (by decide) ⟨by omega, by omega⟩ ⟨by omega, by omega⟩ (fun zc1 => ?_) (fun zc1 => ?_)
    · refine j_iconst hc dX11_judge_65 ?_
      exact j_iret hc he dX11_judge_66 rfl (by omega) (by omega) ⟨_, rfl, by rw [fsi_no (fun i _ hi => by simp [hj i (by omega)])], hT⟩
    · have zk1 := kpS_b hD hE (ru := ru) (cs := cs) (sr := 1) (n := n) (s := q) (a := a) (by omega)
      refine j_aload_n hc dX11_judge_28 rfl ?_
      refine j_iconst hc dX11_judge_29 ?_
      refine j_iload_n hc dX11_judge_30 rfl ?_
      refine j_iload_n hc dX11_judge_31 rfl ?_
      refine j_iload hc dX11_judge_32 rfl ?_
      refine j_callV (d' := d - 1) hc dX11_judge_34 vX11_319 hT.1.1 (tb_kept (by omega) hT (hWb _) hM hD hE d3 d4 (by omega) (by omega) (by omega) (by omega) (by omega) (by omega) (by omega) (by omega)) rfl (by omega) (by omega) (by omega) rfl rfl (Nat.le_of_ble_eq_true rfl) (retE fun zv34 zq34 zp34 => ?_)
      obtain ⟨zv1, zT1⟩ := zp34
      subst zv1
      refine j_aload_n hc dX11_judge_37 rfl ?_
      refine j_get hc dX11_judge_38 fX11_49 zT1.1.1 rfl ?_
      refine j_bipush hc dX11_judge_41 (by decide) ?_
      refine j_iconst hc dX11_judge_43 ?_
      refine j_iload_n hc dX11_judge_44 rfl ?_
      refine j_imul hc dX11_judge_45 ?_
      refine j_iload_n hc dX11_judge_46 rfl ?_
      refine j_iadd hc dX11_judge_47 ?_
      refine j_imul hc dX11_judge_48 ?_
      refine j_iload hc dX11_judge_49 rfl ?_
      refine j_iadd hc dX11_judge_51 ?_
      refine j_iald hc dX11_judge_52 zT1.1.2.2.2.2.2.2.2.2.2.2.2.2.2.2.1 (by omega) (by omega) ?_
      have zt := mTb (q * 41 + a) (by omega) (by omega)
      rw [show 164 * l + (q * 41 + a) = 41 * (4 * l + q) + a by omega] at zt
      rw [zt]
      have zt2 := y10 (q * 41 + a) (by omega) (by omega)
      refine j_icmp_eq (tgt := 59) hc dX11_judge_53 (by decide) ⟨by omega, by omega⟩ ⟨by omega, by omega⟩ (fun zc2 => ?_) (fun zc2 => ?_)
      · refine j_iinc (L' := [_, _, _, _, _]) hc dX11_judge_59 rfl (Nat.le_of_ble_eq_true rfl) rfl ?_
        refine j_goto (tgt := 21) hc dX11_judge_62 (by decide) ?_
        exact ih _ (by omega) (a + 1) _ rfl (by omega) (fun j hj2 => by by_cases e : j = a; (· rw [e]; assumption); exact hj j (by omega)) zT1
      · refine j_iload hc dX11_judge_56 rfl ?_
        exact j_iret hc he dX11_judge_58 rfl (by omega) (by omega) ⟨_, rfl, by rw [fsi_at (j := a) (by omega) (by omega) (fun i _ hi => by simp [hj i hi]) (by simpa using by assumption)], zT1⟩
set_option maxRecDepth 100000 in
set_option maxHeartbeats 4000000 in
theorem ev_X11_judge_a {k : WC} {d : Nat} {h : AH} {S : BaS} {th : Int} {l n q : Int} (hd : 300 ≤ d) (hMo : ModAt h S th) (hil : inI l) (hin : inI n) (his : inI q) : Ev k d mdX11_judge h [vR (70, 0), vI l, vI n, vI q] 0 0 (pe fun v h' => v = vI (aJudge S l n q) ∧ ModAt h' S th ∧ Fr isMo h h') := by
  obtain ⟨s, A, hS, hR, hB, hX, hK⟩ := id hMo
  obtain ⟨m0, m2, m22, m27, m44, m45, m46, mTp, mLd, mRu, mRw, mFr⟩ := id hR
  obtain ⟨⟨kTa, kTb⟩, ⟨kL0, kL1⟩, ⟨kR0, kR1⟩, kLd, kRu, kRw, ⟨kT0, kT1⟩, kS0, kS1⟩ := id hK
  refine Ev.mk (by decide +kernel) [_, _, _, _, _] rfl (Nat.le_of_ble_eq_true rfl) (fun w hc he => ?_)
  refine j_aload_n hc dX11_judge_0 rfl ?_
  refine j_iload_n hc dX11_judge_1 rfl ?_
  refine j_iload_n hc dX11_judge_2 rfl ?_
  refine j_iload_n hc dX11_judge_3 rfl ?_
  refine j_iconst hc dX11_judge_4 ?_
  refine j_callV (d' := d - 1) hc dX11_judge_5 vX11_341 hS.1 (ev_X11_isState (by omega) hS hR hK hil hin his ⟨by omega, by omega⟩) rfl (by omega) (by omega) (by omega) rfl rfl (Nat.le_of_ble_eq_true rfl) (ret1 ?_)
  refine j_if_ne (b := 0) (tgt := 13) hc dX11_judge_8 (by decide) (by split <;> exact ⟨by omega, by omega⟩) (fun zc1 => ?_) (fun zc1 => ?_)
  · have zw := one_pos zc1
    have zw1 := zw.1
    obtain ⟨⟨n1, n12⟩, ⟨s0, s4⟩, a0, a40⟩ := zw.2
    obtain ⟨hD, hE, hrn, hyo⟩ := kLd l zw1.1 zw1.2
    have hM := mLd l zw1.1 zw1.2
    obtain ⟨⟨zl0, zl1⟩, mSe, mNe, mPa, mCo, mMi, mRo, mLa, mRn, mHv, mBu, mSl, mGr, mTb⟩ := id hM
    obtain ⟨d1, d2, d3, d4, d5, d6, d7, d8, d9, d10, d11, d12, d13⟩ := id hD
    obtain ⟨y1, y2, y3, y4, y5, y6, y7, y8, y9, y10⟩ := id hE
    have hW := fun k => ru_of (k := k) (l := l) hR hK zw1
    have hWb := fun k => ru_of (k := k) (l := l) (MoR.s37 (l := l) (c := lCo (bD S l)) hR) hK zw1
    refine j_aload_n hc dX11_judge_13 rfl ?_
    refine j_iload_n hc dX11_judge_14 rfl ?_
    refine j_callV (d' := d - 1) hc dX11_judge_15 vX11_348 hS.1 (ev_X11_begin (ru := ruC S l) (by omega) hS hM hD hE hB) rfl (by omega) (by omega) (by omega) rfl rfl (Nat.le_of_ble_eq_true rfl) (retN fun zq15 zp15 => ?_)
    have zT0 := BgA.tb zp15
    have hl := zT0.2.2.2.1
    refine j_iconst hc dX11_judge_18 ?_
    refine j_istore (L' := [_, _, _, _, _]) hc dX11_judge_19 (Nat.le_of_ble_eq_true rfl) rfl ?_
    exact lp_X11_judge (by omega) hWb hM hD hE d3 d4 n1 n12 s0 s4 hc (he.mono fun r h' zp => by obtain ⟨v, zr, zv, zT⟩ := zp; exact ⟨v, zr, by rw [zv]; unfold aJudge; rw [if_pos zw]; rfl, zT.fin (MoR.s37 hR) hX hK⟩) _ 0 _ rfl (by omega) (fun j hj => by omega) zT0
  · have zw5 := one_neg zc1
    refine j_iconst hc dX11_judge_11 ?_
    exact j_iret hc he dX11_judge_12 rfl (by omega) (by omega) ⟨_, rfl, by unfold aJudge; rw [if_neg (by omega)], hMo, Fr.rf _ _⟩
set_option maxRecDepth 100000 in
set_option maxHeartbeats 4000000 in
theorem lp_X11_isStill2 {k : WC} {d : Nat} {w : MC} {s : Int → Int} {A : MAs} {l : Int} {D : LaS} {E : LaY} {ru : RU} {cs : Int} {h0 : AH} {kd n q : Int} (hd : 200 ≤ d) (hWb : ∀ k : WC, RuC k s A E ru) (hM : MlD A l D E) (hD : LOK D) (hE : YOK E) (d3 : 0 ≤ cs) (d4 : cs ≤ 30) (hk0 : 0 ≤ kd) (hk1 : kd ≤ 4) (hn1 : 1 ≤ n) (hn : n ≤ 11) (hs0 : 0 ≤ q) (hs1 : q < lSe D) (hs2 : ∀ q2 a : Int, 0 ≤ q2 → q2 < q → 0 ≤ a → a ≤ 40 → kpS D E ru cs kd n q2 a = kpS D E ru cs kd (n + 1) q2 a) (hc : Cx w k d 0 0 mdX11_isStill) (he : Ends w 0 0 (pe fun v h' => (∃ x : Int, v = vI x ∧ ((x = 1 ∧ alS D E ru cs kd n) ∨ (x = 0 ∧ ¬ alS D E ru cs kd n))) ∧ TbA s A D E ru cs l h0 h')) (kont : ∀ h, (∀ j : Int, 0 ≤ j → j ≤ 40 → kpS D E ru cs kd n q j = kpS D E ru cs kd (n + 1) q j) → TbA s A D E ru cs l h0 h → J w 0 0 56 [some (vR (70, 0)), some (vI kd), some (vI n), some (vI q), some (vI 41)] [] h) : ∀ (zm : Nat) (a : Int) (h : AH), (41 - a).toNat = zm → 0 ≤ a → a ≤ 41 → (∀ j : Int, 0 ≤ j → j < a → kpS D E ru cs kd n q j = kpS D E ru cs kd (n + 1) q j) → TbA s A D E ru cs l h0 h → J w 0 0 18 [some (vR (70, 0)), some (vI kd), some (vI n), some (vI q), some (vI a)] [] h := by
  intro zm
  induction zm using Nat.strongRecOn with
  | _ zm ih =>
    intro a h hm ha0 ha hj hT 
    refine j_iload hc dX11_isStill_18 rfl ?_
    refine j_bipush hc dX11_isStill_20 (by decide) ?_
    refine j_icmp_ge (tgt := 56) hc dX11_isStill_22 (by decide) ⟨by omega, by omega⟩ ⟨by omega, by omega⟩ (fun zc1 => ?_) (fun zc1 => ?_)
    · have zz : a = 41 := by omega
      subst zz
      exact kont h (fun j j0 j1 => hj j j0 (by omega)) hT
    · have zk1 := kpS_b hD hE (ru := ru) (cs := cs) (sr := kd) (n := n) (s := q) (a := a) (by omega)
      have zk2 := kpS_b hD hE (ru := ru) (cs := cs) (sr := kd) (n := (n + 1)) (s := q) (a := a) (by omega)
      refine j_aload_n hc dX11_isStill_25 rfl ?_
      refine j_iload_n hc dX11_isStill_26 rfl ?_
      refine j_iload_n hc dX11_isStill_27 rfl ?_
      refine j_iload_n hc dX11_isStill_28 rfl ?_
      refine j_iload hc dX11_isStill_29 rfl ?_
      refine j_callV (d' := d - 1) hc dX11_isStill_31 vX11_319 hT.1.1 (tb_kept (by omega) hT (hWb _) hM hD hE d3 d4 (by omega) (by omega) (by omega) (by omega) (by omega) (by omega) (by omega) (by omega)) rfl (by omega) (by omega) (by omega) rfl rfl (Nat.le_of_ble_eq_true rfl) (retE fun zv31 zq31 zp31 => ?_)
      obtain ⟨zv1, zT1⟩ := zp31
      subst zv1
      refine j_aload_n hc dX11_isStill_34 rfl ?_
      refine j_iload_n hc dX11_isStill_35 rfl ?_
      refine j_iload_n hc dX11_isStill_36 rfl ?_
      refine j_iconst hc dX11_isStill_37 ?_
      refine j_iadd hc dX11_isStill_38 ?_
      refine j_iload_n hc dX11_isStill_39 rfl ?_
      refine j_iload hc dX11_isStill_40 rfl ?_
      refine j_callV (d' := d - 1) hc dX11_isStill_42 vX11_319 zT1.1.1 (tb_kept (by omega) zT1 (hWb _) hM hD hE d3 d4 (by omega) (by omega) (by omega) (by omega) (by omega) (by omega) (by omega) (by omega)) rfl (by omega) (by omega) (by omega) rfl rfl (Nat.le_of_ble_eq_true rfl) (retE fun zv42 zq42 zp42 => ?_)
      obtain ⟨zv2, zT2⟩ := zp42
      subst zv2
      refine j_icmp_eq (tgt := 50) hc dX11_isStill_45 (by decide) ⟨by omega, by omega⟩ ⟨by omega, by omega⟩ (fun zc2 => ?_) (fun zc2 => ?_)
      · refine j_iinc (L' := [_, _, _, _, _]) hc dX11_isStill_50 rfl (Nat.le_of_ble_eq_true rfl) rfl ?_
        refine j_goto (tgt := 18) hc dX11_isStill_53 (by decide) ?_
        exact ih (41 - (a + 1)).toNat (by omega) (a + 1) _ rfl (by omega) (by omega) (fun j hj0 hj2 => by by_cases e : j = a; (· rw [e]; assumption); exact hj j hj0 (by omega)) zT2
      · refine j_iconst hc dX11_isStill_48 ?_
        exact j_zret hc he dX11_isStill_49 rfl (by omega) (by omega) (by first | exact Or.inl rfl | exact Or.inr rfl) ⟨_, rfl, ⟨0, rfl, Or.inr ⟨rfl, fun z => (by assumption : ¬ _) (z q a hs0 hs1 (by omega) (by omega))⟩⟩, zT2⟩
set_option maxRecDepth 100000 in
set_option maxHeartbeats 4000000 in
theorem lp_X11_isStill1 {k : WC} {d : Nat} {w : MC} {s : Int → Int} {A : MAs} {l : Int} {D : LaS} {E : LaY} {ru : RU} {cs : Int} {h0 : AH} {kd n : Int} (hd : 200 ≤ d) (hWb : ∀ k : WC, RuC k s A E ru) (hM : MlD A l D E) (hD : LOK D) (hE : YOK E) (d3 : 0 ≤ cs) (d4 : cs ≤ 30) (hk0 : 0 ≤ kd) (hk1 : kd ≤ 4) (hn1 : 1 ≤ n) (hn : n ≤ 11)  (hc : Cx w k d 0 0 mdX11_isStill) (he : Ends w 0 0 (pe fun v h' => (∃ x : Int, v = vI x ∧ ((x = 1 ∧ alS D E ru cs kd n) ∨ (x = 0 ∧ ¬ alS D E ru cs kd n))) ∧ TbA s A D E ru cs l h0 h')) : ∀ (zm : Nat) (q : Int) (z4 : Option AV) (h : AH), (4 - q).toNat = zm → 0 ≤ q → q ≤ lSe D → (∀ q2 a : Int, 0 ≤ q2 → q2 < q → 0 ≤ a → a ≤ 40 → kpS D E ru cs kd n q2 a = kpS D E ru cs kd (n + 1) q2 a) → TbA s A D E ru cs l h0 h → J w 0 0 2 [some (vR (70, 0)), some (vI kd), some (vI n), some (vI q), z4] [] h := by
  intro zm
  induction zm using Nat.strongRecOn with
  | _ zm ih =>
    intro q z4 h hm hq0 hq hj hT 
    obtain ⟨⟨zl0, zl1⟩, mSe, -⟩ := id hM
    have hd1 := hD.1
    have hd2 := hD.2.1
    have hl := hT.2.2.2.1
    refine j_iload_n hc dX11_isStill_2 rfl ?_
    refine j_aload_n hc dX11_isStill_3 rfl ?_
    refine j_get hc dX11_isStill_4 fX11_13 hT.1.1 rfl ?_
    refine j_aload_n hc dX11_isStill_7 rfl ?_
    refine j_get hc dX11_isStill_8 fX11_278 hT.1.1 rfl ?_
    rw [hl]
    refine j_iald hc dX11_isStill_11 hT.1.2.2.1 (by omega) (by omega) ?_
    rw [mSe]
    refine j_icmp_ge (tgt := 62) hc dX11_isStill_12 (by decide) ⟨by omega, by omega⟩ ⟨by omega, by omega⟩ (fun zc1 => ?_) (fun zc1 => ?_)
    · refine j_iconst hc dX11_isStill_62 ?_
      exact j_zret hc he dX11_isStill_63 rfl (by omega) (by omega) (by first | exact Or.inl rfl | exact Or.inr rfl) ⟨_, rfl, ⟨1, rfl, Or.inl ⟨rfl, fun q2 a p0 p1 p2 p3 => hj q2 a p0 (by omega) p2 p3⟩⟩, hT⟩
    · refine j_iconst hc dX11_isStill_15 ?_
      refine j_istore (L' := [_, _, _, _, _]) hc dX11_isStill_16 (Nat.le_of_ble_eq_true rfl) rfl ?_
      refine lp_X11_isStill2 hd hWb hM hD hE d3 d4 hk0 hk1 hn1 hn hq0 (by omega) hj hc he (fun h2 zz hT2 => ?_) _ 0 _ rfl (by omega) (by omega) (fun j hj0 hj2 => by omega) hT
      refine j_iinc (L' := [_, _, _, _, _]) hc dX11_isStill_56 rfl (Nat.le_of_ble_eq_true rfl) rfl ?_
      refine j_goto (tgt := 2) hc dX11_isStill_59 (by decide) ?_
      exact ih _ (by omega) (q + 1) _ _ rfl (by omega) (by omega) (fun q2 a p0 p1 p2 p3 => by by_cases e : q2 = q; (· rw [e]; exact zz a p2 p3); exact hj q2 a p0 (by omega) p2 p3) hT2
set_option maxRecDepth 100000 in
set_option maxHeartbeats 4000000 in
theorem tb_isStill {k : WC} {d : Nat} {s : Int → Int} {A : MAs} {l : Int} {D : LaS} {E : LaY} {ru : RU} {cs : Int} {h0 : AH} {kd n : Int} {h : AH} (hd : 200 ≤ d) (hWb : ∀ k : WC, RuC k s A E ru) (hM : MlD A l D E) (hD : LOK D) (hE : YOK E) (d3 : 0 ≤ cs) (d4 : cs ≤ 30) (hk0 : 0 ≤ kd) (hk1 : kd ≤ 4) (hn1 : 1 ≤ n) (hn : n ≤ 11) (hT : TbA s A D E ru cs l h0 h) : Ev k d mdX11_isStill h [vR (70, 0), vI kd, vI n] 0 0 (pe fun v h' => (∃ x : Int, v = vI x ∧ ((x = 1 ∧ alS D E ru cs kd n) ∨ (x = 0 ∧ ¬ alS D E ru cs kd n))) ∧ TbA s A D E ru cs l h0 h') := by
  refine Ev.mk (by decide +kernel) [_, _, _, _, _] rfl (Nat.le_of_ble_eq_true rfl) (fun w hc he => ?_)
  refine j_iconst hc dX11_isStill_0 ?_
  refine j_istore_n (L' := [_, _, _, _, _]) hc dX11_isStill_1 (Nat.le_of_ble_eq_true rfl) rfl ?_
  exact lp_X11_isStill1 hd hWb hM hD hE d3 d4 hk0 hk1 hn1 hn hc he _ 0 _ _ rfl (by omega) (by have := hD.1; omega) (fun q2 a p0 p1 => by omega) hT
set_option maxRecDepth 100000 in
set_option maxHeartbeats 4000000 in
theorem lp_X11_ever {k : WC} {d : Nat} {w : MC} {s : Int → Int} {A : MAs} {l : Int} {D : LaS} {E : LaY} {ru : RU} {cs : Int} {h0 : AH} {kd : Int} (hd : 210 ≤ d) (hWb : ∀ k : WC, RuC k s A E ru) (hM : MlD A l D E) (hD : LOK D) (hE : YOK E) (d3 : 0 ≤ cs) (d4 : cs ≤ 30) (hk0 : 0 ≤ kd) (hk1 : kd ≤ 4)  (hc : Cx w k d 0 0 mdX11_ever) (he : Ends w 0 0 (pe fun v h' => v = vI (fsi (fun n => @decide (alS D E ru cs kd n) (Classical.propDecidable _)) 10 2) ∧ TbA s A D E ru cs l h0 h')) : ∀ (zm : Nat) (n : Nat) (h : AH), 12 - n = zm → 2 ≤ n → n ≤ 12 → (∀ j : Nat, 2 ≤ j → j < n → ¬ alS D E ru cs kd j) → TbA s A D E ru cs l h0 h → J w 0 0 24 [some (vR (70, 0)), some (vI l), some (vI kd), some (vI n)] [] h := by
  intro zm
  induction zm using Nat.strongRecOn with
  | _ zm ih =>
    intro n h hm hn2 hn hj hT 
    refine j_iload_n hc dX11_ever_24 rfl ?_
    refine j_bipush hc dX11_ever_25 (by decide) ?_
    refine j_icmp_ge (tgt := 47) hc dX11_ever_27 (by decide) ⟨by omega, by omega⟩ ⟨by omega, by omega⟩ (fun zc1 => ?_) (fun zc1 => ?_)
    · refine j_iconst hc dX11_ever_47 ?_
      exact j_iret hc he dX11_ever_48 rfl (by omega) (by omega) ⟨_, rfl, by rw [fsi_no (fun i i0 hi => by simp [hj i i0 (by omega)])], hT⟩
    · refine j_aload_n hc dX11_ever_30 rfl ?_
      refine j_iload_n hc dX11_ever_31 rfl ?_
      refine j_iload_n hc dX11_ever_32 rfl ?_
      refine j_callV (d' := d - 1) hc dX11_ever_33 vX11_356 hT.1.1 (tb_isStill (by omega) hWb hM hD hE d3 d4 hk0 hk1 (by omega) (by omega) hT) rfl (by omega) (by omega) (by omega) rfl rfl (Nat.le_of_ble_eq_true rfl) (retE fun zv33 zq33 zp33 => ?_)
      obtain ⟨⟨zx, zv1, zal⟩, zT1⟩ := zp33
      subst zv1
      refine j_if_eq (b := 0) (tgt := 41) hc dX11_ever_36 (by decide) (by rcases zal with ⟨z, -⟩ | ⟨z, -⟩ <;> (rw [z]; exact ⟨by omega, by omega⟩)) (fun zc2 => ?_) (fun zc2 => ?_)
      · refine j_iinc (L' := [_, _, _, _]) hc dX11_ever_41 rfl (Nat.le_of_ble_eq_true rfl) rfl ?_
        refine j_goto (tgt := 24) hc dX11_ever_44 (by decide) ?_
        exact ih _ (by omega) (n + 1) _ rfl (by omega) (by omega) (fun j j0 hj2 => by by_cases e : j = n; (· rw [e]; rcases zal with ⟨z1, -⟩ | ⟨-, z2⟩; (· omega); exact z2); exact hj j j0 (by omega)) zT1
      · refine j_iload_n hc dX11_ever_39 rfl ?_
        exact j_iret hc he dX11_ever_40 rfl (by omega) (by omega) ⟨_, rfl, by rw [fsi_at (j := n) (by omega) (by omega) (fun i i0 hi => by simp [hj i i0 hi]) (by rcases zal with ⟨-, z2⟩ | ⟨z1, -⟩; (· simp [z2]); exact absurd z1 (by assumption))], zT1⟩
set_option maxRecDepth 100000 in
set_option maxHeartbeats 4000000 in
theorem ev_X11_ever_a {k : WC} {d : Nat} {h : AH} {S : BaS} {th : Int} {l sr : Int} (hd : 300 ≤ d) (hMo : ModAt h S th) (hil : inI l) (hir : inI sr) : Ev k d mdX11_ever h [vR (70, 0), vI l, vI sr] 0 0 (pe fun v h' => v = vI (aEver S l sr) ∧ ModAt h' S th ∧ Fr isMo h h') := by
  obtain ⟨s, A, hS, hR, hB, hX, hK⟩ := id hMo
  obtain ⟨m0, m2, m22, m27, m44, m45, m46, mTp, mLd, mRu, mRw, mFr⟩ := id hR
  obtain ⟨⟨kTa, kTb⟩, ⟨kL0, kL1⟩, ⟨kR0, kR1⟩, kLd, kRu, kRw, ⟨kT0, kT1⟩, kS0, kS1⟩ := id hK
  refine Ev.mk (by decide +kernel) [_, _, _, _] rfl (Nat.le_of_ble_eq_true rfl) (fun w hc he => ?_)
  refine j_aload_n hc dX11_ever_0 rfl ?_
  refine j_iload_n hc dX11_ever_1 rfl ?_
  refine j_callV (d' := d - 1) hc dX11_ever_2 vX11_257 hS.1 (ev_X11_isLand (by omega) hS hR hK hil) rfl (by omega) (by omega) (by omega) rfl rfl (Nat.le_of_ble_eq_true rfl) (ret1 ?_)
  refine j_if_eq (b := 0) (tgt := 15) hc dX11_ever_5 (by decide) (by split <;> exact ⟨by omega, by omega⟩) (fun zc1 => ?_) (fun zc1 => ?_)
  · have zw5 := one_neg zc1
    refine j_iconst hc dX11_ever_15 ?_
    exact j_iret hc he dX11_ever_16 rfl (by omega) (by omega) ⟨_, rfl, by unfold aEver; rw [if_neg (by omega)], hMo, Fr.rf _ _⟩
  · have zw1 := one_pos zc1
    obtain ⟨hD, hE, hrn, hyo⟩ := kLd l zw1.1 zw1.2
    have hM := mLd l zw1.1 zw1.2
    obtain ⟨⟨zl0, zl1⟩, mSe, mNe, mPa, mCo, mMi, mRo, mLa, mRn, mHv, mBu, mSl, mGr, mTb⟩ := id hM
    obtain ⟨d1, d2, d3, d4, d5, d6, d7, d8, d9, d10, d11, d12, d13⟩ := id hD
    obtain ⟨y1, y2, y3, y4, y5, y6, y7, y8, y9, y10⟩ := id hE
    have hW := fun k => ru_of (k := k) (l := l) hR hK zw1
    have hWb := fun k => ru_of (k := k) (l := l) (MoR.s37 (l := l) (c := lCo (bD S l)) hR) hK zw1
    refine j_iload_n hc dX11_ever_8 rfl ?_
    refine j_callS (d' := d - 1) hc dX11_ever_9 sX11_345 (ev_X11_isKind (by omega) hir) rfl (by omega) (by omega) (by omega) rfl rfl (Nat.le_of_ble_eq_true rfl) (ret1 ?_)
    refine j_if_ne (b := 0) (tgt := 17) hc dX11_ever_12 (by decide) (by split <;> exact ⟨by omega, by omega⟩) (fun zc2 => ?_) (fun zc2 => ?_)
    · have zk := one_pos zc2
      refine j_aload_n hc dX11_ever_17 rfl ?_
      refine j_iload_n hc dX11_ever_18 rfl ?_
      refine j_callV (d' := d - 1) hc dX11_ever_19 vX11_348 hS.1 (ev_X11_begin (ru := ruC S l) (by omega) hS hM hD hE hB) rfl (by omega) (by omega) (by omega) rfl rfl (Nat.le_of_ble_eq_true rfl) (retN fun zq19 zp19 => ?_)
      have zT0 := BgA.tb zp19
      have hl := zT0.2.2.2.1
      refine j_iconst hc dX11_ever_22 ?_
      refine j_istore_n (L' := [_, _, _, _]) hc dX11_ever_23 (Nat.le_of_ble_eq_true rfl) rfl ?_
      exact lp_X11_ever (by omega) hWb hM hD hE d3 d4 (by omega) (by omega) hc (he.mono fun r h' zp => by obtain ⟨v, zr, zv, zT⟩ := zp; exact ⟨v, zr, by rw [zv]; unfold aEver; rw [if_pos ⟨zw1, zk⟩]; skip, zT.fin (MoR.s37 hR) hX hK⟩) _ 2 _ rfl (by omega) (by omega) (fun j j0 hj => by omega) zT0
    · have zk := one_neg zc2
      refine j_iconst hc dX11_ever_15 ?_
      exact j_iret hc he dX11_ever_16 rfl (by omega) (by omega) ⟨_, rfl, by unfold aEver; rw [if_neg (by omega)], hMo, Fr.rf _ _⟩
