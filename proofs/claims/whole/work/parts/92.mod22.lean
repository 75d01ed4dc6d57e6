/-! ===== the reference: run, blame ===== -/
theorem MoB.fq {h h' : AH} (q : ∀ z : Nm, isDf z → h' z = h z) (a : MoB h) : MoB h' := by
  obtain ⟨⟨f0, a0⟩, ⟨f1, a1⟩, ⟨f2, a2⟩, ⟨f3, a3⟩, ⟨f4, a4⟩, ⟨f5, a5⟩, f6, a6⟩ := a
  exact ⟨⟨f0, (q _ (by decide)).trans a0⟩, ⟨f1, (q _ (by decide)).trans a1⟩, ⟨f2, (q _ (by decide)).trans a2⟩, ⟨f3, (q _ (by decide)).trans a3⟩, ⟨f4, (q _ (by decide)).trans a4⟩, ⟨f5, (q _ (by decide)).trans a5⟩, f6, (q _ (by decide)).trans a6⟩
theorem wrS_at {f f' : Int → Int} {p a b c d e g q x : Int} (h0 : p ≤ x) (h1 : x ≤ p + 6) : wrS f p a b c d e g q x = wrS f' p a b c d e g q x := by
  unfold wrS fu
  repeat' split
  all_goals first | rfl | omega
theorem syN_cell {D : LaS} {E : LaY} {sr : Int} {kq : Int → Int → Int} {rf : Int → Int} {f0 f1 : Int → Int} {b0 : Int} : ∀ (m i : Nat), i < m → ∀ x : Int, 0 ≤ x → x < 7 → (syN D E sr kq rf f0 b0 m).1 (7 * i + x) = (syN D E sr kq rf f1 b0 m).1 (7 * i + x)
  | 0, i, h, _, _, _ => by omega
  | m + 1, i, h, x, x0, x1 => by
    simp only [syN, sy1]
    rw [syN_f0 (f0 := f0) (f1 := f1) m]
    by_cases e : i = m
    · rw [e]
      exact wrS_at (by unfold plS; omega) (by unfold plS; omega)
    · rw [wrS_lo (by unfold plS; omega), wrS_lo (by unfold plS; omega)]
      exact syN_cell m i (by omega) x x0 x1
set_option maxRecDepth 100000 in
set_option maxHeartbeats 4000000 in
theorem ev_X11_go {k : WC} {d : Nat} {h : AH} {s : Int → Int} {A : MAs} {l : Int} {D : LaS} {E : LaY} {ru : RU} {kd n b : Int} {rf f0 : Int → Int} {m : Nat} (hd : 220 ≤ d) (hS : MdS h s A) (hB : MoB h) (z47 : h (247, 0) = some (oI 280 f0)) (hWs : ∀ (k : WC) (p : Int), RuC k (fu (fu (fu s 37 l) 38 (lCo D)) 48 p) A E ru) (hM : MlD A l D E) (hD : LOK D) (hE : YOK E) (hk0 : 0 ≤ kd) (hk1 : kd ≤ 4) (hn1 : 1 ≤ n) (hn : n ≤ 12) (hb0 : 0 ≤ b) (hb1 : b ≤ 20) (hm40 : m ≤ 40) (hm42 : A 42 0 = m) (hrw : ∀ x : Int, 0 ≤ x → x < 40 → A 41 x = rf x ∧ 0 ≤ rf x ∧ rf x ≤ 20) : Ev k d mdX11_go h [vR (70, 0), vI l, vI kd, vI n, vI b] 0 0 (pe fun v h' => v = vI (suF (hyS D E kd (fun s a => kpS D E ru (lCo D) kd n s a) rf b) m) ∧ MdS h' (fu (fu (fu s 37 l) 38 (lCo D)) 48 (syN D E kd (fun s a => kpS D E ru (lCo D) kd n s a) rf f0 b m).2.2.2.2) A ∧ MoB h' ∧ h' (247, 0) = some (oI 280 (syN D E kd (fun s a => kpS D E ru (lCo D) kd n s a) rf f0 b m).1) ∧ Fr isTg h h') := by
  refine Ev.mk (by decide +kernel) [_, _, _, _, _, _, _, _, _, _, _, _, _, _] rfl (Nat.le_of_ble_eq_true rfl) (fun w hc he => ?_)
  refine j_aload_n hc dX11_go_0 rfl ?_
  refine j_iload_n hc dX11_go_1 rfl ?_
  refine j_callV (d' := d - 1) hc dX11_go_2 vX11_348 hS.1 (ev_X11_begin (ru := ru) (by omega) hS hM hD hE hB) rfl (by omega) (by omega) (by omega) rfl rfl (Nat.le_of_ble_eq_true rfl) (retN fun zq2 zp2 => ?_)
  obtain ⟨zb1, zb2, zb3⟩ := zp2
  have zb9 := zb2 (lCo D)
  have zb7 := (zb3 _ (by decide)).trans z47
  refine j_iload hc dX11_go_5 rfl ?_
  refine j_istore (L' := [_, _, _, _, _, _, _, _, _, _, _, _, _, _]) hc dX11_go_7 (Nat.le_of_ble_eq_true rfl) rfl ?_
  refine j_iconst hc dX11_go_9 ?_
  refine j_istore (L' := [_, _, _, _, _, _, _, _, _, _, _, _, _, _]) hc dX11_go_10 (Nat.le_of_ble_eq_true rfl) rfl ?_
  refine j_iconst hc dX11_go_12 ?_
  refine j_istore (L' := [_, _, _, _, _, _, _, _, _, _, _, _, _, _]) hc dX11_go_13 (Nat.le_of_ble_eq_true rfl) rfl ?_
  refine j_aload_n hc dX11_go_15 rfl ?_
  refine j_iconst hc dX11_go_16 ?_
  refine j_put  hc dX11_go_17 pX11_367 zb1.1 rfl mset_48 ?_
  generalize ezh1 : up _ _ _ = zh1
  have zzmod_zh1 := MdS.pf ezh1 zb1
  have zzmom_zh1 := MoM.mv ezh1 (by simp) zb9
  have zM47_zh1 := (congrFun ezh1 _).symm.trans ((up_ne (by simp)).trans zb7)
  refine j_iconst hc dX11_go_20 ?_
  refine j_istore (L' := [_, _, _, _, _, _, _, _, _, _, _, _, _, _]) hc dX11_go_21 (Nat.le_of_ble_eq_true rfl) rfl ?_
  exact lp_X11_go (s := (fu (fu s 37 l) 38 (lCo D))) (cs := lCo D) (by omega) hWs hM hD hE hD.2.2.1 hD.2.2.2.1 rfl rfl hk0 hk1 hn1 hn hb0 hb1 hm40 hm42 hrw hc (he.mono fun r h' zp => by obtain ⟨v, zr, y1, y2, y3, y4, y5⟩ := zp; exact ⟨v, zr, y1, y2, y3.b, y4, y5⟩) _ 0 0 b 0 0 0 _ _ _ _ _ f0 _ rfl (by omega) rfl rfl zzmod_zh1 zzmom_zh1 zM47_zh1 (by rw [← ezh1]; exact (zb3.mono fun z zz => Or.inl zz).push (Or.inl (Or.inl rfl)))
set_option maxRecDepth 100000 in
set_option maxHeartbeats 4000000 in
theorem lp_X11_run_ {k : WC} {d : Nat} {w : MC} {h0 : AH} {s : Int → Int} {A : MAs} {l kd n b : Int} {m : Nat} {tr : Int → Int} (hd : 2 ≤ d) (hm40 : m ≤ 40) (h45 : s 45 = m) (hc : Cx w k d 0 0 mdX11_run_) (he : Ends w 0 0 (pe fun v h' => v = vI m ∧ ∃ f : Int → Int, h' (243, 0) = some (oI 560 f) ∧ (∀ x : Int, 0 ≤ x → x < 7 * m → f x = tr x) ∧ MdS h' s A ∧ Fr (fun z => z = (243, 0)) h0 h')) : ∀ (zm : Nat) (j : Nat) (f : Int → Int) (h : AH), 7 * m - j = zm → j ≤ 7 * m → (∀ x : Int, 0 ≤ x → x < j → f x = tr x) → MdS h s A → h (243, 0) = some (oI 560 f) → h (247, 0) = some (oI 280 tr) → Fr (fun z => z = (243, 0)) h0 h → J w 0 0 50 [some (vR (70, 0)), some (vI l), some (vI kd), some (vI n), some (vI b), some (vI j)] [] h := by
  intro zm
  induction zm using Nat.strongRecOn with
  | _ zm ih =>
    intro j f h hm hj hf hS z43 z47 hF
    refine j_iload hc dX11_run__50 rfl ?_
    refine j_bipush hc dX11_run__52 (by decide) ?_
    refine j_aload_n hc dX11_run__54 rfl ?_
    refine j_get hc dX11_run__55 fX11_386 hS.1 rfl ?_
    rw [h45]
    refine j_imul hc dX11_run__58 ?_
    refine j_icmp_ge (tgt := 82) hc dX11_run__59 (by decide) ⟨by omega, by omega⟩ ⟨by omega, by omega⟩ (fun zc1 => ?_) (fun zc1 => ?_)
    · refine j_aload_n hc dX11_run__82 rfl ?_
      refine j_get hc dX11_run__83 fX11_386 hS.1 rfl ?_
      rw [h45]
      exact j_iret hc he dX11_run__86 rfl (by omega) (by omega) ⟨_, rfl, rfl, f, z43, fun x x0 x1 => hf x x0 (by omega), hS, hF⟩
    · refine j_aload_n hc dX11_run__62 rfl ?_
      refine j_get hc dX11_run__63 fX11_108 hS.1 rfl ?_
      refine j_iload hc dX11_run__66 rfl ?_
      refine j_aload_n hc dX11_run__68 rfl ?_
      refine j_get hc dX11_run__69 fX11_111 hS.1 rfl ?_
      refine j_iload hc dX11_run__72 rfl ?_
      refine j_iald hc dX11_run__74 z47 (by omega) (by omega) ?_
      refine j_iast hc dX11_run__75 z43 (by omega) (by omega) ?_
      generalize ezh1 : up _ _ _ = zh1
      have zzmod_zh1 := MdS.mv ezh1 (by simp) hS
      have zM43_zh1 := (congrFun ezh1 _).symm.trans (up_same _ _ _)
      have zM47_zh1 := (congrFun ezh1 _).symm.trans ((up_ne (by simp)).trans z47)
      refine j_iinc (L' := [_, _, _, _, _, _]) hc dX11_run__76 rfl (Nat.le_of_ble_eq_true rfl) rfl ?_
      refine j_goto (tgt := 50) hc dX11_run__79 (by decide) ?_
      exact ih _ (by omega) (j + 1) _ _ rfl (by omega) (fun x x0 x1 => by by_cases e : x = j; (· rw [e, fu_same]); exact (fu_ne e).trans (hf x x0 (by omega))) zzmod_zh1 zM43_zh1 zM47_zh1 (by rw [← ezh1]; exact hF.push rfl)
set_option maxRecDepth 100000 in
set_option maxHeartbeats 4000000 in
theorem ev_X11_run__a {k : WC} {d : Nat} {h : AH} {S : BaS} {th : Int} {l sr n b : Int} (hd : 240 ≤ d) (hMo : ModAt h S th) (hil : inI l) (hir : inI sr) (hin : inI n) (hib : inI b) (hK' : BOK (nRun S l sr n b)) : Ev k d mdX11_run_ h [vR (70, 0), vI l, vI sr, vI n, vI b] 0 0 (pe fun v h' => v = vI (if rnV S l sr n b then bRl S 0 else -1) ∧ ModAt h' (nRun S l sr n b) th ∧ Fr isMo h h') := by
  obtain ⟨s, A, hS, hR, hB, hX, hK⟩ := id hMo
  obtain ⟨m0, m2, m22, m27, m44, m45, m46, mTp, mLd, mRu, mRw, mFr⟩ := id hR
  obtain ⟨⟨kTa, kTb⟩, ⟨kL0, kL1⟩, ⟨kR0, kR1⟩, kLd, kRu, kRw, ⟨kT0, kT1⟩, kS0, kS1⟩ := id hK
  obtain ⟨⟨f39, z39⟩, ⟨f40, z40⟩, ⟨f43, z43, zrn⟩, f47, z47⟩ := id hX
  refine Ev.mk (by decide +kernel) [_, _, _, _, _, _] rfl (Nat.le_of_ble_eq_true rfl) (fun w hc he => ?_)
  refine j_aload_n hc dX11_run__0 rfl ?_
  refine j_iload_n hc dX11_run__1 rfl ?_
  refine j_iload_n hc dX11_run__2 rfl ?_
  refine j_iload_n hc dX11_run__3 rfl ?_
  refine j_iload hc dX11_run__4 rfl ?_
  refine j_callV (d' := d - 1) hc dX11_run__6 vX11_377 hS.1 (ev_X11_mayRun (by omega) hS hR hK hil hir hin hib) rfl (by omega) (by omega) (by omega) rfl rfl (Nat.le_of_ble_eq_true rfl) (ret1 ?_)
  refine j_if_ne (b := 0) (tgt := 14) hc dX11_run__9 (by decide) (by split <;> exact ⟨by omega, by omega⟩) (fun zc1 => ?_) (fun zc1 => ?_)
  · have zw := one_pos zc1
    have zw1 := zw.1.1
    obtain ⟨⟨n1, n12⟩, k0, k4⟩ := zw.1.2
    obtain ⟨b0, b20⟩ := zw.2
    obtain ⟨hD, hE, hrn, hyo⟩ := kLd l zw1.1 zw1.2
    have hM := mLd l zw1.1 zw1.2
    obtain ⟨⟨zl0, zl1⟩, mSe, mNe, mPa, mCo, mMi, mRo, mLa, mRn, mHv, mBu, mSl, mGr, mTb⟩ := id hM
    obtain ⟨d1, d2, d3, d4, d5, d6, d7, d8, d9, d10, d11, d12, d13⟩ := id hD
    obtain ⟨y1, y2, y3, y4, y5, y6, y7, y8, y9, y10⟩ := id hE
    have hW := fun k => ru_of (k := k) (l := l) hR hK zw1
    have hWb := fun k => ru_of (k := k) (l := l) (MoR.s37 (l := l) (c := lCo (bD S l)) hR) hK zw1
    obtain ⟨zq1, zq2⟩ := mRw 0 (by omega) (by omega)
    obtain ⟨zq3, zq4, zq5⟩ := kRw 0 (by omega) (by omega)
    have zrw : ∀ x : Int, 0 ≤ x → x < 40 → A 41 x = bRw S 0 x ∧ 0 ≤ bRw S 0 x ∧ bRw S 0 x ≤ 20 := fun x x0 x1 => by have y := zq2 x x0 x1; rw [show 40 * 0 + x = x by omega] at y; exact ⟨y, zq5 x x0 x1⟩
    obtain ⟨m, hm⟩ : ∃ m : Nat, bRl S 0 = m := ⟨(bRl S 0).toNat, by omega⟩
    rw [hm] at zq1 zq3 zq4
    refine j_aload_n hc dX11_run__14 rfl ?_
    refine j_iload_n hc dX11_run__15 rfl ?_
    refine j_iload_n hc dX11_run__16 rfl ?_
    refine j_iload_n hc dX11_run__17 rfl ?_
    refine j_iload hc dX11_run__18 rfl ?_
    refine j_callV (d' := d - 1) hc dX11_run__20 vX11_380 hS.1 (ev_X11_go (ru := ruC S l) (rf := bRw S 0) (m := m) (by omega) hS hB z47 (fun k p => ru_of (k := k) (l := l) (show MoR (fu (fu (fu s 37 l) 38 (lCo (bD S l))) 48 p) A S th from hR) hK zw1) hM hD hE k0 k4 n1 n12 b0 b20 (by omega) zq1 zrw) rfl (by omega) (by omega) (by omega) rfl rfl (Nat.le_of_ble_eq_true rfl) (retE fun zv20 zq20 zp20 => ?_)
    obtain ⟨zv1, zS1, zB1, z471, zF1⟩ := zp20
    subst zv1
    refine j_pop hc dX11_run__23 rfl ?_
    have z431 := (zF1 (243, 0) (by decide)).trans z43
    have z391 := (zF1 (239, 0) (by decide)).trans z39
    have z401 := (zF1 (240, 0) (by decide)).trans z40
    refine j_aload_n hc dX11_run__24 rfl ?_
    refine j_iconst hc dX11_run__25 ?_
    refine j_put  hc dX11_run__26 pX11_383 zS1.1 rfl mset_44 ?_
    generalize ezh1 : up _ _ _ = zh1
    have zzmod_zh1 := MdS.pf ezh1 zS1
    have zzmob_zh1 := MoB.mv ezh1 (by simp) zB1
    have zM43_zh1 := (congrFun ezh1 _).symm.trans ((up_ne (by simp)).trans z431)
    have zM47_zh1 := (congrFun ezh1 _).symm.trans ((up_ne (by simp)).trans z471)
    have zM39_zh1 := (congrFun ezh1 _).symm.trans ((up_ne (by simp)).trans z391)
    have zM40_zh1 := (congrFun ezh1 _).symm.trans ((up_ne (by simp)).trans z401)
    refine j_aload_n hc dX11_run__29 rfl ?_
    refine j_aload_n hc dX11_run__30 rfl ?_
    refine j_get hc dX11_run__31 fX11_105 zzmod_zh1.1 rfl ?_
    refine j_iconst hc dX11_run__34 ?_
    refine j_iald hc dX11_run__35 zzmod_zh1.2.2.2.2.2.2.2.2.2.2.2.2.2.2.2.2.2.2.2.2.2.2.2 (by omega) (by omega) ?_
    rw [zq1]
    refine j_put  hc dX11_run__36 pX11_386 zzmod_zh1.1 rfl mset_45 ?_
    generalize ezh2 : up _ _ _ = zh2
    have zzmod_zh2 := MdS.pf ezh2 zzmod_zh1
    have zzmob_zh2 := MoB.mv ezh2 (by simp) zzmob_zh1
    have zM43_zh2 := (congrFun ezh2 _).symm.trans ((up_ne (by simp)).trans zM43_zh1)
    have zM47_zh2 := (congrFun ezh2 _).symm.trans ((up_ne (by simp)).trans zM47_zh1)
    have zM39_zh2 := (congrFun ezh2 _).symm.trans ((up_ne (by simp)).trans zM39_zh1)
    have zM40_zh2 := (congrFun ezh2 _).symm.trans ((up_ne (by simp)).trans zM40_zh1)
    refine j_aload_n hc dX11_run__39 rfl ?_
    refine j_aload_n hc dX11_run__40 rfl ?_
    refine j_get hc dX11_run__41 fX11_367 zzmod_zh2.1 rfl ?_
    refine j_put  hc dX11_run__44 pX11_389 zzmod_zh2.1 rfl mset_46 ?_
    generalize ezh3 : up _ _ _ = zh3
    have zzmod_zh3 := MdS.pf ezh3 zzmod_zh2
    have zzmob_zh3 := MoB.mv ezh3 (by simp) zzmob_zh2
    have zM43_zh3 := (congrFun ezh3 _).symm.trans ((up_ne (by simp)).trans zM43_zh2)
    have zM47_zh3 := (congrFun ezh3 _).symm.trans ((up_ne (by simp)).trans zM47_zh2)
    have zM39_zh3 := (congrFun ezh3 _).symm.trans ((up_ne (by simp)).trans zM39_zh2)
    have zM40_zh3 := (congrFun ezh3 _).symm.trans ((up_ne (by simp)).trans zM40_zh2)
    refine j_iconst hc dX11_run__47 ?_
    refine j_istore (L' := [_, _, _, _, _, _]) hc dX11_run__48 (Nat.le_of_ble_eq_true rfl) rfl ?_
    refine lp_X11_run_ (m := m) (by omega) (by omega) rfl hc (he.mono fun r h' zp => ?_) _ 0 f43 _ rfl (by omega) (fun x x0 x1 => by omega) zzmod_zh3 zM43_zh3 zM47_zh3 (Fr.rf _ _)
    obtain ⟨v, zr, zv, f, y1, y2, y3, y4⟩ := zp
    refine ⟨v, zr, by rw [zv, if_pos zw, hm], ?_, ?_⟩
    · have zN : nRun S l sr n b = sSt S (ruS S l sr n b (bCe S)).1 1 (bRl S 0) (ruS S l sr n b (bCe S)).2.2.2.2 := if_pos zw
      rw [zN] at hK' ⊢
      have zcE : (ruS S l sr n b (bCe S)).2.2.2.2 = (syN (bD S l) (bE S l) sr (fun s a => kpS (bD S l) (bE S l) (ruC S l) (lCo (bD S l)) sr n s a) (bRw S 0) f47 b m).2.2.2.2 := by
        show (syN _ _ _ _ _ _ _ (bRl S 0).toNat).2.2.2.2 = _
        rw [hm, Int.toNat_natCast, syN_f0 (f1 := f47) m]
        rfl
      refine ⟨_, A, y3, ⟨m0, m2, m22, m27, rfl, hm.symm, zcE.symm, mTp, mLd, mRu, mRw, mFr⟩, MoB.fq (fun z hz => y4 z (fun y => by rw [y] at hz; exact absurd hz (by decide))) zzmob_zh3, ⟨⟨f39, (y4 _ (by decide)).trans zM39_zh3⟩, ⟨f40, (y4 _ (by decide)).trans zM40_zh3⟩, ⟨f, y1, fun t i x t0 t1 i0 i1 x0 x1 => ?_⟩, _, (y4 _ (by decide)).trans zM47_zh3⟩, hK'⟩
      have t1' : t < 1 := t1
      have i1' : i < bRl S 0 := i1
      have zt : t = 0 := by omega
      subst zt
      obtain ⟨i, rfl⟩ : ∃ z : Nat, i = z := ⟨i.toNat, by omega⟩
      rw [show 7 * (40 * 0 + (i : Int)) + x = 7 * (i : Int) + x by omega, y2 _ (by omega) (by omega)]
      show _ = (syN _ _ _ _ _ _ _ (bRl S 0).toNat).1 _
      rw [hm, Int.toNat_natCast]
      exact syN_cell m i (by omega) x x0 x1
    · exact Fr.tr (by rw [← ezh3, ← ezh2, ← ezh1]; exact (((zF1.mono fun z zz => isTg_mo zz).push (Or.inl rfl)).push (Or.inl rfl)).push (Or.inl rfl)) (y4.mono fun z zz => by rw [zz]; exact Or.inr (by decide))
  · have zw5 := one_neg zc1
    refine j_iconst hc dX11_run__12 ?_
    exact j_iret hc he dX11_run__13 rfl (by omega) (by omega) ⟨_, rfl, by rw [if_neg zw5], by unfold nRun; rw [if_neg zw5]; exact hMo, Fr.rf _ _⟩
set_option maxRecDepth 100000 in
set_option maxHeartbeats 4000000 in
theorem ev_X11_blame_a {k : WC} {d : Nat} {h : AH} {S : BaS} {th : Int} {l sr n b : Int} (hd : 240 ≤ d) (hMo : ModAt h S th) (hil : inI l) (hir : inI sr) (hin : inI n) (hib : inI b) : Ev k d mdX11_blame h [vR (70, 0), vI l, vI sr, vI n, vI b] 0 0 (pe fun v h' => v = vI (aBlame S l sr n b) ∧ ModAt h' S th ∧ Fr isMo h h') := by
  obtain ⟨s, A, hS, hR, hB, hX, hK⟩ := id hMo
  obtain ⟨m0, m2, m22, m27, m44, m45, m46, mTp, mLd, mRu, mRw, mFr⟩ := id hR
  obtain ⟨⟨kTa, kTb⟩, ⟨kL0, kL1⟩, ⟨kR0, kR1⟩, kLd, kRu, kRw, ⟨kT0, kT1⟩, kS0, kS1⟩ := id hK
  obtain ⟨⟨f39, z39⟩, ⟨f40, z40⟩, ⟨f43, z43, zrn⟩, f47, z47⟩ := id hX
  refine Ev.mk (by decide +kernel) [_, _, _, _, _] rfl (Nat.le_of_ble_eq_true rfl) (fun w hc he => ?_)
  refine j_aload_n hc dX11_blame_0 rfl ?_
  refine j_iload_n hc dX11_blame_1 rfl ?_
  refine j_iload_n hc dX11_blame_2 rfl ?_
  refine j_iload_n hc dX11_blame_3 rfl ?_
  refine j_iload hc dX11_blame_4 rfl ?_
  refine j_callV (d' := d - 1) hc dX11_blame_6 vX11_377 hS.1 (ev_X11_mayRun (by omega) hS hR hK hil hir hin hib) rfl (by omega) (by omega) (by omega) rfl rfl (Nat.le_of_ble_eq_true rfl) (ret1 ?_)
  refine j_if_ne (b := 0) (tgt := 16) hc dX11_blame_9 (by decide) (by split <;> exact ⟨by omega, by omega⟩) (fun zc1 => ?_) (fun zc1 => ?_)
  · have zw := one_pos zc1
    have zw1 := zw.1.1
    obtain ⟨⟨n1, n12⟩, k0, k4⟩ := zw.1.2
    obtain ⟨b0, b20⟩ := zw.2
    obtain ⟨hD, hE, hrn, hyo⟩ := kLd l zw1.1 zw1.2
    have hM := mLd l zw1.1 zw1.2
    obtain ⟨⟨zl0, zl1⟩, mSe, mNe, mPa, mCo, mMi, mRo, mLa, mRn, mHv, mBu, mSl, mGr, mTb⟩ := id hM
    obtain ⟨d1, d2, d3, d4, d5, d6, d7, d8, d9, d10, d11, d12, d13⟩ := id hD
    obtain ⟨y1, y2, y3, y4, y5, y6, y7, y8, y9, y10⟩ := id hE
    have hW := fun k => ru_of (k := k) (l := l) hR hK zw1
    have hWb := fun k => ru_of (k := k) (l := l) (MoR.s37 (l := l) (c := lCo (bD S l)) hR) hK zw1
    obtain ⟨zq1, zq2⟩ := mRw 0 (by omega) (by omega)
    obtain ⟨zq3, zq4, zq5⟩ := kRw 0 (by omega) (by omega)
    have zrw : ∀ x : Int, 0 ≤ x → x < 40 → A 41 x = bRw S 0 x ∧ 0 ≤ bRw S 0 x ∧ bRw S 0 x ≤ 20 := fun x x0 x1 => by have y := zq2 x x0 x1; rw [show 40 * 0 + x = x by omega] at y; exact ⟨y, zq5 x x0 x1⟩
    obtain ⟨m, hm⟩ : ∃ m : Nat, bRl S 0 = m := ⟨(bRl S 0).toNat, by omega⟩
    rw [hm] at zq1 zq3 zq4
    refine j_aload_n hc dX11_blame_16 rfl ?_
    refine j_iload_n hc dX11_blame_17 rfl ?_
    refine j_iload_n hc dX11_blame_18 rfl ?_
    refine j_iload_n hc dX11_blame_19 rfl ?_
    refine j_iload hc dX11_blame_20 rfl ?_
    refine j_callV (d' := d - 1) hc dX11_blame_22 vX11_380 hS.1 (ev_X11_go (ru := ruC S l) (rf := bRw S 0) (m := m) (by omega) hS hB z47 (fun k p => ru_of (k := k) (l := l) (show MoR (fu (fu (fu s 37 l) 38 (lCo (bD S l))) 48 p) A S th from hR) hK zw1) hM hD hE k0 k4 n1 n12 b0 b20 (by omega) zq1 zrw) rfl (by omega) (by omega) (by omega) rfl rfl (Nat.le_of_ble_eq_true rfl) (retE fun zv22 zq22 zp22 => ?_)
    obtain ⟨zv1, zS1, zB1, z471, zF1⟩ := zp22
    subst zv1
    refine j_aload_n hc dX11_blame_25 rfl ?_
    refine j_iload_n hc dX11_blame_26 rfl ?_
    refine j_iconst hc dX11_blame_27 ?_
    refine j_iload_n hc dX11_blame_28 rfl ?_
    refine j_iload hc dX11_blame_29 rfl ?_
    refine j_callV (d' := d - 1) hc dX11_blame_31 vX11_380 zS1.1 (ev_X11_go (ru := ruC S l) (rf := bRw S 0) (m := m) (by omega) zS1 zB1 z471 (fun k p => ru_of (k := k) (l := l) (show MoR (fu (fu (fu _ 37 l) 38 (lCo (bD S l))) 48 p) A S th from hR) hK zw1) hM hD hE (by omega) (by omega) n1 n12 b0 b20 (by omega) zq1 zrw) rfl (by omega) (by omega) (by omega) rfl rfl (Nat.le_of_ble_eq_true rfl) (retE fun zv31 zq31 zp31 => ?_)
    obtain ⟨zv2, zS2, zB2, z472, zF2⟩ := zp31
    subst zv2
    refine j_isub hc dX11_blame_34 ?_
    exact j_iret hc he dX11_blame_35 rfl (by omega) (by omega) ⟨_, rfl, by unfold aBlame; rw [if_pos zw]; unfold hgS; rw [hm, Int.toNat_natCast]; rfl, ⟨_, A, zS2, (show MoR _ A S th from hR), zB2, ⟨⟨f39, (zF2 _ (by decide)).trans ((zF1 _ (by decide)).trans z39)⟩, ⟨f40, (zF2 _ (by decide)).trans ((zF1 _ (by decide)).trans z40)⟩, ⟨f43, (zF2 _ (by decide)).trans ((zF1 _ (by decide)).trans z43), zrn⟩, _, z472⟩, hK⟩, (zF1.tr zF2).mono fun z zz => isTg_mo zz⟩
  · have zw5 := one_neg zc1
    refine j_ldcw (x := -100000) hc dX11_blame_12 kX11_392 (by decide) ?_
    exact j_iret hc he dX11_blame_15 rfl (by omega) (by omega) ⟨_, rfl, by unfold aBlame; rw [if_neg zw5], hMo, Fr.rf _ _⟩
