/-! ===== the reference: answers about a land ===== -/
theorem Ev.mono {k : WC} {d : Nat} {y : MD} {h : AH} {as : List AV} {mc ms : Nat} {P P' : Option AV → AH → Prop} (a : Ev k d y h as mc ms P) (hp : ∀ r h, P r h → P' r h) : Ev k d y h as mc ms P' := fun ρ => by
  refine Jvm.Free.MetFree.mono (a ρ) (fun _ _ z => z) (fun _ _ _ _ _ z => z) (fun _ _ _ _ _ q => ⟨?_, q.2⟩)
  obtain ⟨⟨⟨ρ', r, h', a1, a2, a3, a4⟩, a5⟩, -⟩ := q
  exact ⟨⟨ρ', r, h', a1, a2, hp r h' a3, a4⟩, a5⟩
theorem goN_ge {D : LaS} : ∀ m : Nat, goN D (lNe D + m) = goN D (lNe D)
  | 0 => rfl
  | m + 1 => by
    show goN D (lNe D + m) + prS D ((lNe D + m : Nat) : Int) = _
    rw [goN_ge m]
    unfold prS
    rw [if_neg (by omega)]
    omega
theorem goS_180 {D : LaS} (hD : LOK D) : goS D 180 = goS D (lNe D) := by
  have h := hD.2.2.2.2.2.2.2.2.2.1
  have h2 := goN_ge (D := D) (180 - lNe D)
  unfold goS
  rw [show lNe D + (180 - lNe D) = 180 by omega] at h2
  exact h2
theorem MoM.kv {h h' : AH} {D : LaS} {E : LaY} {ru : RU} {cs : Int} (m : MoM h D E ru cs) (x : ∃ kp ke se be : Int → Int, MmX h' D E ru cs kp ke se be) (F : Fr isDp h h') : MoM h' D E ru cs := by
  obtain ⟨-, ff, fv, y⟩ := m
  exact ⟨x, ff, fv, y.fr F⟩
/-- in the midst of an answer about land l -/
def TbA (s : Int → Int) (A : MAs) (D : LaS) (E : LaY) (ru : RU) (cs l : Int) (h0 h : AH) : Prop := MdS h s A ∧ MoM h D E ru cs ∧ Fr isTb h0 h ∧ s 37 = l ∧ s 38 = cs
theorem TbA.kv {s : Int → Int} {A : MAs} {D : LaS} {E : LaY} {ru : RU} {cs l : Int} {h0 h h' : AH} (a : TbA s A D E ru cs l h0 h) (x : ∃ kp ke se be : Int → Int, MmX h' D E ru cs kp ke se be) (F : Fr isDp h h') : TbA s A D E ru cs l h0 h' := ⟨MdS.fr (fun z hz => F z (nDp hz)) a.1, a.2.1.kv x F, a.2.2.1.tr (F.mono fun z zz => Or.inr ⟨zz.1, by have := zz.2; omega⟩), a.2.2.2⟩
theorem TbA.df {s : Int → Int} {A : MAs} {D : LaS} {E : LaY} {ru : RU} {cs l : Int} {h0 h h' : AH} (a : TbA s A D E ru cs l h0 h) (x : MoM h' D E ru cs) (F : Fr isDf h h') : TbA s A D E ru cs l h0 h' := ⟨MdS.fr (fun z hz => F z (nDf hz)) a.1, x, a.2.2.1.tr (F.mono fun z zz => Or.inr zz), a.2.2.2⟩
theorem TbA.fin {s : Int → Int} {A : MAs} {D : LaS} {E : LaY} {ru : RU} {cs l : Int} {h0 h : AH} {S : BaS} {th : Int} (a : TbA s A D E ru cs l h0 h) (hR : MoR s A S th) (hX : MoX h0 S) (hK : BOK S) : ModAt h S th ∧ Fr isMo h0 h := ⟨⟨s, A, a.1, hR, a.2.1.b, hX.fr a.2.2.1, hK⟩, a.2.2.1.mono fun z zz => isTb_mo zz⟩
theorem BgA.tb {s : Int → Int} {A : MAs} {D : LaS} {E : LaY} {ru : RU} {l : Int} {h0 h : AH} (a : BgA s A D E ru l h0 h) : TbA (fu (fu s 37 l) 38 (lCo D)) A D E ru (lCo D) l h0 h := ⟨a.1, a.2.1 _, a.2.2, rfl, rfl⟩
theorem tb_kept {k : WC} {d : Nat} {s : Int → Int} {A : MAs} {l : Int} {D : LaS} {E : LaY} {ru : RU} {cs : Int} {h0 h : AH} {kd n q a : Int} (hd : 180 ≤ d) (hT : TbA s A D E ru cs l h0 h) (hW : RuC k s A E ru) (hM : MlD A l D E) (hD : LOK D) (hE : YOK E) (hcs0 : 0 ≤ cs) (hcs1 : cs ≤ 30) (hk0 : 0 ≤ kd) (hk1 : kd ≤ 4) (hn1 : 1 ≤ n) (hn : n ≤ 12) (hs0 : 0 ≤ q) (hs1 : q < lSe D) (ha0 : 0 ≤ a) (ha1 : a ≤ 40) : Ev k d mdX11_kept h [vR (70, 0), vI kd, vI n, vI q, vI a] 0 0 (pe fun v h' => v = vI (kpS D E ru cs kd n q a) ∧ TbA s A D E ru cs l h0 h') := by
  obtain ⟨t1, ⟨⟨kp, ke, se, be, t2⟩, t3⟩, t4, t5, t6⟩ := id hT
  refine Ev.mono (kept_at hW hM hD hE t5 t6 hcs0 hcs1 hn1 hn d h kd q a kp ke se be hd t1 t2 hk0 hk1 hs0 hs1 ha0 ha1) fun r h' zp => ?_
  obtain ⟨v, zr, zv, ⟨kp', ke', se', be', zx, -⟩, zF⟩ := zp
  exact ⟨v, zr, zv, hT.kv ⟨kp', ke', se', be', zx⟩ zF⟩
theorem tb_best {k : WC} {d : Nat} {s : Int → Int} {A : MAs} {l : Int} {D : LaS} {E : LaY} {ru : RU} {cs : Int} {h0 h : AH} {kd n q a : Int} (hd : 181 ≤ d) (hT : TbA s A D E ru cs l h0 h) (hW : RuC k s A E ru) (hM : MlD A l D E) (hD : LOK D) (hE : YOK E) (hcs0 : 0 ≤ cs) (hcs1 : cs ≤ 30) (hk : kd = 2 ∨ kd = 3) (hn1 : 1 ≤ n) (hn : n ≤ 12) (hs0 : 0 ≤ q) (hs1 : q < lSe D) (ha0 : 0 ≤ a) (ha1 : a ≤ 40) : Ev k d mdX11_best h [vR (70, 0), vI kd, vI n, vI q, vI a] 0 0 (pe fun v h' => v = vL (bpS D E cs kd n q a) ∧ TbA s A D E ru cs l h0 h') := by
  obtain ⟨t1, ⟨⟨kp, ke, se, be, t2⟩, t3⟩, t4, t5, t6⟩ := id hT
  refine Ev.mono (best_of hM hD hE t5 t6 hcs0 hcs1 (kept_at hW hM hD hE t5 t6 hcs0 hcs1 hn1 hn) (by omega) hn1 hn d h kd q a kp ke se be hd t1 t2 hk hs0 hs1 ha0 ha1) fun r h' zp => ?_
  obtain ⟨v, zr, zv, zx, zF⟩ := zp
  exact ⟨v, zr, zv, hT.kv zx zF⟩
theorem tb_eats {k : WC} {d : Nat} {s : Int → Int} {A : MAs} {l : Int} {D : LaS} {E : LaY} {ru : RU} {cs : Int} {h0 h : AH} {kd n q a : Int} (hd : 190 ≤ d) (hT : TbA s A D E ru cs l h0 h) (hW : RuC k s A E ru) (hM : MlD A l D E) (hD : LOK D) (hE : YOK E) (hcs0 : 0 ≤ cs) (hcs1 : cs ≤ 30) (hk0 : 0 ≤ kd) (hk1 : kd ≤ 4) (hn1 : 1 ≤ n) (hn : n ≤ 12) (hs0 : 0 ≤ q) (hs1 : q < lSe D) (ha0 : 0 ≤ a) (ha1 : a ≤ 40) : Ev k d mdX11_eats h [vR (70, 0), vI kd, vI n, vI q, vI a] 0 0 (pe fun v h' => v = vI (eaS D kd (a - kpS D E ru cs kd n q a)) ∧ TbA s A D E ru cs l h0 h') := by
  obtain ⟨t1, ⟨⟨kp, ke, se, be, t2⟩, t3⟩, t4, t5, t6⟩ := id hT
  refine Ev.mono (ev_X11_eats (kept_at hW hM hD hE t5 t6 hcs0 hcs1 hn1 hn) hd t1 hM hD hE t5 t6 hcs0 hcs1 t2 hk0 hk1 hn1 hn hs0 hs1 ha0 ha1) fun r h' zp => ?_
  obtain ⟨v, zr, zv, zx, zF⟩ := zp
  exact ⟨v, zr, zv, hT.kv zx zF⟩
theorem tb_priceOf {k : WC} {d : Nat} {s : Int → Int} {A : MAs} {l : Int} {D : LaS} {E : LaY} {ru : RU} {cs : Int} {h0 h : AH} {kd n q a : Int} (hd : 195 ≤ d) (hT : TbA s A D E ru cs l h0 h) (hW : RuC k s A E ru) (hM : MlD A l D E) (hD : LOK D) (hE : YOK E) (hcs0 : 0 ≤ cs) (hcs1 : cs ≤ 30) (hk0 : 0 ≤ kd) (hk1 : kd ≤ 4) (hn1 : 1 ≤ n) (hn : n ≤ 12) (hs0 : 0 ≤ q) (hs1 : q < lSe D) (ha0 : 0 ≤ a) (ha1 : a ≤ 40) : Ev k d mdX11_priceOf h [vR (70, 0), vI kd, vI n, vI q, vI a] 0 0 (pe fun v h' => v = vI (poS D kd (a - kpS D E ru cs kd n q a)) ∧ TbA s A D E ru cs l h0 h') := by
  obtain ⟨t1, ⟨⟨kp, ke, se, be, t2⟩, t3⟩, t4, t5, t6⟩ := id hT
  refine Ev.mono (ev_X11_priceOf (kept_at hW hM hD hE t5 t6 hcs0 hcs1 hn1 hn) hd t1 hM hD hE t5 t6 hcs0 hcs1 t2 hk0 hk1 hn1 hn hs0 hs1 ha0 ha1) fun r h' zp => ?_
  obtain ⟨v, zr, zv, zx, zF⟩ := zp
  exact ⟨v, zr, zv, hT.kv zx zF⟩
theorem tb_fare {k : WC} {d : Nat} {s : Int → Int} {A : MAs} {l : Int} {D : LaS} {E : LaY} {ru : RU} {cs : Int} {h0 h : AH} {kd n q a : Int} (hd : 270 ≤ d) (hT : TbA s A D E ru cs l h0 h) (hW : RuC k s A E ru) (hM : MlD A l D E) (hD : LOK D) (hE : YOK E) (hcs0 : 0 ≤ cs) (hcs1 : cs ≤ 30) (hk0 : 0 ≤ kd) (hk1 : kd ≤ 4) (hn1 : 1 ≤ n) (hn : n ≤ 12) (hs0 : 0 ≤ q) (hs1 : q < lSe D) (ha0 : 0 ≤ a) (ha1 : a ≤ 40) : Ev k d mdX11_fare h [vR (70, 0), vI kd, vI n, vI q, vI a] 0 0 (pe fun v h' => v = vL (weN D E ru cs kd (n - 1).toNat q a) ∧ TbA s A D E ru cs l h0 h') := by
  obtain ⟨t1, t2, t4, t5, t6⟩ := id hT
  refine Ev.mono (fare_at hW hM hD hE t5 t6 hcs0 hcs1 hn1 hn d h kd q a hd t1 t2 hk0 hk1 hs0 hs1 ha0 ha1) fun r h' zp => ?_
  obtain ⟨v, zr, zv, zx, zF⟩ := zp
  exact ⟨v, zr, zv, hT.df zx zF⟩
set_option maxRecDepth 100000 in
set_option maxHeartbeats 4000000 in
theorem ev_X11_told_a {k : WC} {d : Nat} {h : AH} {S : BaS} {th : Int} {l wh : Int} (hd : 6 ≤ d) (hMo : ModAt h S th) (hil : inI l) (hiw : inI wh) : Ev k d mdX11_told h [vR (70, 0), vI l, vI wh] 0 0 (pr (vI (aTold S l wh)) h) := by
  obtain ⟨s, A, hS, hR, hB, hX, hK⟩ := id hMo
  obtain ⟨m0, m2, m22, m27, m44, m45, m46, mTp, mLd, mRu, mRw, mFr⟩ := id hR
  obtain ⟨⟨kTa, kTb⟩, ⟨kL0, kL1⟩, ⟨kR0, kR1⟩, kLd, kRu, kRw, ⟨kT0, kT1⟩, kS0, kS1⟩ := id hK
  refine Ev.mk (by decide +kernel) [_, _, _] rfl (Nat.le_of_ble_eq_true rfl) (fun w hc he => ?_)
  refine j_aload_n hc dX11_told_0 rfl ?_
  refine j_iload_n hc dX11_told_1 rfl ?_
  refine j_callV (d' := d - 1) hc dX11_told_2 vX11_257 hS.1 (ev_X11_isLand (by omega) hS hR hK hil) rfl (by omega) (by omega) (by omega) rfl rfl (Nat.le_of_ble_eq_true rfl) (ret1 ?_)
  refine j_if_ne (b := 0) (tgt := 10) hc dX11_told_5 (by decide) (by split <;> exact ⟨by omega, by omega⟩) (fun zc1 => ?_) (fun zc1 => ?_)
  · have zw1 := one_pos zc1
    obtain ⟨hD, hE, hrn, hyo⟩ := kLd l zw1.1 zw1.2
    have hM := mLd l zw1.1 zw1.2
    obtain ⟨⟨zl0, zl1⟩, mSe, mNe, mPa, mCo, mMi, mRo, mLa, mRn, mHv, mBu, mSl, mGr, mTb⟩ := id hM
    obtain ⟨d1, d2, d3, d4, d5, d6, d7, d8, d9, d10, d11, d12, d13⟩ := id hD
    obtain ⟨y1, y2, y3, y4, y5, y6, y7, y8, y9, y10⟩ := id hE
    have hW := fun k => ru_of (k := k) (l := l) hR hK zw1
    have hWb := fun k => ru_of (k := k) (l := l) (MoR.s37 (l := l) (c := lCo (bD S l)) hR) hK zw1
    refine j_iload_n hc dX11_told_10 rfl ?_
    rcases (by omega : (wh < 0 ∨ 7 < wh) ∨ wh = 0 ∨ wh = 1 ∨ wh = 2 ∨ wh = 3 ∨ wh = 4 ∨ wh = 5 ∨ wh = 6 ∨ wh = 7) with zc2 | zc2 | zc2 | zc2 | zc2 | zc2 | zc2 | zc2 | zc2
    · refine j_tableOut (tgt := 114) hc dX11_told_11 hiw zc2 (by decide) ?_
      refine j_iconst hc dX11_told_114 ?_
      exact j_iret hc he dX11_told_115 rfl (by omega) (by omega) ⟨vI_eq (by unfold aTold; rw [if_pos zw1]; (repeat (first | rw [if_pos (by omega)] | rw [if_neg (by omega)]))), rfl⟩
    · refine j_tableIn (tgt := 56) (off := 45) hc dX11_told_11 hiw (by omega) (by omega) (by rw [zc2]; rfl) (by decide) ?_
      refine j_aload_n hc dX11_told_56 rfl ?_
      refine j_get hc dX11_told_57 fX11_13 hS.1 rfl ?_
      refine j_iload_n hc dX11_told_60 rfl ?_
      refine j_iald hc dX11_told_61 hS.2.2.1 (by omega) (by omega) ?_
      rw [mSe]
      exact j_iret hc he dX11_told_62 rfl (by omega) (by omega) ⟨vI_eq (by unfold aTold; rw [if_pos zw1]; (repeat (first | rw [if_pos (by omega)] | rw [if_neg (by omega)]))), rfl⟩
    · refine j_tableIn (tgt := 63) (off := 52) hc dX11_told_11 hiw (by omega) (by omega) (by rw [zc2]; rfl) (by decide) ?_
      refine j_aload_n hc dX11_told_63 rfl ?_
      refine j_get hc dX11_told_64 fX11_19 hS.1 rfl ?_
      refine j_iload_n hc dX11_told_67 rfl ?_
      refine j_iald hc dX11_told_68 hS.2.2.2.2.1 (by omega) (by omega) ?_
      rw [mNe]
      exact j_iret hc he dX11_told_69 rfl (by omega) (by omega) ⟨vI_eq (by unfold aTold; rw [if_pos zw1]; (repeat (first | rw [if_pos (by omega)] | rw [if_neg (by omega)]))), rfl⟩
    · refine j_tableIn (tgt := 70) (off := 59) hc dX11_told_11 hiw (by omega) (by omega) (by rw [zc2]; rfl) (by decide) ?_
      refine j_aload_n hc dX11_told_70 rfl ?_
      refine j_get hc dX11_told_71 fX11_34 hS.1 rfl ?_
      refine j_iload_n hc dX11_told_74 rfl ?_
      refine j_iald hc dX11_told_75 hS.2.2.2.2.2.2.2.2.2.1 (by omega) (by omega) ?_
      rw [mCo]
      exact j_iret hc he dX11_told_76 rfl (by omega) (by omega) ⟨vI_eq (by unfold aTold; rw [if_pos zw1]; (repeat (first | rw [if_pos (by omega)] | rw [if_neg (by omega)]))), rfl⟩
    · refine j_tableIn (tgt := 77) (off := 66) hc dX11_told_11 hiw (by omega) (by omega) (by rw [zc2]; rfl) (by decide) ?_
      refine j_aload_n hc dX11_told_77 rfl ?_
      refine j_get hc dX11_told_78 fX11_37 hS.1 rfl ?_
      refine j_iload_n hc dX11_told_81 rfl ?_
      refine j_iald hc dX11_told_82 hS.2.2.2.2.2.2.2.2.2.2.1 (by omega) (by omega) ?_
      rw [mMi]
      exact j_iret hc he dX11_told_83 rfl (by omega) (by omega) ⟨vI_eq (by unfold aTold; rw [if_pos zw1]; (repeat (first | rw [if_pos (by omega)] | rw [if_neg (by omega)]))), rfl⟩
    · refine j_tableIn (tgt := 84) (off := 73) hc dX11_told_11 hiw (by omega) (by omega) (by rw [zc2]; rfl) (by decide) ?_
      refine j_aload_n hc dX11_told_84 rfl ?_
      refine j_get hc dX11_told_85 fX11_40 hS.1 rfl ?_
      refine j_iload_n hc dX11_told_88 rfl ?_
      refine j_iald hc dX11_told_89 hS.2.2.2.2.2.2.2.2.2.2.2.1 (by omega) (by omega) ?_
      rw [mRo]
      exact j_iret hc he dX11_told_90 rfl (by omega) (by omega) ⟨vI_eq (by unfold aTold; rw [if_pos zw1]; (repeat (first | rw [if_pos (by omega)] | rw [if_neg (by omega)]))), rfl⟩
    · refine j_tableIn (tgt := 91) (off := 80) hc dX11_told_11 hiw (by omega) (by omega) (by rw [zc2]; rfl) (by decide) ?_
      refine j_aload_n hc dX11_told_91 rfl ?_
      refine j_get hc dX11_told_92 fX11_43 hS.1 rfl ?_
      refine j_iload_n hc dX11_told_95 rfl ?_
      refine j_iald hc dX11_told_96 hS.2.2.2.2.2.2.2.2.2.2.2.2.1 (by omega) (by omega) ?_
      rw [mLa]
      exact j_iret hc he dX11_told_97 rfl (by omega) (by omega) ⟨vI_eq (by unfold aTold; rw [if_pos zw1]; (repeat (first | rw [if_pos (by omega)] | rw [if_neg (by omega)]))), rfl⟩
    · refine j_tableIn (tgt := 98) (off := 87) hc dX11_told_11 hiw (by omega) (by omega) (by rw [zc2]; rfl) (by decide) ?_
      refine j_aload_n hc dX11_told_98 rfl ?_
      refine j_get hc dX11_told_99 fX11_46 hS.1 rfl ?_
      refine j_iload_n hc dX11_told_102 rfl ?_
      refine j_iald hc dX11_told_103 hS.2.2.2.2.2.2.2.2.2.2.2.2.2.1 (by omega) (by omega) ?_
      rw [mRn]
      exact j_iret hc he dX11_told_104 rfl (by omega) (by omega) ⟨vI_eq (by unfold aTold; rw [if_pos zw1]; (repeat (first | rw [if_pos (by omega)] | rw [if_neg (by omega)]))), rfl⟩
    · refine j_tableIn (tgt := 105) (off := 94) hc dX11_told_11 hiw (by omega) (by omega) (by rw [zc2]; rfl) (by decide) ?_
      refine j_aload_n hc dX11_told_105 rfl ?_
      refine j_iload_n hc dX11_told_106 rfl ?_
      refine j_sipush hc dX11_told_107 (by decide) ?_
      refine j_callV (d' := d - 1) hc dX11_told_110 vX11_262 hS.1 (ev_X11_goods (by omega) hS hM hD hE (by omega) (by omega)) rfl (by omega) (by omega) (by omega) rfl rfl (Nat.le_of_ble_eq_true rfl) (ret1 ?_)
      rw [goS_180 hD]
      exact j_iret hc he dX11_told_113 rfl (by omega) (by omega) ⟨vI_eq (by unfold aTold; rw [if_pos zw1]; (repeat (first | rw [if_pos (by omega)] | rw [if_neg (by omega)]))), rfl⟩
  · have zw := one_neg zc1
    refine j_iconst hc dX11_told_8 ?_
    exact j_iret hc he dX11_told_9 rfl (by omega) (by omega) ⟨vI_eq (by unfold aTold; rw [if_neg zw]), rfl⟩
set_option maxRecDepth 100000 in
set_option maxHeartbeats 4000000 in
theorem ev_X11_eaten_a {k : WC} {d : Nat} {h : AH} {S : BaS} {th : Int} {l e wh : Int} (hd : 6 ≤ d) (hMo : ModAt h S th) (hil : inI l) (hie : inI e) (hiw : inI wh) : Ev k d mdX11_eaten h [vR (70, 0), vI l, vI e, vI wh] 0 0 (pr (vI (aEaten S l e wh)) h) := by
  obtain ⟨s, A, hS, hR, hB, hX, hK⟩ := id hMo
  obtain ⟨m0, m2, m22, m27, m44, m45, m46, mTp, mLd, mRu, mRw, mFr⟩ := id hR
  obtain ⟨⟨kTa, kTb⟩, ⟨kL0, kL1⟩, ⟨kR0, kR1⟩, kLd, kRu, kRw, ⟨kT0, kT1⟩, kS0, kS1⟩ := id hK
  refine Ev.mk (by decide +kernel) [_, _, _, _] rfl (Nat.le_of_ble_eq_true rfl) (fun w hc he => ?_)
  refine j_aload_n hc dX11_eaten_0 rfl ?_
  refine j_iload_n hc dX11_eaten_1 rfl ?_
  refine j_callV (d' := d - 1) hc dX11_eaten_2 vX11_257 hS.1 (ev_X11_isLand (by omega) hS hR hK hil) rfl (by omega) (by omega) (by omega) rfl rfl (Nat.le_of_ble_eq_true rfl) (ret1 ?_)
  refine j_if_eq (b := 0) (tgt := 28) hc dX11_eaten_5 (by decide) (by split <;> exact ⟨by omega, by omega⟩) (fun zc1 => ?_) (fun zc1 => ?_)
  · have zw5 := one_neg zc1
    refine j_iconst hc dX11_eaten_28 ?_
    exact j_iret hc he dX11_eaten_29 rfl (by omega) (by omega) ⟨vI_eq (by unfold aEaten; first | rw [if_neg (by omega)] | (rw [if_pos ⟨zw1, zw2⟩]; (repeat (first | rw [if_pos (by omega)] | rw [if_neg (by omega)])))), rfl⟩
  · have zw1 := one_pos zc1
    obtain ⟨hD, hE, hrn, hyo⟩ := kLd l zw1.1 zw1.2
    have hM := mLd l zw1.1 zw1.2
    obtain ⟨⟨zl0, zl1⟩, mSe, mNe, mPa, mCo, mMi, mRo, mLa, mRn, mHv, mBu, mSl, mGr, mTb⟩ := id hM
    obtain ⟨d1, d2, d3, d4, d5, d6, d7, d8, d9, d10, d11, d12, d13⟩ := id hD
    obtain ⟨y1, y2, y3, y4, y5, y6, y7, y8, y9, y10⟩ := id hE
    have hW := fun k => ru_of (k := k) (l := l) hR hK zw1
    have hWb := fun k => ru_of (k := k) (l := l) (MoR.s37 (l := l) (c := lCo (bD S l)) hR) hK zw1
    refine j_iload_n hc dX11_eaten_8 rfl ?_
    refine j_iconst hc dX11_eaten_9 ?_
    refine j_sipush hc dX11_eaten_10 (by decide) ?_
    refine j_callS (d' := d - 1) hc dX11_eaten_13 sX11_145 (ev_X11_in (by omega) hie ⟨by omega, by omega⟩ ⟨by omega, by omega⟩) rfl (by omega) (by omega) (by omega) rfl rfl (Nat.le_of_ble_eq_true rfl) (ret1 ?_)
    refine j_if_eq (b := 0) (tgt := 28) hc dX11_eaten_16 (by decide) (by split <;> exact ⟨by omega, by omega⟩) (fun zc2 => ?_) (fun zc2 => ?_)
    · have zw5 := one_neg zc2
      refine j_iconst hc dX11_eaten_28 ?_
      exact j_iret hc he dX11_eaten_29 rfl (by omega) (by omega) ⟨vI_eq (by unfold aEaten; first | rw [if_neg (by omega)] | (rw [if_pos ⟨zw1, zw2⟩]; (repeat (first | rw [if_pos (by omega)] | rw [if_neg (by omega)])))), rfl⟩
    · have zw2 := one_pos zc2
      refine j_iload_n hc dX11_eaten_19 rfl ?_
      refine j_iconst hc dX11_eaten_20 ?_
      refine j_iconst hc dX11_eaten_21 ?_
      refine j_callS (d' := d - 1) hc dX11_eaten_22 sX11_145 (ev_X11_in (by omega) hiw ⟨by omega, by omega⟩ ⟨by omega, by omega⟩) rfl (by omega) (by omega) (by omega) rfl rfl (Nat.le_of_ble_eq_true rfl) (ret1 ?_)
      refine j_if_ne (b := 0) (tgt := 30) hc dX11_eaten_25 (by decide) (by split <;> exact ⟨by omega, by omega⟩) (fun zc3 => ?_) (fun zc3 => ?_)
      · have zw3 := one_pos zc3
        refine j_iload_n hc dX11_eaten_30 rfl ?_
        refine j_if_ne (b := 0) (tgt := 43) hc dX11_eaten_31 (by decide) hiw (fun zc4 => ?_) (fun zc4 => ?_)
        · refine j_iload_n hc dX11_eaten_43 rfl ?_
          refine j_iconst hc dX11_eaten_44 ?_
          refine j_icmp_ne (tgt := 57) hc dX11_eaten_45 (by decide) hiw ⟨by omega, by omega⟩ (fun zc5 => ?_) (fun zc5 => ?_)
          · refine j_aload_n hc dX11_eaten_57 rfl ?_
            refine j_iload_n hc dX11_eaten_58 rfl ?_
            refine j_iload_n hc dX11_eaten_59 rfl ?_
            refine j_callV (d' := d - 1) hc dX11_eaten_60 vX11_272 hS.1 (ev_X11_hungry (by omega) hS hM hD hE ⟨by omega, by omega⟩ ⟨by omega, by omega⟩) rfl (by omega) (by omega) (by omega) rfl rfl (Nat.le_of_ble_eq_true rfl) (ret1 ?_)
            exact j_iret hc he dX11_eaten_63 rfl (by omega) (by omega) ⟨vI_eq (by unfold aEaten; rw [if_pos ⟨zw1, zw2⟩]; (repeat (first | rw [if_pos (by omega)] | rw [if_neg (by omega)])) <;> omega), rfl⟩
          · refine j_aload_n hc dX11_eaten_48 rfl ?_
            refine j_iload_n hc dX11_eaten_49 rfl ?_
            refine j_iload_n hc dX11_eaten_50 rfl ?_
            refine j_callV (d' := d - 1) hc dX11_eaten_51 vX11_269 hS.1 (ev_X11_priceAt (by omega) hS hM hD hE (by omega) (by omega)) rfl (by omega) (by omega) (by omega) rfl rfl (Nat.le_of_ble_eq_true rfl) (ret1 ?_)
            refine j_goto (tgt := 63) hc dX11_eaten_54 (by decide) ?_
            exact j_iret hc he dX11_eaten_63 rfl (by omega) (by omega) ⟨vI_eq (by unfold aEaten; rw [if_pos ⟨zw1, zw2⟩]; (repeat (first | rw [if_pos (by omega)] | rw [if_neg (by omega)])) <;> omega), rfl⟩
        · refine j_aload_n hc dX11_eaten_34 rfl ?_
          refine j_iload_n hc dX11_eaten_35 rfl ?_
          refine j_iload_n hc dX11_eaten_36 rfl ?_
          refine j_callV (d' := d - 1) hc dX11_eaten_37 vX11_262 hS.1 (ev_X11_goods (by omega) hS hM hD hE (by omega) (by omega)) rfl (by omega) (by omega) (by omega) rfl rfl (Nat.le_of_ble_eq_true rfl) (ret1 ?_)
          refine j_goto (tgt := 63) hc dX11_eaten_40 (by decide) ?_
          exact j_iret hc he dX11_eaten_63 rfl (by omega) (by omega) ⟨vI_eq (by unfold aEaten; rw [if_pos ⟨zw1, zw2⟩]; (repeat (first | rw [if_pos (by omega)] | rw [if_neg (by omega)])) <;> omega), rfl⟩
      · have zw5 := one_neg zc3
        refine j_iconst hc dX11_eaten_28 ?_
        exact j_iret hc he dX11_eaten_29 rfl (by omega) (by omega) ⟨vI_eq (by unfold aEaten; first | rw [if_neg (by omega)] | (rw [if_pos ⟨zw1, zw2⟩]; (repeat (first | rw [if_pos (by omega)] | rw [if_neg (by omega)])))), rfl⟩
set_option maxRecDepth 100000 in
set_option maxHeartbeats 4000000 in
theorem ev_X11_left_a {k : WC} {d : Nat} {h : AH} {S : BaS} {th : Int} {l x : Int} (hd : 6 ≤ d) (hMo : ModAt h S th) (hil : inI l) (hix : inI x) : Ev k d mdX11_left h [vR (70, 0), vI l, vI x] 0 0 (pr (vI (aLeft S l x)) h) := by
  obtain ⟨s, A, hS, hR, hB, hX, hK⟩ := id hMo
  obtain ⟨m0, m2, m22, m27, m44, m45, m46, mTp, mLd, mRu, mRw, mFr⟩ := id hR
  obtain ⟨⟨kTa, kTb⟩, ⟨kL0, kL1⟩, ⟨kR0, kR1⟩, kLd, kRu, kRw, ⟨kT0, kT1⟩, kS0, kS1⟩ := id hK
  refine Ev.mk (by decide +kernel) [_, _, _] rfl (Nat.le_of_ble_eq_true rfl) (fun w hc he => ?_)
  refine j_aload_n hc dX11_left_0 rfl ?_
  refine j_iload_n hc dX11_left_1 rfl ?_
  refine j_callV (d' := d - 1) hc dX11_left_2 vX11_257 hS.1 (ev_X11_isLand (by omega) hS hR hK hil) rfl (by omega) (by omega) (by omega) rfl rfl (Nat.le_of_ble_eq_true rfl) (ret1 ?_)
  refine j_if_eq (b := 0) (tgt := 27) hc dX11_left_5 (by decide) (by split <;> exact ⟨by omega, by omega⟩) (fun zc1 => ?_) (fun zc1 => ?_)
  · have zw5 := one_neg zc1
    refine j_iconst hc dX11_left_27 ?_
    exact j_iret hc he dX11_left_28 rfl (by omega) (by omega) ⟨vI_eq (by unfold aLeft; first | rw [if_neg (by omega)] | rw [if_pos ⟨zw1, zw2⟩]), rfl⟩
  · have zw1 := one_pos zc1
    obtain ⟨hD, hE, hrn, hyo⟩ := kLd l zw1.1 zw1.2
    have hM := mLd l zw1.1 zw1.2
    obtain ⟨⟨zl0, zl1⟩, mSe, mNe, mPa, mCo, mMi, mRo, mLa, mRn, mHv, mBu, mSl, mGr, mTb⟩ := id hM
    obtain ⟨d1, d2, d3, d4, d5, d6, d7, d8, d9, d10, d11, d12, d13⟩ := id hD
    obtain ⟨y1, y2, y3, y4, y5, y6, y7, y8, y9, y10⟩ := id hE
    have hW := fun k => ru_of (k := k) (l := l) hR hK zw1
    have hWb := fun k => ru_of (k := k) (l := l) (MoR.s37 (l := l) (c := lCo (bD S l)) hR) hK zw1
    refine j_iload_n hc dX11_left_8 rfl ?_
    refine j_iconst hc dX11_left_9 ?_
    refine j_bipush hc dX11_left_10 (by decide) ?_
    refine j_callS (d' := d - 1) hc dX11_left_12 sX11_145 (ev_X11_in (by omega) hix ⟨by omega, by omega⟩ ⟨by omega, by omega⟩) rfl (by omega) (by omega) (by omega) rfl rfl (Nat.le_of_ble_eq_true rfl) (ret1 ?_)
    refine j_if_eq (b := 0) (tgt := 27) hc dX11_left_15 (by decide) (by split <;> exact ⟨by omega, by omega⟩) (fun zc2 => ?_) (fun zc2 => ?_)
    · have zw5 := one_neg zc2
      refine j_iconst hc dX11_left_27 ?_
      exact j_iret hc he dX11_left_28 rfl (by omega) (by omega) ⟨vI_eq (by unfold aLeft; first | rw [if_neg (by omega)] | rw [if_pos ⟨zw1, zw2⟩]), rfl⟩
    · have zw2 := one_pos zc2
      refine j_aload_n hc dX11_left_18 rfl ?_
      refine j_iload_n hc dX11_left_19 rfl ?_
      refine j_iload_n hc dX11_left_20 rfl ?_
      refine j_callV (d' := d - 1) hc dX11_left_21 vX11_275 hS.1 (ev_X11_leftOf (by omega) hS hM hD hE (by omega) (by omega)) rfl (by omega) (by omega) (by omega) rfl rfl (Nat.le_of_ble_eq_true rfl) (ret1 ?_)
      refine j_goto (tgt := 28) hc dX11_left_24 (by decide) ?_
      exact j_iret hc he dX11_left_28 rfl (by omega) (by omega) ⟨vI_eq (by unfold aLeft; first | rw [if_neg (by omega)] | rw [if_pos ⟨zw1, zw2⟩]), rfl⟩
set_option maxRecDepth 100000 in
set_option maxHeartbeats 4000000 in
theorem ev_X11_keep_a {k : WC} {d : Nat} {h : AH} {S : BaS} {th : Int} {l sr n q a : Int} (hd : 300 ≤ d) (hMo : ModAt h S th) (hil : inI l) (hir : inI sr) (hin : inI n) (his : inI q) (hia : inI a) : Ev k d mdX11_keep h [vR (70, 0), vI l, vI sr, vI n, vI q, vI a] 0 0 (pe fun v h' => v = vI (aKeep S l sr n q a) ∧ ModAt h' S th ∧ Fr isMo h h') := by
  obtain ⟨s, A, hS, hR, hB, hX, hK⟩ := id hMo
  obtain ⟨m0, m2, m22, m27, m44, m45, m46, mTp, mLd, mRu, mRw, mFr⟩ := id hR
  obtain ⟨⟨kTa, kTb⟩, ⟨kL0, kL1⟩, ⟨kR0, kR1⟩, kLd, kRu, kRw, ⟨kT0, kT1⟩, kS0, kS1⟩ := id hK
  refine Ev.mk (by decide +kernel) [_, _, _, _, _, _] rfl (Nat.le_of_ble_eq_true rfl) (fun w hc he => ?_)
  refine j_aload_n hc dX11_keep_0 rfl ?_
  refine j_iload_n hc dX11_keep_1 rfl ?_
  refine j_iload_n hc dX11_keep_2 rfl ?_
  refine j_iload hc dX11_keep_3 rfl ?_
  refine j_iload hc dX11_keep_5 rfl ?_
  refine j_callV (d' := d - 1) hc dX11_keep_7 vX11_341 hS.1 (ev_X11_isState (by omega) hS hR hK hil hin his hia) rfl (by omega) (by omega) (by omega) rfl rfl (Nat.le_of_ble_eq_true rfl) (ret1 ?_)
  refine j_if_eq (b := 0) (tgt := 20) hc dX11_keep_10 (by decide) (by split <;> exact ⟨by omega, by omega⟩) (fun zc1 => ?_) (fun zc1 => ?_)
  · have zw5 := one_neg zc1
    refine j_iconst hc dX11_keep_20 ?_
    exact j_iret hc he dX11_keep_21 rfl (by omega) (by omega) ⟨_, rfl, by unfold aKeep; rw [if_neg (by omega)], hMo, Fr.rf _ _⟩
  · have zw := one_pos zc1
    have zw1 := zw.1
    obtain ⟨⟨n1, n12⟩, ⟨s0, s4⟩, a0, a40⟩ := zw.2
    obtain ⟨hD, hE, hrn, hyo⟩ := kLd l zw1.1 zw1.2
    have hM := mLd l zw1.1 zw1.2
    obtain ⟨⟨zl0, zl1⟩, mSe, mNe, mPa, mCo, mMi, mRo, mLa, mRn, mHv, mBu, mSl, mGr, mTb⟩ := id hM
    obtain ⟨d1, d2, d3, d4, d5, d6, d7, d8, d9, d10, d11, d12, d13⟩ := id hD
    obtain ⟨y1, y2, y3, y4, y5, y6, y7, y8, y9, y10⟩ := id hE
    have hW := fun k => ru_of (k := k) (l := l) hR hK zw1
    have hWb := fun k => ru_of (k := k) (l := l) (MoR.s37 (l := l) (c := lCo (bD S l)) hR) hK zw1
    refine j_iload_n hc dX11_keep_13 rfl ?_
    refine j_callS (d' := d - 1) hc dX11_keep_14 sX11_345 (ev_X11_isKind (by omega) hir) rfl (by omega) (by omega) (by omega) rfl rfl (Nat.le_of_ble_eq_true rfl) (ret1 ?_)
    refine j_if_ne (b := 0) (tgt := 22) hc dX11_keep_17 (by decide) (by split <;> exact ⟨by omega, by omega⟩) (fun zc2 => ?_) (fun zc2 => ?_)
    · have zk := one_pos zc2
      refine j_aload_n hc dX11_keep_22 rfl ?_
      refine j_iload_n hc dX11_keep_23 rfl ?_
      refine j_callV (d' := d - 1) hc dX11_keep_24 vX11_348 hS.1 (ev_X11_begin (ru := ruC S l) (by omega) hS hM hD hE hB) rfl (by omega) (by omega) (by omega) rfl rfl (Nat.le_of_ble_eq_true rfl) (retN fun zq24 zp24 => ?_)
      have zT0 := BgA.tb zp24
      have hl := zT0.2.2.2.1
      refine j_aload_n hc dX11_keep_27 rfl ?_
      refine j_iload_n hc dX11_keep_28 rfl ?_
      refine j_iload_n hc dX11_keep_29 rfl ?_
      refine j_iload hc dX11_keep_30 rfl ?_
      refine j_iload hc dX11_keep_32 rfl ?_
      refine j_callV (d' := d - 1) hc dX11_keep_34 vX11_319 zT0.1.1 (tb_kept (by omega) zT0 (hWb _) hM hD hE d3 d4 (by omega) (by omega) (by omega) (by omega) (by omega) (by omega) (by omega) (by omega)) rfl (by omega) (by omega) (by omega) rfl rfl (Nat.le_of_ble_eq_true rfl) (retE fun zv34 zq34 zp34 => ?_)
      obtain ⟨zv1, zT1⟩ := zp34
      subst zv1
      exact j_iret hc he dX11_keep_37 rfl (by omega) (by omega) ⟨_, rfl, by unfold aKeep; rw [if_pos ⟨zw, zk⟩]; rfl, zT1.fin (MoR.s37 hR) hX hK⟩
    · have zk := one_neg zc2
      refine j_iconst hc dX11_keep_20 ?_
      exact j_iret hc he dX11_keep_21 rfl (by omega) (by omega) ⟨_, rfl, by unfold aKeep; rw [if_neg (by omega)], hMo, Fr.rf _ _⟩
set_option maxRecDepth 100000 in
set_option maxHeartbeats 4000000 in
theorem ev_X11_sold_a {k : WC} {d : Nat} {h : AH} {S : BaS} {th : Int} {l sr n q a : Int} (hd : 300 ≤ d) (hMo : ModAt h S th) (hil : inI l) (hir : inI sr) (hin : inI n) (his : inI q) (hia : inI a) : Ev k d mdX11_sold h [vR (70, 0), vI l, vI sr, vI n, vI q, vI a] 0 0 (pe fun v h' => v = vI (aSold S l sr n q a) ∧ ModAt h' S th ∧ Fr isMo h h') := by
  obtain ⟨s, A, hS, hR, hB, hX, hK⟩ := id hMo
  obtain ⟨m0, m2, m22, m27, m44, m45, m46, mTp, mLd, mRu, mRw, mFr⟩ := id hR
  obtain ⟨⟨kTa, kTb⟩, ⟨kL0, kL1⟩, ⟨kR0, kR1⟩, kLd, kRu, kRw, ⟨kT0, kT1⟩, kS0, kS1⟩ := id hK
  refine Ev.mk (by decide +kernel) [_, _, _, _, _, _] rfl (Nat.le_of_ble_eq_true rfl) (fun w hc he => ?_)
  refine j_aload_n hc dX11_sold_0 rfl ?_
  refine j_iload_n hc dX11_sold_1 rfl ?_
  refine j_iload_n hc dX11_sold_2 rfl ?_
  refine j_iload hc dX11_sold_3 rfl ?_
  refine j_iload hc dX11_sold_5 rfl ?_
  refine j_callV (d' := d - 1) hc dX11_sold_7 vX11_341 hS.1 (ev_X11_isState (by omega) hS hR hK hil hin his hia) rfl (by omega) (by omega) (by omega) rfl rfl (Nat.le_of_ble_eq_true rfl) (ret1 ?_)
  refine j_if_eq (b := 0) (tgt := 20) hc dX11_sold_10 (by decide) (by split <;> exact ⟨by omega, by omega⟩) (fun zc1 => ?_) (fun zc1 => ?_)
  · have zw5 := one_neg zc1
    refine j_iconst hc dX11_sold_20 ?_
    exact j_iret hc he dX11_sold_21 rfl (by omega) (by omega) ⟨_, rfl, by unfold aSold; rw [if_neg (by omega)], hMo, Fr.rf _ _⟩
  · have zw := one_pos zc1
    have zw1 := zw.1
    obtain ⟨⟨n1, n12⟩, ⟨s0, s4⟩, a0, a40⟩ := zw.2
    obtain ⟨hD, hE, hrn, hyo⟩ := kLd l zw1.1 zw1.2
    have hM := mLd l zw1.1 zw1.2
    obtain ⟨⟨zl0, zl1⟩, mSe, mNe, mPa, mCo, mMi, mRo, mLa, mRn, mHv, mBu, mSl, mGr, mTb⟩ := id hM
    obtain ⟨d1, d2, d3, d4, d5, d6, d7, d8, d9, d10, d11, d12, d13⟩ := id hD
    obtain ⟨y1, y2, y3, y4, y5, y6, y7, y8, y9, y10⟩ := id hE
    have hW := fun k => ru_of (k := k) (l := l) hR hK zw1
    have hWb := fun k => ru_of (k := k) (l := l) (MoR.s37 (l := l) (c := lCo (bD S l)) hR) hK zw1
    refine j_iload_n hc dX11_sold_13 rfl ?_
    refine j_callS (d' := d - 1) hc dX11_sold_14 sX11_345 (ev_X11_isKind (by omega) hir) rfl (by omega) (by omega) (by omega) rfl rfl (Nat.le_of_ble_eq_true rfl) (ret1 ?_)
    refine j_if_ne (b := 0) (tgt := 22) hc dX11_sold_17 (by decide) (by split <;> exact ⟨by omega, by omega⟩) (fun zc2 => ?_) (fun zc2 => ?_)
    · have zk := one_pos zc2
      refine j_aload_n hc dX11_sold_22 rfl ?_
      refine j_iload_n hc dX11_sold_23 rfl ?_
      refine j_callV (d' := d - 1) hc dX11_sold_24 vX11_348 hS.1 (ev_X11_begin (ru := ruC S l) (by omega) hS hM hD hE hB) rfl (by omega) (by omega) (by omega) rfl rfl (Nat.le_of_ble_eq_true rfl) (retN fun zq24 zp24 => ?_)
      have zT0 := BgA.tb zp24
      have hl := zT0.2.2.2.1
      refine j_aload_n hc dX11_sold_27 rfl ?_
      refine j_iload_n hc dX11_sold_28 rfl ?_
      refine j_iload_n hc dX11_sold_29 rfl ?_
      refine j_iload hc dX11_sold_30 rfl ?_
      refine j_iload hc dX11_sold_32 rfl ?_
      refine j_callV (d' := d - 1) hc dX11_sold_34 vX11_335 zT0.1.1 (tb_eats (by omega) zT0 (hWb _) hM hD hE d3 d4 (by omega) (by omega) (by omega) (by omega) (by omega) (by omega) (by omega) (by omega)) rfl (by omega) (by omega) (by omega) rfl rfl (Nat.le_of_ble_eq_true rfl) (retE fun zv34 zq34 zp34 => ?_)
      obtain ⟨zv1, zT1⟩ := zp34
      subst zv1
      exact j_iret hc he dX11_sold_37 rfl (by omega) (by omega) ⟨_, rfl, by unfold aSold; rw [if_pos ⟨zw, zk⟩]; rfl, zT1.fin (MoR.s37 hR) hX hK⟩
    · have zk := one_neg zc2
      refine j_iconst hc dX11_sold_20 ?_
      exact j_iret hc he dX11_sold_21 rfl (by omega) (by omega) ⟨_, rfl, by unfold aSold; rw [if_neg (by omega)], hMo, Fr.rf _ _⟩
set_option maxRecDepth 100000 in
set_option maxHeartbeats 4000000 in
theorem ev_X11_price_a {k : WC} {d : Nat} {h : AH} {S : BaS} {th : Int} {l sr n q a : Int} (hd : 300 ≤ d) (hMo : ModAt h S th) (hil : inI l) (hir : inI sr) (hin : inI n) (his : inI q) (hia : inI a) : Ev k d mdX11_price h [vR (70, 0), vI l, vI sr, vI n, vI q, vI a] 0 0 (pe fun v h' => v = vI (aPrice S l sr n q a) ∧ ModAt h' S th ∧ Fr isMo h h') := by
  obtain ⟨s, A, hS, hR, hB, hX, hK⟩ := id hMo
  obtain ⟨m0, m2, m22, m27, m44, m45, m46, mTp, mLd, mRu, mRw, mFr⟩ := id hR
  obtain ⟨⟨kTa, kTb⟩, ⟨kL0, kL1⟩, ⟨kR0, kR1⟩, kLd, kRu, kRw, ⟨kT0, kT1⟩, kS0, kS1⟩ := id hK
  refine Ev.mk (by decide +kernel) [_, _, _, _, _, _] rfl (Nat.le_of_ble_eq_true rfl) (fun w hc he => ?_)
  refine j_aload_n hc dX11_price_0 rfl ?_
  refine j_iload_n hc dX11_price_1 rfl ?_
  refine j_iload_n hc dX11_price_2 rfl ?_
  refine j_iload hc dX11_price_3 rfl ?_
  refine j_iload hc dX11_price_5 rfl ?_
  refine j_callV (d' := d - 1) hc dX11_price_7 vX11_341 hS.1 (ev_X11_isState (by omega) hS hR hK hil hin his hia) rfl (by omega) (by omega) (by omega) rfl rfl (Nat.le_of_ble_eq_true rfl) (ret1 ?_)
  refine j_if_eq (b := 0) (tgt := 20) hc dX11_price_10 (by decide) (by split <;> exact ⟨by omega, by omega⟩) (fun zc1 => ?_) (fun zc1 => ?_)
  · have zw5 := one_neg zc1
    refine j_iconst hc dX11_price_20 ?_
    exact j_iret hc he dX11_price_21 rfl (by omega) (by omega) ⟨_, rfl, by unfold aPrice; rw [if_neg (by omega)], hMo, Fr.rf _ _⟩
  · have zw := one_pos zc1
    have zw1 := zw.1
    obtain ⟨⟨n1, n12⟩, ⟨s0, s4⟩, a0, a40⟩ := zw.2
    obtain ⟨hD, hE, hrn, hyo⟩ := kLd l zw1.1 zw1.2
    have hM := mLd l zw1.1 zw1.2
    obtain ⟨⟨zl0, zl1⟩, mSe, mNe, mPa, mCo, mMi, mRo, mLa, mRn, mHv, mBu, mSl, mGr, mTb⟩ := id hM
    obtain ⟨d1, d2, d3, d4, d5, d6, d7, d8, d9, d10, d11, d12, d13⟩ := id hD
    obtain ⟨y1, y2, y3, y4, y5, y6, y7, y8, y9, y10⟩ := id hE
    have hW := fun k => ru_of (k := k) (l := l) hR hK zw1
    have hWb := fun k => ru_of (k := k) (l := l) (MoR.s37 (l := l) (c := lCo (bD S l)) hR) hK zw1
    refine j_iload_n hc dX11_price_13 rfl ?_
    refine j_callS (d' := d - 1) hc dX11_price_14 sX11_345 (ev_X11_isKind (by omega) hir) rfl (by omega) (by omega) (by omega) rfl rfl (Nat.le_of_ble_eq_true rfl) (ret1 ?_)
    refine j_if_ne (b := 0) (tgt := 22) hc dX11_price_17 (by decide) (by split <;> exact ⟨by omega, by omega⟩) (fun zc2 => ?_) (fun zc2 => ?_)
    · have zk := one_pos zc2
      refine j_aload_n hc dX11_price_22 rfl ?_
      refine j_iload_n hc dX11_price_23 rfl ?_
      refine j_callV (d' := d - 1) hc dX11_price_24 vX11_348 hS.1 (ev_X11_begin (ru := ruC S l) (by omega) hS hM hD hE hB) rfl (by omega) (by omega) (by omega) rfl rfl (Nat.le_of_ble_eq_true rfl) (retN fun zq24 zp24 => ?_)
      have zT0 := BgA.tb zp24
      have hl := zT0.2.2.2.1
      refine j_aload_n hc dX11_price_27 rfl ?_
      refine j_iload_n hc dX11_price_28 rfl ?_
      refine j_iload_n hc dX11_price_29 rfl ?_
      refine j_iload hc dX11_price_30 rfl ?_
      refine j_iload hc dX11_price_32 rfl ?_
      refine j_callV (d' := d - 1) hc dX11_price_34 vX11_351 zT0.1.1 (tb_priceOf (by omega) zT0 (hWb _) hM hD hE d3 d4 (by omega) (by omega) (by omega) (by omega) (by omega) (by omega) (by omega) (by omega)) rfl (by omega) (by omega) (by omega) rfl rfl (Nat.le_of_ble_eq_true rfl) (retE fun zv34 zq34 zp34 => ?_)
      obtain ⟨zv1, zT1⟩ := zp34
      subst zv1
      exact j_iret hc he dX11_price_37 rfl (by omega) (by omega) ⟨_, rfl, by unfold aPrice; rw [if_pos ⟨zw, zk⟩]; rfl, zT1.fin (MoR.s37 hR) hX hK⟩
    · have zk := one_neg zc2
      refine j_iconst hc dX11_price_20 ?_
      exact j_iret hc he dX11_price_21 rfl (by omega) (by omega) ⟨_, rfl, by unfold aPrice; rw [if_neg (by omega)], hMo, Fr.rf _ _⟩
set_option maxRecDepth 100000 in
set_option maxHeartbeats 4000000 in
theorem ev_X11_welfare_a {k : WC} {d : Nat} {h : AH} {S : BaS} {th : Int} {l sr n q a : Int} (hd : 300 ≤ d) (hMo : ModAt h S th) (hil : inI l) (hir : inI sr) (hin : inI n) (his : inI q) (hia : inI a) : Ev k d mdX11_welfare h [vR (70, 0), vI l, vI sr, vI n, vI q, vI a] 0 0 (pe fun v h' => v = vL (aWelf S l sr n q a) ∧ ModAt h' S th ∧ Fr isMo h h') := by
  obtain ⟨s, A, hS, hR, hB, hX, hK⟩ := id hMo
  obtain ⟨m0, m2, m22, m27, m44, m45, m46, mTp, mLd, mRu, mRw, mFr⟩ := id hR
  obtain ⟨⟨kTa, kTb⟩, ⟨kL0, kL1⟩, ⟨kR0, kR1⟩, kLd, kRu, kRw, ⟨kT0, kT1⟩, kS0, kS1⟩ := id hK
  refine Ev.mk (by decide +kernel) [_, _, _, _, _, _] rfl (Nat.le_of_ble_eq_true rfl) (fun w hc he => ?_)
  refine j_aload_n hc dX11_welfare_0 rfl ?_
  refine j_iload_n hc dX11_welfare_1 rfl ?_
  refine j_iload_n hc dX11_welfare_2 rfl ?_
  refine j_iload hc dX11_welfare_3 rfl ?_
  refine j_iload hc dX11_welfare_5 rfl ?_
  refine j_callV (d' := d - 1) hc dX11_welfare_7 vX11_341 hS.1 (ev_X11_isState (by omega) hS hR hK hil hin his hia) rfl (by omega) (by omega) (by omega) rfl rfl (Nat.le_of_ble_eq_true rfl) (ret1 ?_)
  refine j_if_eq (b := 0) (tgt := 20) hc dX11_welfare_10 (by decide) (by split <;> exact ⟨by omega, by omega⟩) (fun zc1 => ?_) (fun zc1 => ?_)
  · have zw5 := one_neg zc1
    refine j_ldc2 (x := -1) hc dX11_welfare_20 kX11_354 (by decide) ?_
    exact j_lret hc he dX11_welfare_23 rfl (by omega) (by omega) ⟨_, rfl, by unfold aWelf; rw [if_neg (by omega)], hMo, Fr.rf _ _⟩
  · have zw := one_pos zc1
    have zw1 := zw.1
    obtain ⟨⟨n1, n12⟩, ⟨s0, s4⟩, a0, a40⟩ := zw.2
    obtain ⟨hD, hE, hrn, hyo⟩ := kLd l zw1.1 zw1.2
    have hM := mLd l zw1.1 zw1.2
    obtain ⟨⟨zl0, zl1⟩, mSe, mNe, mPa, mCo, mMi, mRo, mLa, mRn, mHv, mBu, mSl, mGr, mTb⟩ := id hM
    obtain ⟨d1, d2, d3, d4, d5, d6, d7, d8, d9, d10, d11, d12, d13⟩ := id hD
    obtain ⟨y1, y2, y3, y4, y5, y6, y7, y8, y9, y10⟩ := id hE
    have hW := fun k => ru_of (k := k) (l := l) hR hK zw1
    have hWb := fun k => ru_of (k := k) (l := l) (MoR.s37 (l := l) (c := lCo (bD S l)) hR) hK zw1
    refine j_iload_n hc dX11_welfare_13 rfl ?_
    refine j_callS (d' := d - 1) hc dX11_welfare_14 sX11_345 (ev_X11_isKind (by omega) hir) rfl (by omega) (by omega) (by omega) rfl rfl (Nat.le_of_ble_eq_true rfl) (ret1 ?_)
    refine j_if_ne (b := 0) (tgt := 24) hc dX11_welfare_17 (by decide) (by split <;> exact ⟨by omega, by omega⟩) (fun zc2 => ?_) (fun zc2 => ?_)
    · have zk := one_pos zc2
      refine j_aload_n hc dX11_welfare_24 rfl ?_
      refine j_iload_n hc dX11_welfare_25 rfl ?_
      refine j_callV (d' := d - 1) hc dX11_welfare_26 vX11_348 hS.1 (ev_X11_begin (ru := ruC S l) (by omega) hS hM hD hE hB) rfl (by omega) (by omega) (by omega) rfl rfl (Nat.le_of_ble_eq_true rfl) (retN fun zq26 zp26 => ?_)
      have zT0 := BgA.tb zp26
      have hl := zT0.2.2.2.1
      refine j_aload_n hc dX11_welfare_29 rfl ?_
      refine j_iload_n hc dX11_welfare_30 rfl ?_
      refine j_iload_n hc dX11_welfare_31 rfl ?_
      refine j_iload hc dX11_welfare_32 rfl ?_
      refine j_iload hc dX11_welfare_34 rfl ?_
      refine j_callV (d' := d - 1) hc dX11_welfare_36 vX11_338 zT0.1.1 (tb_fare (by omega) zT0 (hWb _) hM hD hE d3 d4 (by omega) (by omega) (by omega) (by omega) (by omega) (by omega) (by omega) (by omega)) rfl (by omega) (by omega) (by omega) rfl rfl (Nat.le_of_ble_eq_true rfl) (retE fun zv36 zq36 zp36 => ?_)
      obtain ⟨zv1, zT1⟩ := zp36
      subst zv1
      exact j_lret hc he dX11_welfare_39 rfl (by omega) (by omega) ⟨_, rfl, by unfold aWelf; rw [if_pos ⟨zw, zk⟩], zT1.fin (MoR.s37 hR) hX hK⟩
    · have zk := one_neg zc2
      refine j_ldc2 (x := -1) hc dX11_welfare_20 kX11_354 (by decide) ?_
      exact j_lret hc he dX11_welfare_23 rfl (by omega) (by omega) ⟨_, rfl, by unfold aWelf; rw [if_neg (by omega)], hMo, Fr.rf _ _⟩
set_option maxRecDepth 100000 in
set_option maxHeartbeats 4000000 in
theorem ev_X11_below_a {k : WC} {d : Nat} {h : AH} {S : BaS} {th : Int} {l n q : Int} (hd : 300 ≤ d) (hMo : ModAt h S th) (hil : inI l) (hin : inI n) (his : inI q) : Ev k d mdX11_below h [vR (70, 0), vI l, vI n, vI q] 0 0 (pe fun v h' => v = vL (aBelow S l n q) ∧ ModAt h' S th ∧ Fr isMo h h') := by
  obtain ⟨s, A, hS, hR, hB, hX, hK⟩ := id hMo
  obtain ⟨m0, m2, m22, m27, m44, m45, m46, mTp, mLd, mRu, mRw, mFr⟩ := id hR
  obtain ⟨⟨kTa, kTb⟩, ⟨kL0, kL1⟩, ⟨kR0, kR1⟩, kLd, kRu, kRw, ⟨kT0, kT1⟩, kS0, kS1⟩ := id hK
  refine Ev.mk (by decide +kernel) [_, _, _, _] rfl (Nat.le_of_ble_eq_true rfl) (fun w hc he => ?_)
  refine j_aload_n hc dX11_below_0 rfl ?_
  refine j_iload_n hc dX11_below_1 rfl ?_
  refine j_iload_n hc dX11_below_2 rfl ?_
  refine j_iload_n hc dX11_below_3 rfl ?_
  refine j_iconst hc dX11_below_4 ?_
  refine j_callV (d' := d - 1) hc dX11_below_5 vX11_341 hS.1 (ev_X11_isState (by omega) hS hR hK hil hin his ⟨by omega, by omega⟩) rfl (by omega) (by omega) (by omega) rfl rfl (Nat.le_of_ble_eq_true rfl) (ret1 ?_)
  refine j_if_ne (b := 0) (tgt := 15) hc dX11_below_8 (by decide) (by split <;> exact ⟨by omega, by omega⟩) (fun zc1 => ?_) (fun zc1 => ?_)
  · have zw := one_pos zc1
    have zw1 := zw.1
    obtain ⟨⟨n1, n12⟩, ⟨s0, s4⟩, a0, a40⟩ := zw.2
    obtain ⟨hD, hE, hrn, hyo⟩ := kLd l zw1.1 zw1.2
    have hM := mLd l zw1.1 zw1.2
    obtain ⟨⟨zl0, zl1⟩, mSe, mNe, mPa, mCo, mMi, mRo, mLa, mRn, mHv, mBu, mSl, mGr, mTb⟩ := id hM
    obtain ⟨d1, d2, d3, d4, d5, d6, d7, d8, d9, d10, d11, d12, d13⟩ := id hD
    obtain ⟨y1, y2, y3, y4, y5, y6, y7, y8, y9, y10⟩ := id hE
    have hW := fun k => ru_of (k := k) (l := l) hR hK zw1
    have hWb := fun k => ru_of (k := k) (l := l) (MoR.s37 (l := l) (c := lCo (bD S l)) hR) hK zw1
    refine j_aload_n hc dX11_below_15 rfl ?_
    refine j_iload_n hc dX11_below_16 rfl ?_
    refine j_callV (d' := d - 1) hc dX11_below_17 vX11_348 hS.1 (ev_X11_begin (ru := ruC S l) (by omega) hS hM hD hE hB) rfl (by omega) (by omega) (by omega) rfl rfl (Nat.le_of_ble_eq_true rfl) (retN fun zq17 zp17 => ?_)
    have zT0 := BgA.tb zp17
    have hl := zT0.2.2.2.1
    refine j_aload_n hc dX11_below_20 rfl ?_
    refine j_iload_n hc dX11_below_21 rfl ?_
    refine j_iload_n hc dX11_below_22 rfl ?_
    refine j_callV (d' := d - 1) hc dX11_below_23 vX11_287 zT0.1.1 (ev_X11_belowOf zT0.1 hM hD hE rfl (n - 1).toNat _ n q (by omega) (by omega) (by omega) (by omega) (by omega)) rfl (by omega) (by omega) (by omega) rfl rfl (Nat.le_of_ble_eq_true rfl) (ret1 ?_)
    exact j_lret hc he dX11_below_26 rfl (by omega) (by omega) ⟨_, rfl, by unfold aBelow; rw [if_pos zw], zT0.fin (MoR.s37 hR) hX hK⟩
  · have zw5 := one_neg zc1
    refine j_ldc2 (x := -1) hc dX11_below_11 kX11_354 (by decide) ?_
    exact j_lret hc he dX11_below_14 rfl (by omega) (by omega) ⟨_, rfl, by unfold aBelow; rw [if_neg (by omega)], hMo, Fr.rf _ _⟩
set_option maxRecDepth 100000 in
set_option maxHeartbeats 4000000 in
theorem ev_X11_takings_a {k : WC} {d : Nat} {h : AH} {S : BaS} {th : Int} {l n q a : Int} (hd : 300 ≤ d) (hMo : ModAt h S th) (hil : inI l) (hin : inI n) (his : inI q) (hia : inI a) : Ev k d mdX11_takings h [vR (70, 0), vI l, vI n, vI q, vI a] 0 0 (pe fun v h' => v = vL (aTak S l n q a) ∧ ModAt h' S th ∧ Fr isMo h h') := by
  obtain ⟨s, A, hS, hR, hB, hX, hK⟩ := id hMo
  obtain ⟨m0, m2, m22, m27, m44, m45, m46, mTp, mLd, mRu, mRw, mFr⟩ := id hR
  obtain ⟨⟨kTa, kTb⟩, ⟨kL0, kL1⟩, ⟨kR0, kR1⟩, kLd, kRu, kRw, ⟨kT0, kT1⟩, kS0, kS1⟩ := id hK
  refine Ev.mk (by decide +kernel) [_, _, _, _, _] rfl (Nat.le_of_ble_eq_true rfl) (fun w hc he => ?_)
  refine j_aload_n hc dX11_takings_0 rfl ?_
  refine j_iload_n hc dX11_takings_1 rfl ?_
  refine j_iload_n hc dX11_takings_2 rfl ?_
  refine j_iload_n hc dX11_takings_3 rfl ?_
  refine j_iload hc dX11_takings_4 rfl ?_
  refine j_callV (d' := d - 1) hc dX11_takings_6 vX11_341 hS.1 (ev_X11_isState (by omega) hS hR hK hil hin his hia) rfl (by omega) (by omega) (by omega) rfl rfl (Nat.le_of_ble_eq_true rfl) (ret1 ?_)
  refine j_if_ne (b := 0) (tgt := 16) hc dX11_takings_9 (by decide) (by split <;> exact ⟨by omega, by omega⟩) (fun zc1 => ?_) (fun zc1 => ?_)
  · have zw := one_pos zc1
    have zw1 := zw.1
    obtain ⟨⟨n1, n12⟩, ⟨s0, s4⟩, a0, a40⟩ := zw.2
    obtain ⟨hD, hE, hrn, hyo⟩ := kLd l zw1.1 zw1.2
    have hM := mLd l zw1.1 zw1.2
    obtain ⟨⟨zl0, zl1⟩, mSe, mNe, mPa, mCo, mMi, mRo, mLa, mRn, mHv, mBu, mSl, mGr, mTb⟩ := id hM
    obtain ⟨d1, d2, d3, d4, d5, d6, d7, d8, d9, d10, d11, d12, d13⟩ := id hD
    obtain ⟨y1, y2, y3, y4, y5, y6, y7, y8, y9, y10⟩ := id hE
    have hW := fun k => ru_of (k := k) (l := l) hR hK zw1
    have hWb := fun k => ru_of (k := k) (l := l) (MoR.s37 (l := l) (c := lCo (bD S l)) hR) hK zw1
    refine j_aload_n hc dX11_takings_16 rfl ?_
    refine j_iload_n hc dX11_takings_17 rfl ?_
    refine j_callV (d' := d - 1) hc dX11_takings_18 vX11_348 hS.1 (ev_X11_begin (ru := ruC S l) (by omega) hS hM hD hE hB) rfl (by omega) (by omega) (by omega) rfl rfl (Nat.le_of_ble_eq_true rfl) (retN fun zq18 zp18 => ?_)
    have zT0 := BgA.tb zp18
    have hl := zT0.2.2.2.1
    refine j_aload_n hc dX11_takings_21 rfl ?_
    refine j_iconst hc dX11_takings_22 ?_
    refine j_iload_n hc dX11_takings_23 rfl ?_
    refine j_iload_n hc dX11_takings_24 rfl ?_
    refine j_iload hc dX11_takings_25 rfl ?_
    refine j_callV (d' := d - 1) hc dX11_takings_27 vX11_322 zT0.1.1 (tb_best (by omega) zT0 (hWb _) hM hD hE d3 d4 (Or.inr rfl) (by omega) (by omega) (by omega) (by omega) (by omega) (by omega)) rfl (by omega) (by omega) (by omega) rfl rfl (Nat.le_of_ble_eq_true rfl) (retE fun zv27 zq27 zp27 => ?_)
    obtain ⟨zv1, zT1⟩ := zp27
    subst zv1
    exact j_lret hc he dX11_takings_30 rfl (by omega) (by omega) ⟨_, rfl, by unfold aTak; rw [if_pos zw]; rfl, zT1.fin (MoR.s37 hR) hX hK⟩
  · have zw5 := one_neg zc1
    refine j_ldc2 (x := -1) hc dX11_takings_12 kX11_354 (by decide) ?_
    exact j_lret hc he dX11_takings_15 rfl (by omega) (by omega) ⟨_, rfl, by unfold aTak; rw [if_neg (by omega)], hMo, Fr.rf _ _⟩
