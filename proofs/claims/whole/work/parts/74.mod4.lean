/-! ===== the reference: who looks for the best ===== -/
theorem mx_up {v : Nat → Int} {m : Nat} : mxN v (m + 1) = if v (m + 1) > (mxN v m).1 then (v (m + 1), m + 1) else mxN v m := rfl
/-- so far the best of those before j -/
def BsI (v : Nat → Int) (j : Nat) (ch top : Int) : Prop := (j = 0 ∧ ch = -1 ∧ top = 0) ∨ ∃ m, j = m + 1 ∧ ch = (mxN v m).2 ∧ top = (mxN v m).1
theorem BsI.take {v : Nat → Int} {j : Nat} {ch top : Int} (h : BsI v j ch top) (hc : ch = -1 ∨ v j > top) : BsI v (j + 1) j (v j) := by
  rcases h with ⟨h1, h2, h3⟩ | ⟨m, h1, h2, h3⟩
  · subst h1
    exact Or.inr ⟨0, rfl, rfl, rfl⟩
  · subst h1
    have hg : v (m + 1) > (mxN v m).1 := by
      rcases hc with hc | hc
      · omega
      · omega
    exact Or.inr ⟨m + 1, rfl, by rw [mx_up, if_pos hg], by rw [mx_up, if_pos hg]⟩
theorem BsI.pass {v : Nat → Int} {j : Nat} {ch top : Int} (h : BsI v j ch top) (hc : ch ≠ -1) (hv : ¬ v j > top) : BsI v (j + 1) ch top := by
  rcases h with ⟨h1, h2, h3⟩ | ⟨m, h1, h2, h3⟩
  · exact absurd h2 hc
  · subst h1
    exact Or.inr ⟨m + 1, rfl, by rw [mx_up, if_neg (by omega)]; exact h2, by rw [mx_up, if_neg (by omega)]; exact h3⟩
theorem BsI.fin {v : Nat → Int} {j m : Nat} {ch top : Int} (h : BsI v j ch top) (hj : j = m + 1) : ch = (mxN v m).2 ∧ top = (mxN v m).1 := by
  rcases h with ⟨h1, h2, h3⟩ | ⟨m', h1, h2, h3⟩
  · omega
  · obtain rfl : m' = m := by omega
    exact ⟨h2, h3⟩
theorem BsI.b {v : Nat → Int} {j : Nat} {ch top lo hi : Int} (h : BsI v j ch top) (hv : ∀ i, i < j → lo ≤ v i ∧ v i ≤ hi) (h0 : lo ≤ 0) (h1 : 0 ≤ hi) : lo ≤ top ∧ top ≤ hi ∧ -1 ≤ ch ∧ ch ≤ j := by
  rcases h with ⟨g1, g2, g3⟩ | ⟨m, g1, g2, g3⟩
  · omega
  · have := mxN_in (v := v) m (fun i hi => hv i (by omega))
    have := mxN_le (v := v) m
    omega
set_option maxRecDepth 100000 in
set_option maxHeartbeats 4000000 in
theorem lp_X11_byGood {k : WC} {s : Int → Int} {A : MAs} {l : Int} {D : LaS} {E : LaY} {ru : RU} {cs : Int} {d : Nat} {w : MC} {h : AH} {n q a : Int} {c : Nat} (IB : BeC k s A D E ru cs (n - 1) c) (hd : c + 6 ≤ d) (hd2 : 60 ≤ d) (hM : MlD A l D E) (hD : LOK D) (hE : YOK E) (hl : s 37 = l) (hcs : s 38 = cs) (hcs0 : 0 ≤ cs) (hcs1 : cs ≤ 30) (hn1 : 2 ≤ n) (hn : n ≤ 12) (hs0 : 0 ≤ q) (hs1 : q < lSe D) (ha0 : 0 ≤ a) (ha1 : a ≤ 40) (hc : Cx w k d 0 0 mdX11_byGood) (he : Ends w 0 0 (pe fun v h' => v = vI (kpS D E ru cs 2 n q a) ∧ (∃ kp ke se be : Int → Int, MmX h' D E ru cs kp ke se be ∧ be (kIx 2 n q a) = bpS D E cs 2 n q a) ∧ Fr isDp h h')) : ∀ (zm : Nat) (j : Nat) (ch top : Int) (z8 z9 : Option AV) (h' : AH) (kp ke se be : Int → Int), 22 - j = zm → (j : Int) ≤ min a (moS D E) + 1 → BsI (fbV D cs (gaS D 2) (fun x => (bvN D E cs (gaS D 2) (n - 2).toNat (nxS D q) (x - ceS (n - 1) (nxS D q))).1) n q a) j ch top → MdS h' s A → MmX h' D E ru cs kp ke se be → Fr isDp h h' → J w 0 0 9 [some (vR (70, 0)), some (vI n), some (vI q), some (vI a), some (vI ch), some (vL top), none, some (vI j), z8, z9] [] h' := by
  obtain ⟨⟨zl0, zl1⟩, mSe, mNe, mPa, mCo, mMi, mRo, mLa, mRn, mHv, mBu, mSl, mGr, mTb⟩ := id hM
  obtain ⟨d1, d2, d3, d4, d5, d6, d7, d8, d9, d10, d11, d12, d13⟩ := id hD
  obtain ⟨y1, y2, y3, y4, y5, y6, y7, y8, y9, y10⟩ := id hE
  have zn := nxS_b hD hs0
  obtain ⟨zh1, zh2, zh3, zh4, zh5, zh6⟩ := d13 (nxS D q) zn.1 zn.2
  have zmo := moS_b hD hE
  have zfM : faM D E n = moS D E := by unfold faM; rw [if_pos (by omega)]
  have zvb : ∀ i : Nat, (i : Int) ≤ min a (faM D E n) → -445805022412800 ≤ fbV D cs (gaS D 2) (fun x => (bvN D E cs (gaS D 2) (n - 2).toNat (nxS D q) (x - ceS (n - 1) (nxS D q))).1) n q a i ∧ fbV D cs (gaS D 2) (fun x => (bvN D E cs (gaS D 2) (n - 2).toNat (nxS D q) (x - ceS (n - 1) (nxS D q))).1) n q a i ≤ 158884909987921920 := fun i hi => by
    have z1 := fbV_b hD (k := i) (gf := gaS D 2) (bf := (fun x => (bvN D E cs (gaS D 2) (n - 2).toNat (nxS D q) (x - ceS (n - 1) (nxS D q))).1)) (a := a) (n := n) (s := q) hcs0 hcs1 (by omega) hn hs0 hs1 (by omega) (by omega) ha1 (fun b b0 b1 => gaS_b hD b b0 b1) (fun z b b0 b1 => bfx_b hD hE hcs0 hcs1 (by omega) hn hs0 b b0 b1)
    have z2 := bbS_b hD (n := n) (s := q) (by omega) hn hs0
    omega
  rw [zfM] at zvb
  intro zm
  induction zm using Nat.strongRecOn with
  | _ zm ih =>
    intro j ch top z8 z9 h' kp ke se be hm hj hI hS hX hfr
    have zbI := BsI.b hI (lo := -445805022412800) (hi := 158884909987921920) (fun i hi => zvb i (by omega)) (by omega) (by omega)
    refine j_iload hc dX11_byGood_9 rfl ?_
    refine j_aload_n hc dX11_byGood_11 rfl ?_
    refine j_iload_n hc dX11_byGood_12 rfl ?_
    refine j_callV (d' := d - 1) hc dX11_byGood_13 vX11_307 hS.1 (ev_X11_may (by omega) hS hM hD hE hl ⟨by omega, by omega⟩) rfl (by omega) (by omega) (by omega) rfl rfl (Nat.le_of_ble_eq_true rfl) (ret1 ?_)
    refine j_icmp_gt (tgt := 95) hc dX11_byGood_16 (by decide) ⟨by omega, by omega⟩ ⟨by omega, by omega⟩ (fun zc1 => ?_) (fun zc1 => ?_)
    · have zfin := BsI.fin hI (m := (min a (moS D E)).toNat) (by omega)
      have zbv := bv_n (D := D) (E := E) (cs := cs) (kd := 2) (q := q) (a := a) (show 2 ≤ n by omega)
      rw [zfM] at zbv
      have zbp : top = bpS D E cs 2 n q a := by unfold bpS; rw [zbv]; exact zfin.2
      have zkp : ch = kpS D E ru cs 2 n q a := by unfold kpS; rw [if_neg (by omega), if_pos (by omega), zbv]; exact zfin.1
      have zix := kIx_b (kd := 2) (n := n) (q := q) (a := a) (by omega) (by omega) (by omega) hn hs0 (by omega) ha0 ha1
      refine j_aload_n hc dX11_byGood_95 rfl ?_
      refine j_get hc dX11_byGood_96 fX11_87 hS.1 rfl ?_
      refine j_sipush hc dX11_byGood_99 (by decide) ?_
      refine j_iload_n hc dX11_byGood_102 rfl ?_
      refine j_iload_n hc dX11_byGood_103 rfl ?_
      refine j_iload_n hc dX11_byGood_104 rfl ?_
      refine j_callS (d' := d - 1) hc dX11_byGood_105 sX11_291 (ev_X11_state (by omega)) rfl (by omega) (by omega) (by omega) rfl rfl (Nat.le_of_ble_eq_true rfl) (ret1 ?_)
      refine j_iadd hc dX11_byGood_108 ?_
      refine j_lload hc dX11_byGood_109 rfl ?_
      refine j_last hc dX11_byGood_111 hX.2.2.2.1 (by have := zix; unfold kIx at this; omega) (by have := zix; unfold kIx at this; omega) ?_
      generalize ezh1 : up _ _ _ = zh1
      have zzmod_zh1 := MdS.mv ezh1 (by simp) hS
      have zM31_zh1 := (congrFun ezh1 _).symm.trans ((up_ne (by simp)).trans hX.1)
      have zM32_zh1 := (congrFun ezh1 _).symm.trans ((up_ne (by simp)).trans hX.2.1)
      have zM33_zh1 := (congrFun ezh1 _).symm.trans ((up_ne (by simp)).trans hX.2.2.1)
      have zM34_zh1 := (congrFun ezh1 _).symm.trans (up_same _ _ _)
      refine j_iload hc dX11_byGood_112 rfl ?_
      exact j_iret hc he dX11_byGood_114 rfl (by omega) (by omega) ⟨_, rfl, by rw [zkp], ⟨⟨_, _, _, _, ⟨zM31_zh1, zM32_zh1, zM33_zh1, zM34_zh1, (by obtain ⟨pf, zpf⟩ := hX.2.2.2.2.1; exact ⟨pf, by rw [← ezh1, up_ne (by simp)]; exact zpf⟩), MmV.best (kd := 2) hD hX.2.2.2.2.2 (by omega) hn hs0 hs1 ha0 ha1 zbp⟩, (by show fu _ _ _ _ = _; rw [show (4264 : Int) + ((n * 4 + q) * 41 + a) = kIx 2 n q a by unfold kIx; omega, fu_same, zbp])⟩, by rw [← ezh1]; exact (hfr).push (by decide)⟩⟩
    · have zgo := goS_b hD (e := a - j) (by omega)
      have zcj := mul_b hcs0 hcs1 (show 0 ≤ (j : Int) by omega) (show (j : Int) ≤ 20 by omega)
      have zlf := leS_b hD (k := j) (by omega)
      refine j_aload_n hc dX11_byGood_19 rfl ?_
      refine j_aload_n hc dX11_byGood_20 rfl ?_
      refine j_get hc dX11_byGood_21 fX11_278 hS.1 rfl ?_
      rw [hl]
      refine j_iload_n hc dX11_byGood_24 rfl ?_
      refine j_iload hc dX11_byGood_25 rfl ?_
      refine j_isub hc dX11_byGood_27 ?_
      refine j_callV (d' := d - 1) hc dX11_byGood_28 vX11_262 hS.1 (ev_X11_goods (by omega) hS hM hD hE (by omega) (by omega)) rfl (by omega) (by omega) (by omega) rfl rfl (Nat.le_of_ble_eq_true rfl) (ret1 ?_)
      refine j_aload_n hc dX11_byGood_31 rfl ?_
      refine j_get hc dX11_byGood_32 fX11_281 hS.1 rfl ?_
      rw [hcs]
      refine j_iload hc dX11_byGood_35 rfl ?_
      refine j_imul hc dX11_byGood_37 ?_
      refine j_isub hc dX11_byGood_38 ?_
      refine j_i2l hc dX11_byGood_39 ⟨by omega, by omega⟩ ?_
      refine j_aload_n hc dX11_byGood_40 rfl ?_
      refine j_iload_n hc dX11_byGood_41 rfl ?_
      refine j_iload_n hc dX11_byGood_42 rfl ?_
      refine j_callV (d' := d - 1) hc dX11_byGood_43 vX11_287 hS.1 (ev_X11_belowOf hS hM hD hE hl (n - 1).toNat (d - 1) n q (by omega) (by omega) (by omega) hs0 hs1) rfl (by omega) (by omega) (by omega) rfl rfl (Nat.le_of_ble_eq_true rfl) (ret1 ?_)
      refine j_lmul hc dX11_byGood_46 ?_
      refine j_aload_n hc dX11_byGood_47 rfl ?_
      refine j_iconst hc dX11_byGood_48 ?_
      refine j_iload_n hc dX11_byGood_49 rfl ?_
      refine j_iload_n hc dX11_byGood_50 rfl ?_
      refine j_aload_n hc dX11_byGood_51 rfl ?_
      refine j_aload_n hc dX11_byGood_52 rfl ?_
      refine j_get hc dX11_byGood_53 fX11_278 hS.1 rfl ?_
      rw [hl]
      refine j_iload hc dX11_byGood_56 rfl ?_
      refine j_callV (d' := d - 1) hc dX11_byGood_58 vX11_275 hS.1 (ev_X11_leftOf (by omega) hS hM hD hE (by omega) (by omega)) rfl (by omega) (by omega) (by omega) rfl rfl (Nat.le_of_ble_eq_true rfl) (ret1 ?_)
      refine j_callV (d' := d - 1) hc dX11_byGood_61 vX11_326 hS.1 (ev_X11_behind (kd := 2) (left := leS D j) IB (by omega) (by omega) hS hM hD hE hl hcs hcs0 hcs1 hX (by omega) (by omega) hn hs0 hs1 (by omega) (by omega)) rfl (by omega) (by omega) (by omega) rfl rfl (Nat.le_of_ble_eq_true rfl) (retE fun zv61 zq61 zp61 => ?_)
      obtain ⟨zv8, ⟨kp8, ke8, se8, be8, zX8⟩, zF8⟩ := zp61
      subst zv8
      have zzmod_q8 := MdS.fr (fun z hz => zF8 z (nDp hz)) hS
      refine j_ladd hc dX11_byGood_64 ?_
      have zvj : (goS D (a - j) - cs * j) * beN D (n - 1).toNat q + suF (stG D (fun x => (bvN D E cs (gaS D 2) (n - 2).toNat (nxS D q) (x - ceS (n - 1) (nxS D q))).1) (n - 1) (nxS D q) (leS D j)) (lHv D (nxS D q)).toNat = fbV D cs (gaS D 2) (fun x => (bvN D E cs (gaS D 2) (n - 2).toNat (nxS D q) (x - ceS (n - 1) (nxS D q))).1) n q a j := by
        rw [fbV_n (by omega)]
        unfold gaS
        rw [if_neg (by omega)]
      rw [zvj]
      have zvB := zvb j (by omega)
      have zbI := BsI.b hI (lo := -445805022412800) (hi := 158884909987921920) (fun i hi => zvb i (by omega)) (by omega) (by omega)
      refine j_lstore (L' := [_, _, _, _, _, _, _, _, _, _]) hc dX11_byGood_65 (Nat.le_of_ble_eq_true rfl) rfl ?_
      refine j_iload hc dX11_byGood_67 rfl ?_
      refine j_iconst hc dX11_byGood_69 ?_
      refine j_icmp_eq (tgt := 81) hc dX11_byGood_70 (by decide) ⟨by omega, by omega⟩ ⟨by omega, by omega⟩ (fun zc2 => ?_) (fun zc2 => ?_)
      · have zgt : ch = -1 ∨ fbV D cs (gaS D 2) (fun x => (bvN D E cs (gaS D 2) (n - 2).toNat (nxS D q) (x - ceS (n - 1) (nxS D q))).1) n q a j > top := Or.inl zc2
        refine j_iload hc dX11_byGood_81 rfl ?_
        refine j_istore (L' := [_, _, _, _, _, _, _, _, _, _]) hc dX11_byGood_83 (Nat.le_of_ble_eq_true rfl) rfl ?_
        refine j_lload hc dX11_byGood_85 rfl ?_
        refine j_lstore (L' := [_, _, _, _, _, _, _, _, _, _]) hc dX11_byGood_87 (Nat.le_of_ble_eq_true rfl) rfl ?_
        refine j_iinc (L' := [_, _, _, _, _, _, _, _, _, _]) hc dX11_byGood_89 rfl (Nat.le_of_ble_eq_true rfl) rfl ?_
        refine j_goto (tgt := 9) hc dX11_byGood_92 (by decide) ?_
        exact ih _ (by omega) (j + 1) _ _ _ _ _ _ _ _ _ rfl (by omega) (BsI.take hI zgt) zzmod_q8 zX8 (hfr.tr zF8)
      · have zch : ch ≠ -1 := zc2
        refine j_lload hc dX11_byGood_73 rfl ?_
        refine j_lload hc dX11_byGood_75 rfl ?_
        refine j_lcmp hc dX11_byGood_77 ⟨by omega, by omega⟩ ⟨by omega, by omega⟩ ?_
        refine j_if_le (b := 0) (tgt := 89) hc dX11_byGood_78 (by decide) (by unfold lc; split <;> (try split) <;> exact ⟨by omega, by omega⟩) (fun zc3 => ?_) (fun zc3 => ?_)
        · have zle : ¬ fbV D cs (gaS D 2) (fun x => (bvN D E cs (gaS D 2) (n - 2).toNat (nxS D q) (x - ceS (n - 1) (nxS D q))).1) n q a j > top := by unfold lc at zc3; split at zc3 <;> (try split at zc3) <;> omega
          refine j_iinc (L' := [_, _, _, _, _, _, _, _, _, _]) hc dX11_byGood_89 rfl (Nat.le_of_ble_eq_true rfl) rfl ?_
          refine j_goto (tgt := 9) hc dX11_byGood_92 (by decide) ?_
          exact ih _ (by omega) (j + 1) _ _ _ _ _ _ _ _ _ rfl (by omega) (BsI.pass hI zch zle) zzmod_q8 zX8 (hfr.tr zF8)
        · have zgt : ch = -1 ∨ fbV D cs (gaS D 2) (fun x => (bvN D E cs (gaS D 2) (n - 2).toNat (nxS D q) (x - ceS (n - 1) (nxS D q))).1) n q a j > top := Or.inr (by unfold lc at zc3; split at zc3 <;> (try split at zc3) <;> omega)
          refine j_iload hc dX11_byGood_81 rfl ?_
          refine j_istore (L' := [_, _, _, _, _, _, _, _, _, _]) hc dX11_byGood_83 (Nat.le_of_ble_eq_true rfl) rfl ?_
          refine j_lload hc dX11_byGood_85 rfl ?_
          refine j_lstore (L' := [_, _, _, _, _, _, _, _, _, _]) hc dX11_byGood_87 (Nat.le_of_ble_eq_true rfl) rfl ?_
          refine j_iinc (L' := [_, _, _, _, _, _, _, _, _, _]) hc dX11_byGood_89 rfl (Nat.le_of_ble_eq_true rfl) rfl ?_
          refine j_goto (tgt := 9) hc dX11_byGood_92 (by decide) ?_
          exact ih _ (by omega) (j + 1) _ _ _ _ _ _ _ _ _ rfl (by omega) (BsI.take hI zgt) zzmod_q8 zX8 (hfr.tr zF8)
set_option maxRecDepth 100000 in
set_option maxHeartbeats 4000000 in
theorem ev_X11_byGood {k : WC} {s : Int → Int} {A : MAs} {l : Int} {D : LaS} {E : LaY} {ru : RU} {cs : Int} {d : Nat} {h : AH} {n q a : Int} {c : Nat} {kp ke se be : Int → Int} (IB : BeC k s A D E ru cs (n - 1) c) (hd : c + 6 ≤ d) (hd2 : 60 ≤ d) (hS : MdS h s A) (hM : MlD A l D E) (hD : LOK D) (hE : YOK E) (hl : s 37 = l) (hcs : s 38 = cs) (hcs0 : 0 ≤ cs) (hcs1 : cs ≤ 30) (hX : MmX h D E ru cs kp ke se be) (hn1 : 2 ≤ n) (hn : n ≤ 12) (hs0 : 0 ≤ q) (hs1 : q < lSe D) (ha0 : 0 ≤ a) (ha1 : a ≤ 40)  : Ev k d mdX11_byGood h [vR (70, 0), vI n, vI q, vI a] 0 0 (pe fun v h' => v = vI (kpS D E ru cs 2 n q a) ∧ (∃ kp ke se be : Int → Int, MmX h' D E ru cs kp ke se be ∧ be (kIx 2 n q a) = bpS D E cs 2 n q a) ∧ Fr isDp h h') := by
  obtain ⟨⟨zl0, zl1⟩, mSe, mNe, mPa, mCo, mMi, mRo, mLa, mRn, mHv, mBu, mSl, mGr, mTb⟩ := id hM
  obtain ⟨d1, d2, d3, d4, d5, d6, d7, d8, d9, d10, d11, d12, d13⟩ := id hD
  obtain ⟨y1, y2, y3, y4, y5, y6, y7, y8, y9, y10⟩ := id hE
  have zmo := moS_b hD hE
  refine Ev.mk (by decide +kernel) [_, _, _, _, _, _, _, _, _, _] rfl (Nat.le_of_ble_eq_true rfl) (fun w hc he => ?_)
  refine j_iconst hc dX11_byGood_0 ?_
  refine j_istore (L' := [_, _, _, _, _, _, _, _, _, _]) hc dX11_byGood_1 (Nat.le_of_ble_eq_true rfl) rfl ?_
  refine j_lconst (x := 0) hc dX11_byGood_3 (by decide) ?_
  refine j_lstore (L' := [_, _, _, _, _, _, _, _, _, _]) hc dX11_byGood_4 (Nat.le_of_ble_eq_true rfl) rfl ?_
  refine j_iconst hc dX11_byGood_6 ?_
  refine j_istore (L' := [_, _, _, _, _, _, _, _, _, _]) hc dX11_byGood_7 (Nat.le_of_ble_eq_true rfl) rfl ?_
  exact lp_X11_byGood IB hd hd2 hM hD hE hl hcs hcs0 hcs1 hn1 hn hs0 hs1 ha0 ha1 hc he _ 0 _ _ _ _ _ _ _ _ _ rfl (by omega) (Or.inl ⟨rfl, rfl, rfl⟩) hS hX (Fr.rf _ _)
set_option maxRecDepth 100000 in
set_option maxHeartbeats 4000000 in
theorem lp_X11_byOne {k : WC} {s : Int → Int} {A : MAs} {l : Int} {D : LaS} {E : LaY} {ru : RU} {cs : Int} {d : Nat} {w : MC} {h : AH} {n q a : Int} {c : Nat} (IB : n ≠ 1 → BeC k s A D E ru cs (n - 1) c) (hd : c + 6 ≤ d) (hd2 : 60 ≤ d) (hM : MlD A l D E) (hD : LOK D) (hE : YOK E) (hl : s 37 = l) (hcs : s 38 = cs) (hcs0 : 0 ≤ cs) (hcs1 : cs ≤ 30) (hn1 : 1 ≤ n) (hn : n ≤ 12) (hs0 : 0 ≤ q) (hs1 : q < lSe D) (ha0 : 0 ≤ a) (ha1 : a ≤ 40) (hc : Cx w k d 0 0 mdX11_byOne) (he : Ends w 0 0 (pe fun v h' => v = vI (kpS D E ru cs 3 n q a) ∧ (∃ kp ke se be : Int → Int, MmX h' D E ru cs kp ke se be ∧ be (kIx 3 n q a) = bpS D E cs 3 n q a ∧ se ((n * 4 + q) * 41 + a) = saS D (a - kpS D E ru cs 3 n q a)) ∧ Fr isDp h h')) : ∀ (zm : Nat) (j : Nat) (ch top : Int) (z9 z10 z11 : Option AV) (h' : AH) (kp ke se be : Int → Int), 22 - j = zm → (j : Int) ≤ min a (faM D E n) + 1 → BsI (fbV D cs (gaS D 3) (fun x => (bvN D E cs (gaS D 3) (n - 2).toNat (nxS D q) (x - ceS (n - 1) (nxS D q))).1) n q a) j ch top → MdS h' s A → MmX h' D E ru cs kp ke se be → Fr isDp h h' → J w 0 0 25 [some (vR (70, 0)), some (vI n), some (vI q), some (vI a), some (vI ch), some (vL top), none, some (vI (min a (faM D E n))), some (vI j), z9, z10, z11] [] h' := by
  obtain ⟨⟨zl0, zl1⟩, mSe, mNe, mPa, mCo, mMi, mRo, mLa, mRn, mHv, mBu, mSl, mGr, mTb⟩ := id hM
  obtain ⟨d1, d2, d3, d4, d5, d6, d7, d8, d9, d10, d11, d12, d13⟩ := id hD
  obtain ⟨y1, y2, y3, y4, y5, y6, y7, y8, y9, y10⟩ := id hE
  have zn := nxS_b hD hs0
  obtain ⟨zh1, zh2, zh3, zh4, zh5, zh6⟩ := d13 (nxS D q) zn.1 zn.2
  have zmo := faM_b hD hE n
  have zf1 : n = 1 → faM D E n = 0 := fun z => by unfold faM; rw [if_neg (by omega)]
  have zvb : ∀ i : Nat, (i : Int) ≤ min a (faM D E n) → -445805022412800 ≤ fbV D cs (gaS D 3) (fun x => (bvN D E cs (gaS D 3) (n - 2).toNat (nxS D q) (x - ceS (n - 1) (nxS D q))).1) n q a i ∧ fbV D cs (gaS D 3) (fun x => (bvN D E cs (gaS D 3) (n - 2).toNat (nxS D q) (x - ceS (n - 1) (nxS D q))).1) n q a i ≤ 158884909987921920 := fun i hi => by
    have z1 := fbV_b hD (k := i) (gf := gaS D 3) (bf := (fun x => (bvN D E cs (gaS D 3) (n - 2).toNat (nxS D q) (x - ceS (n - 1) (nxS D q))).1)) (a := a) (n := n) (s := q) hcs0 hcs1 (by omega) hn hs0 hs1 (by omega) (by omega) ha1 (fun b b0 b1 => gaS_b hD b b0 b1) (fun z b b0 b1 => bfx_b hD hE hcs0 hcs1 (by omega) hn hs0 b b0 b1)
    have z2 := bbS_b hD (n := n) (s := q) (by omega) hn hs0
    omega
  intro zm
  induction zm using Nat.strongRecOn with
  | _ zm ih =>
    intro j ch top z9 z10 z11 h' kp ke se be hm hj hI hS hX hfr
    have zbI := BsI.b hI (lo := -445805022412800) (hi := 158884909987921920) (fun i hi => zvb i (by omega)) (by omega) (by omega)
    refine j_iload hc dX11_byOne_25 rfl ?_
    refine j_iload hc dX11_byOne_27 rfl ?_
    refine j_icmp_gt (tgt := 121) hc dX11_byOne_29 (by decide) ⟨by omega, by omega⟩ ⟨by omega, by omega⟩ (fun zc1 => ?_) (fun zc1 => ?_)
    · have zfin := BsI.fin hI (m := (min a (faM D E n)).toNat) (by omega)
      have zbv : bvN D E cs (gaS D 3) (n - 1).toNat q a = mxN (fbV D cs (gaS D 3) (fun x => (bvN D E cs (gaS D 3) (n - 2).toNat (nxS D q) (x - ceS (n - 1) (nxS D q))).1) n q a) (min a (faM D E n)).toNat := by
        by_cases z1 : n = 1
        · exact bv_1 z1
        · exact bv_n (kd := 3) (by omega)
      have zbp : top = bpS D E cs 3 n q a := by unfold bpS; rw [zbv]; exact zfin.2
      have zkp : ch = kpS D E ru cs 3 n q a := by unfold kpS; rw [if_neg (by omega), if_pos (by omega), zbv]; exact zfin.1
      have zkb := kpS_b hD hE (ru := ru) (cs := cs) (sr := 3) (n := n) (s := q) ha0
      have zkl := kpS_le hD hE (ru := ru) (cs := cs) (sr := 3) (n := n) (s := q) (by omega) ha0
      have zix := kIx_b (kd := 3) (n := n) (q := q) (a := a) (by omega) (by omega) (by omega) hn hs0 (by omega) ha0 ha1
      refine j_aload_n hc dX11_byOne_121 rfl ?_
      refine j_get hc dX11_byOne_122 fX11_87 hS.1 rfl ?_
      refine j_sipush hc dX11_byOne_125 (by decide) ?_
      refine j_iload_n hc dX11_byOne_128 rfl ?_
      refine j_iload_n hc dX11_byOne_129 rfl ?_
      refine j_iload_n hc dX11_byOne_130 rfl ?_
      refine j_callS (d' := d - 1) hc dX11_byOne_131 sX11_291 (ev_X11_state (by omega)) rfl (by omega) (by omega) (by omega) rfl rfl (Nat.le_of_ble_eq_true rfl) (ret1 ?_)
      refine j_iadd hc dX11_byOne_134 ?_
      refine j_lload hc dX11_byOne_135 rfl ?_
      refine j_last hc dX11_byOne_137 hX.2.2.2.1 (by have := zix; unfold kIx at this; omega) (by have := zix; unfold kIx at this; omega) ?_
      generalize ezh1 : up _ _ _ = zh1
      have zzmod_zh1 := MdS.mv ezh1 (by simp) hS
      have zM31_zh1 := (congrFun ezh1 _).symm.trans ((up_ne (by simp)).trans hX.1)
      have zM32_zh1 := (congrFun ezh1 _).symm.trans ((up_ne (by simp)).trans hX.2.1)
      have zM33_zh1 := (congrFun ezh1 _).symm.trans ((up_ne (by simp)).trans hX.2.2.1)
      have zM34_zh1 := (congrFun ezh1 _).symm.trans (up_same _ _ _)
      refine j_aload_n hc dX11_byOne_138 rfl ?_
      refine j_get hc dX11_byOne_139 fX11_84 zzmod_zh1.1 rfl ?_
      refine j_iload_n hc dX11_byOne_142 rfl ?_
      refine j_iload_n hc dX11_byOne_143 rfl ?_
      refine j_iload_n hc dX11_byOne_144 rfl ?_
      refine j_callS (d' := d - 1) hc dX11_byOne_145 sX11_291 (ev_X11_state (by omega)) rfl (by omega) (by omega) (by omega) rfl rfl (Nat.le_of_ble_eq_true rfl) (ret1 ?_)
      refine j_aload_n hc dX11_byOne_148 rfl ?_
      refine j_iload_n hc dX11_byOne_149 rfl ?_
      refine j_iload hc dX11_byOne_150 rfl ?_
      refine j_isub hc dX11_byOne_152 ?_
      refine j_callV (d' := d - 1) hc dX11_byOne_153 vX11_332 zzmod_zh1.1 (ev_X11_soldOf (by omega) zzmod_zh1 hM hD hE hl (by omega) (by omega)) rfl (by omega) (by omega) (by omega) rfl rfl (Nat.le_of_ble_eq_true rfl) (ret1 ?_)
      refine j_iast hc dX11_byOne_156 zM33_zh1 (by omega) (by omega) ?_
      generalize ezh2 : up _ _ _ = zh2
      have zzmod_zh2 := MdS.mv ezh2 (by simp) zzmod_zh1
      have zM31_zh2 := (congrFun ezh2 _).symm.trans ((up_ne (by simp)).trans zM31_zh1)
      have zM32_zh2 := (congrFun ezh2 _).symm.trans ((up_ne (by simp)).trans zM32_zh1)
      have zM33_zh2 := (congrFun ezh2 _).symm.trans (up_same _ _ _)
      have zM34_zh2 := (congrFun ezh2 _).symm.trans ((up_ne (by simp)).trans zM34_zh1)
      refine j_iload hc dX11_byOne_157 rfl ?_
      exact j_iret hc he dX11_byOne_159 rfl (by omega) (by omega) ⟨_, rfl, by rw [zkp], ⟨⟨_, _, _, _, ⟨zM31_zh2, zM32_zh2, zM33_zh2, zM34_zh2, (by obtain ⟨pf, zpf⟩ := hX.2.2.2.2.1; exact ⟨pf, by rw [← ezh2, ← ezh1, up_ne (by simp), up_ne (by simp)]; exact zpf⟩), MmV.sell hD (MmV.best (kd := 3) hD hX.2.2.2.2.2 (by omega) hn hs0 hs1 ha0 ha1 zbp) (by omega) hn hs0 hs1 ha0 ha1 (by rw [zkp])⟩, (by show fu _ _ _ _ = _; rw [show (6396 : Int) + ((n * 4 + q) * 41 + a) = kIx 3 n q a by unfold kIx; omega, fu_same, zbp]), (by show fu _ _ _ _ = _; rw [fu_same, zkp])⟩, by rw [← ezh2, ← ezh1]; exact ((hfr).push (by decide)).push (by decide)⟩⟩
    · have zsa := saS_b hD (a - j)
      have ztk : tkS D (saS D (a - j)) = gaS D 3 (a - j) := by
        unfold gaS saS
        rw [if_pos rfl, if_pos (by omega), tk_bs]
      have zga := gaS_b hD (sr := 3) (a - j) (by omega) (by omega)
      have zcj := mul_b hcs0 hcs1 (show 0 ≤ (j : Int) by omega) (show (j : Int) ≤ 20 by omega)
      have zlf := leS_b hD (k := j) (by omega)
      refine j_aload_n hc dX11_byOne_32 rfl ?_
      refine j_iload_n hc dX11_byOne_33 rfl ?_
      refine j_iload hc dX11_byOne_34 rfl ?_
      refine j_isub hc dX11_byOne_36 ?_
      refine j_callV (d' := d - 1) hc dX11_byOne_37 vX11_332 hS.1 (ev_X11_soldOf (by omega) hS hM hD hE hl (by omega) (by omega)) rfl (by omega) (by omega) (by omega) rfl rfl (Nat.le_of_ble_eq_true rfl) (ret1 ?_)
      refine j_istore (L' := [_, _, _, _, _, _, _, _, _, _, _, _]) hc dX11_byOne_40 (Nat.le_of_ble_eq_true rfl) rfl ?_
      refine j_aload_n hc dX11_byOne_42 rfl ?_
      refine j_iload hc dX11_byOne_43 rfl ?_
      refine j_callV (d' := d - 1) hc dX11_byOne_45 vX11_329 hS.1 (ev_X11_takes (by omega) hS hM hD hE hl (by omega) (by omega)) rfl (by omega) (by omega) (by omega) rfl rfl (Nat.le_of_ble_eq_true rfl) (ret1 ?_)
      rw [ztk]
      refine j_aload_n hc dX11_byOne_48 rfl ?_
      refine j_get hc dX11_byOne_49 fX11_281 hS.1 rfl ?_
      rw [hcs]
      refine j_iload hc dX11_byOne_52 rfl ?_
      refine j_imul hc dX11_byOne_54 ?_
      refine j_isub hc dX11_byOne_55 ?_
      refine j_i2l hc dX11_byOne_56 ⟨by omega, by omega⟩ ?_
      refine j_aload_n hc dX11_byOne_57 rfl ?_
      refine j_iload_n hc dX11_byOne_58 rfl ?_
      refine j_iload_n hc dX11_byOne_59 rfl ?_
      refine j_callV (d' := d - 1) hc dX11_byOne_60 vX11_287 hS.1 (ev_X11_belowOf hS hM hD hE hl (n - 1).toNat (d - 1) n q (by omega) (by omega) (by omega) hs0 hs1) rfl (by omega) (by omega) (by omega) rfl rfl (Nat.le_of_ble_eq_true rfl) (ret1 ?_)
      refine j_lmul hc dX11_byOne_63 ?_
      refine j_iload_n hc dX11_byOne_64 rfl ?_
      refine j_iconst hc dX11_byOne_65 ?_
      refine j_icmp_ne (tgt := 73) hc dX11_byOne_66 (by decide) ⟨by omega, by omega⟩ ⟨by omega, by omega⟩ (fun zc2 => ?_) (fun zc2 => ?_)
      · refine j_aload_n hc dX11_byOne_73 rfl ?_
        refine j_iconst hc dX11_byOne_74 ?_
        refine j_iload_n hc dX11_byOne_75 rfl ?_
        refine j_iload_n hc dX11_byOne_76 rfl ?_
        refine j_aload_n hc dX11_byOne_77 rfl ?_
        refine j_aload_n hc dX11_byOne_78 rfl ?_
        refine j_get hc dX11_byOne_79 fX11_278 hS.1 rfl ?_
        rw [hl]
        refine j_iload hc dX11_byOne_82 rfl ?_
        refine j_callV (d' := d - 1) hc dX11_byOne_84 vX11_275 hS.1 (ev_X11_leftOf (by omega) hS hM hD hE (by omega) (by omega)) rfl (by omega) (by omega) (by omega) rfl rfl (Nat.le_of_ble_eq_true rfl) (ret1 ?_)
        refine j_callV (d' := d - 1) hc dX11_byOne_87 vX11_326 hS.1 (ev_X11_behind (kd := 3) (left := leS D j) (IB (by omega)) (by omega) (by omega) hS hM hD hE hl hcs hcs0 hcs1 hX (by omega) (by omega) hn hs0 hs1 (by omega) (by omega)) rfl (by omega) (by omega) (by omega) rfl rfl (Nat.le_of_ble_eq_true rfl) (retE fun zv87 zq87 zp87 => ?_)
        obtain ⟨zv8, ⟨kp8, ke8, se8, be8, zX8⟩, zF8⟩ := zp87
        subst zv8
        have zzmod_q8 := MdS.fr (fun z hz => zF8 z (nDp hz)) hS
        refine j_ladd hc dX11_byOne_90 ?_
        have zvj : (gaS D 3 (a - j) - cs * j) * beN D (n - 1).toNat q + suF (stG D (fun x => (bvN D E cs (gaS D 3) (n - 2).toNat (nxS D q) (x - ceS (n - 1) (nxS D q))).1) (n - 1) (nxS D q) (leS D j)) (lHv D (nxS D q)).toNat = fbV D cs (gaS D 3) (fun x => (bvN D E cs (gaS D 3) (n - 2).toNat (nxS D q) (x - ceS (n - 1) (nxS D q))).1) n q a j := by rw [fbV_n (by omega)]
        rw [zvj]
        have zvB := zvb j (by omega)
        refine j_lstore (L' := [_, _, _, _, _, _, _, _, _, _, _, _]) hc dX11_byOne_91 (Nat.le_of_ble_eq_true rfl) rfl ?_
        refine j_iload hc dX11_byOne_93 rfl ?_
        refine j_iconst hc dX11_byOne_95 ?_
        refine j_icmp_eq (tgt := 107) hc dX11_byOne_96 (by decide) ⟨by omega, by omega⟩ ⟨by omega, by omega⟩ (fun zc3 => ?_) (fun zc3 => ?_)
        · have zgt : ch = -1 ∨ fbV D cs (gaS D 3) (fun x => (bvN D E cs (gaS D 3) (n - 2).toNat (nxS D q) (x - ceS (n - 1) (nxS D q))).1) n q a j > top := Or.inl zc3
          refine j_iload hc dX11_byOne_107 rfl ?_
          refine j_istore (L' := [_, _, _, _, _, _, _, _, _, _, _, _]) hc dX11_byOne_109 (Nat.le_of_ble_eq_true rfl) rfl ?_
          refine j_lload hc dX11_byOne_111 rfl ?_
          refine j_lstore (L' := [_, _, _, _, _, _, _, _, _, _, _, _]) hc dX11_byOne_113 (Nat.le_of_ble_eq_true rfl) rfl ?_
          refine j_iinc (L' := [_, _, _, _, _, _, _, _, _, _, _, _]) hc dX11_byOne_115 rfl (Nat.le_of_ble_eq_true rfl) rfl ?_
          refine j_goto (tgt := 25) hc dX11_byOne_118 (by decide) ?_
          exact ih _ (by omega) (j + 1) _ _ _ _ _ _ _ _ _ _ rfl (by omega) (BsI.take hI zgt) zzmod_q8 zX8 (hfr.tr zF8)
        · have zch : ch ≠ -1 := zc3
          refine j_lload hc dX11_byOne_99 rfl ?_
          refine j_lload hc dX11_byOne_101 rfl ?_
          refine j_lcmp hc dX11_byOne_103 ⟨by omega, by omega⟩ ⟨by omega, by omega⟩ ?_
          refine j_if_le (b := 0) (tgt := 115) hc dX11_byOne_104 (by decide) (by unfold lc; split <;> (try split) <;> exact ⟨by omega, by omega⟩) (fun zc4 => ?_) (fun zc4 => ?_)
          · have zle : ¬ fbV D cs (gaS D 3) (fun x => (bvN D E cs (gaS D 3) (n - 2).toNat (nxS D q) (x - ceS (n - 1) (nxS D q))).1) n q a j > top := by unfold lc at zc4; split at zc4 <;> (try split at zc4) <;> omega
            refine j_iinc (L' := [_, _, _, _, _, _, _, _, _, _, _, _]) hc dX11_byOne_115 rfl (Nat.le_of_ble_eq_true rfl) rfl ?_
            refine j_goto (tgt := 25) hc dX11_byOne_118 (by decide) ?_
            exact ih _ (by omega) (j + 1) _ _ _ _ _ _ _ _ _ _ rfl (by omega) (BsI.pass hI zch zle) zzmod_q8 zX8 (hfr.tr zF8)
          · have zgt : ch = -1 ∨ fbV D cs (gaS D 3) (fun x => (bvN D E cs (gaS D 3) (n - 2).toNat (nxS D q) (x - ceS (n - 1) (nxS D q))).1) n q a j > top := Or.inr (by unfold lc at zc4; split at zc4 <;> (try split at zc4) <;> omega)
            refine j_iload hc dX11_byOne_107 rfl ?_
            refine j_istore (L' := [_, _, _, _, _, _, _, _, _, _, _, _]) hc dX11_byOne_109 (Nat.le_of_ble_eq_true rfl) rfl ?_
            refine j_lload hc dX11_byOne_111 rfl ?_
            refine j_lstore (L' := [_, _, _, _, _, _, _, _, _, _, _, _]) hc dX11_byOne_113 (Nat.le_of_ble_eq_true rfl) rfl ?_
            refine j_iinc (L' := [_, _, _, _, _, _, _, _, _, _, _, _]) hc dX11_byOne_115 rfl (Nat.le_of_ble_eq_true rfl) rfl ?_
            refine j_goto (tgt := 25) hc dX11_byOne_118 (by decide) ?_
            exact ih _ (by omega) (j + 1) _ _ _ _ _ _ _ _ _ _ rfl (by omega) (BsI.take hI zgt) zzmod_q8 zX8 (hfr.tr zF8)
      · refine j_lconst (x := 0) hc dX11_byOne_69 (by decide) ?_
        refine j_goto (tgt := 90) hc dX11_byOne_70 (by decide) ?_
        refine j_ladd hc dX11_byOne_90 ?_
        have zj0 : j = 0 := by omega
        subst zj0
        have zvj : (gaS D 3 (a - (0 : Nat)) - cs * (0 : Nat)) * beN D (n - 1).toNat q + 0 = fbV D cs (gaS D 3) (fun x => (bvN D E cs (gaS D 3) (n - 2).toNat (nxS D q) (x - ceS (n - 1) (nxS D q))).1) n q a 0 := by rw [fbV_1 (by omega)]
        rw [zvj]
        have zvB := zvb 0 (by omega)
        have zX8 := hX
        have zF8 : Fr isDp h' h' := Fr.rf _ _
        refine j_lstore (L' := [_, _, _, _, _, _, _, _, _, _, _, _]) hc dX11_byOne_91 (Nat.le_of_ble_eq_true rfl) rfl ?_
        refine j_iload hc dX11_byOne_93 rfl ?_
        refine j_iconst hc dX11_byOne_95 ?_
        refine j_icmp_eq (tgt := 107) hc dX11_byOne_96 (by decide) ⟨by omega, by omega⟩ ⟨by omega, by omega⟩ (fun zc5 => ?_) (fun zc5 => ?_)
        · have zgt : ch = -1 ∨ fbV D cs (gaS D 3) (fun x => (bvN D E cs (gaS D 3) (n - 2).toNat (nxS D q) (x - ceS (n - 1) (nxS D q))).1) n q a 0 > top := Or.inl zc5
          refine j_iload hc dX11_byOne_107 rfl ?_
          refine j_istore (L' := [_, _, _, _, _, _, _, _, _, _, _, _]) hc dX11_byOne_109 (Nat.le_of_ble_eq_true rfl) rfl ?_
          refine j_lload hc dX11_byOne_111 rfl ?_
          refine j_lstore (L' := [_, _, _, _, _, _, _, _, _, _, _, _]) hc dX11_byOne_113 (Nat.le_of_ble_eq_true rfl) rfl ?_
          refine j_iinc (L' := [_, _, _, _, _, _, _, _, _, _, _, _]) hc dX11_byOne_115 rfl (Nat.le_of_ble_eq_true rfl) rfl ?_
          refine j_goto (tgt := 25) hc dX11_byOne_118 (by decide) ?_
          exact ih _ (by omega) (0 + 1) _ _ _ _ _ _ _ _ _ _ rfl (by omega) (BsI.take hI zgt) hS zX8 (hfr.tr zF8)
        · have zch : ch ≠ -1 := zc5
          refine j_lload hc dX11_byOne_99 rfl ?_
          refine j_lload hc dX11_byOne_101 rfl ?_
          refine j_lcmp hc dX11_byOne_103 ⟨by omega, by omega⟩ ⟨by omega, by omega⟩ ?_
          refine j_if_le (b := 0) (tgt := 115) hc dX11_byOne_104 (by decide) (by unfold lc; split <;> (try split) <;> exact ⟨by omega, by omega⟩) (fun zc6 => ?_) (fun zc6 => ?_)
          · have zle : ¬ fbV D cs (gaS D 3) (fun x => (bvN D E cs (gaS D 3) (n - 2).toNat (nxS D q) (x - ceS (n - 1) (nxS D q))).1) n q a 0 > top := by unfold lc at zc6; split at zc6 <;> (try split at zc6) <;> omega
            refine j_iinc (L' := [_, _, _, _, _, _, _, _, _, _, _, _]) hc dX11_byOne_115 rfl (Nat.le_of_ble_eq_true rfl) rfl ?_
            refine j_goto (tgt := 25) hc dX11_byOne_118 (by decide) ?_
            exact ih _ (by omega) (0 + 1) _ _ _ _ _ _ _ _ _ _ rfl (by omega) (BsI.pass hI zch zle) hS zX8 (hfr.tr zF8)
          · have zgt : ch = -1 ∨ fbV D cs (gaS D 3) (fun x => (bvN D E cs (gaS D 3) (n - 2).toNat (nxS D q) (x - ceS (n - 1) (nxS D q))).1) n q a 0 > top := Or.inr (by unfold lc at zc6; split at zc6 <;> (try split at zc6) <;> omega)
            refine j_iload hc dX11_byOne_107 rfl ?_
            refine j_istore (L' := [_, _, _, _, _, _, _, _, _, _, _, _]) hc dX11_byOne_109 (Nat.le_of_ble_eq_true rfl) rfl ?_
            refine j_lload hc dX11_byOne_111 rfl ?_
            refine j_lstore (L' := [_, _, _, _, _, _, _, _, _, _, _, _]) hc dX11_byOne_113 (Nat.le_of_ble_eq_true rfl) rfl ?_
            refine j_iinc (L' := [_, _, _, _, _, _, _, _, _, _, _, _]) hc dX11_byOne_115 rfl (Nat.le_of_ble_eq_true rfl) rfl ?_
            refine j_goto (tgt := 25) hc dX11_byOne_118 (by decide) ?_
            exact ih _ (by omega) (0 + 1) _ _ _ _ _ _ _ _ _ _ rfl (by omega) (BsI.take hI zgt) hS zX8 (hfr.tr zF8)
set_option maxRecDepth 100000 in
set_option maxHeartbeats 4000000 in
theorem ev_X11_byOne {k : WC} {s : Int → Int} {A : MAs} {l : Int} {D : LaS} {E : LaY} {ru : RU} {cs : Int} {d : Nat} {h : AH} {n q a : Int} {c : Nat} {kp ke se be : Int → Int} (IB : n ≠ 1 → BeC k s A D E ru cs (n - 1) c) (hd : c + 6 ≤ d) (hd2 : 60 ≤ d) (hS : MdS h s A) (hM : MlD A l D E) (hD : LOK D) (hE : YOK E) (hl : s 37 = l) (hcs : s 38 = cs) (hcs0 : 0 ≤ cs) (hcs1 : cs ≤ 30) (hX : MmX h D E ru cs kp ke se be) (hn1 : 1 ≤ n) (hn : n ≤ 12) (hs0 : 0 ≤ q) (hs1 : q < lSe D) (ha0 : 0 ≤ a) (ha1 : a ≤ 40)  : Ev k d mdX11_byOne h [vR (70, 0), vI n, vI q, vI a] 0 0 (pe fun v h' => v = vI (kpS D E ru cs 3 n q a) ∧ (∃ kp ke se be : Int → Int, MmX h' D E ru cs kp ke se be ∧ be (kIx 3 n q a) = bpS D E cs 3 n q a ∧ se ((n * 4 + q) * 41 + a) = saS D (a - kpS D E ru cs 3 n q a)) ∧ Fr isDp h h') := by
  obtain ⟨⟨zl0, zl1⟩, mSe, mNe, mPa, mCo, mMi, mRo, mLa, mRn, mHv, mBu, mSl, mGr, mTb⟩ := id hM
  obtain ⟨d1, d2, d3, d4, d5, d6, d7, d8, d9, d10, d11, d12, d13⟩ := id hD
  obtain ⟨y1, y2, y3, y4, y5, y6, y7, y8, y9, y10⟩ := id hE
  have zmo := moS_b hD hE
  refine Ev.mk (by decide +kernel) [_, _, _, _, _, _, _, _, _, _, _, _] rfl (Nat.le_of_ble_eq_true rfl) (fun w hc he => ?_)
  refine j_iconst hc dX11_byOne_0 ?_
  refine j_istore (L' := [_, _, _, _, _, _, _, _, _, _, _, _]) hc dX11_byOne_1 (Nat.le_of_ble_eq_true rfl) rfl ?_
  refine j_lconst (x := 0) hc dX11_byOne_3 (by decide) ?_
  refine j_lstore (L' := [_, _, _, _, _, _, _, _, _, _, _, _]) hc dX11_byOne_4 (Nat.le_of_ble_eq_true rfl) rfl ?_
  refine j_iload_n hc dX11_byOne_6 rfl ?_
  refine j_iconst hc dX11_byOne_7 ?_
  refine j_icmp_ne (tgt := 15) hc dX11_byOne_8 (by decide) ⟨by omega, by omega⟩ ⟨by omega, by omega⟩ (fun zc1 => ?_) (fun zc1 => ?_)
  · refine j_aload_n hc dX11_byOne_15 rfl ?_
    refine j_iload_n hc dX11_byOne_16 rfl ?_
    refine j_callV (d' := d - 1) hc dX11_byOne_17 vX11_307 hS.1 (ev_X11_may (by omega) hS hM hD hE hl ⟨by omega, by omega⟩) rfl (by omega) (by omega) (by omega) rfl rfl (Nat.le_of_ble_eq_true rfl) (ret1 ?_)
    refine j_istore (L' := [_, _, _, _, _, _, _, _, _, _, _, _]) hc dX11_byOne_20 (Nat.le_of_ble_eq_true rfl) rfl ?_
    refine j_iconst hc dX11_byOne_22 ?_
    refine j_istore (L' := [_, _, _, _, _, _, _, _, _, _, _, _]) hc dX11_byOne_23 (Nat.le_of_ble_eq_true rfl) rfl ?_
    rw [show min a (moS D E) = min a (faM D E n) by unfold faM; split <;> omega]
    exact lp_X11_byOne IB hd hd2 hM hD hE hl hcs hcs0 hcs1 hn1 hn hs0 hs1 ha0 ha1 hc he _ 0 _ _ _ _ _ _ _ _ _ _ rfl (by have := faM_b hD hE n; omega) (Or.inl ⟨rfl, rfl, rfl⟩) hS hX (Fr.rf _ _)
  · refine j_iconst hc dX11_byOne_11 ?_
    refine j_goto (tgt := 20) hc dX11_byOne_12 (by decide) ?_
    refine j_istore (L' := [_, _, _, _, _, _, _, _, _, _, _, _]) hc dX11_byOne_20 (Nat.le_of_ble_eq_true rfl) rfl ?_
    refine j_iconst hc dX11_byOne_22 ?_
    refine j_istore (L' := [_, _, _, _, _, _, _, _, _, _, _, _]) hc dX11_byOne_23 (Nat.le_of_ble_eq_true rfl) rfl ?_
    have ze : min a (faM D E n) = 0 := by unfold faM; split <;> omega
    have zz := lp_X11_byOne IB hd hd2 hM hD hE hl hcs hcs0 hcs1 hn1 hn hs0 hs1 ha0 ha1 hc he _ 0 _ _ none none none _ _ _ _ _ rfl (by omega) (Or.inl ⟨rfl, rfl, rfl⟩) hS hX (Fr.rf _ _)
    rw [ze] at zz
    exact zz
