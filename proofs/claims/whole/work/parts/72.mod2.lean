/-! ===== the reference: keepers ===== -/
set_option maxRecDepth 100000 in
set_option maxHeartbeats 4000000 in
theorem lp_X11_byAll2 {k : WC} {s : Int → Int} {A : MAs} {l : Int} {D : LaS} {E : LaY} {ru : RU} {cs : Int} {d : Nat} {w : MC} {h : AH} {n q a j pa : Int} {c : Nat} (IH : KeC k s A D E ru cs (n - 1) c) (hd : c + 4 ≤ d) (hd2 : 12 ≤ d) (hM : MlD A l D E) (hD : LOK D) (hE : YOK E) (hl : s 37 = l) (hcs : s 38 = cs) (hcs0 : 0 ≤ cs) (hcs1 : cs ≤ 30) (hn1 : 2 ≤ n) (hn : n ≤ 12) (hs0 : 0 ≤ q) (hs1 : q < lSe D) (hj0 : 0 ≤ j) (hj1 : j ≤ 19) (hc : Cx w k d 0 0 mdX11_byAll) (kont : ∀ (kp ke se be : Int → Int) (h' : AH) (z8 z9 : Option AV) (c : Int), MdS h' s A → MmX h' D E ru cs kp ke se be → Fr isDp h h' → c = suF (ptG D (fun x => (kaN D E cs (n - 2).toNat (nxS D q) (x - ceS (n - 1) (nxS D q)) : Int)) (n - 1) (nxS D q) (leS D (j + 1))) (lHv D (nxS D q)).toNat → J w 0 0 118 [some (vR (70, 0)), some (vI n), some (vI q), some (vI a), some (vI (nxS D q)), some (vI j), some (vI pa), some (vI c), z8, z9] [] h') : ∀ (zm : Nat) (i : Nat) (c : Int) (z9 : Option AV) (h' : AH) (kp ke se be : Int → Int), 4 - i = zm → (i : Int) ≤ lHv D (nxS D q) → c = suF (ptG D (fun x => (kaN D E cs (n - 2).toNat (nxS D q) (x - ceS (n - 1) (nxS D q)) : Int)) (n - 1) (nxS D q) (leS D (j + 1))) i → MdS h' s A → MmX h' D E ru cs kp ke se be → Fr isDp h h' → J w 0 0 41 [some (vR (70, 0)), some (vI n), some (vI q), some (vI a), some (vI (nxS D q)), some (vI j), some (vI pa), some (vI c), some (vI i), z9] [] h' := by
  obtain ⟨⟨zl0, zl1⟩, mSe, mNe, mPa, mCo, mMi, mRo, mLa, mRn, mHv, mBu, mSl, mGr, mTb⟩ := id hM
  obtain ⟨d1, d2, d3, d4, d5, d6, d7, d8, d9, d10, d11, d12, d13⟩ := id hD
  obtain ⟨y1, y2, y3, y4, y5, y6, y7, y8, y9, y10⟩ := id hE
  have zn := nxS_b hD hs0
  obtain ⟨zh1, zh2, zh3, zh4, zh5, zh6⟩ := d13 (nxS D q) zn.1 zn.2
  intro zm
  induction zm using Nat.strongRecOn with
  | _ zm ih =>
    intro i c z9 h' kp ke se be hm hi hcc hS hX hfr
    refine j_iload hc dX11_byAll_41 rfl ?_
    refine j_aload_n hc dX11_byAll_43 rfl ?_
    refine j_iload hc dX11_byAll_44 rfl ?_
    refine j_callV (d' := d - 1) hc dX11_byAll_46 vX11_310 hS.1 (ev_X11_harvests (by omega) hS hM hD hE hl (by omega) (by omega)) rfl (by omega) (by omega) (by omega) rfl rfl (Nat.le_of_ble_eq_true rfl) (ret1 ?_)
    refine j_icmp_ge (tgt := 118) hc dX11_byAll_49 (by decide) ⟨by omega, by omega⟩ ⟨by omega, by omega⟩ (fun zc1 => ?_) (fun zc1 => ?_)
    · exact kont _ _ _ _ _ _ _ _ hS hX hfr (by rw [hcc, show (lHv D (nxS D q)).toNat = i by omega])
    · have zh := zh6 i (by omega) (by omega)
      rw [show 4 * nxS D q + (i : Int) = nxS D q * 4 + i by omega] at zh
      have zlf := leS_b hD (k := j + 1) (by omega)
      refine j_aload_n hc dX11_byAll_52 rfl ?_
      refine j_aload_n hc dX11_byAll_53 rfl ?_
      refine j_get hc dX11_byAll_54 fX11_278 hS.1 rfl ?_
      rw [hl]
      refine j_iload hc dX11_byAll_57 rfl ?_
      refine j_iconst hc dX11_byAll_59 ?_
      refine j_iadd hc dX11_byAll_60 ?_
      refine j_callV (d' := d - 1) hc dX11_byAll_61 vX11_275 hS.1 (ev_X11_leftOf (by omega) hS hM hD hE (by omega) (by omega)) rfl (by omega) (by omega) (by omega) rfl rfl (Nat.le_of_ble_eq_true rfl) (ret1 ?_)
      refine j_aload_n hc dX11_byAll_64 rfl ?_
      refine j_iload hc dX11_byAll_65 rfl ?_
      refine j_iload hc dX11_byAll_67 rfl ?_
      refine j_callV (d' := d - 1) hc dX11_byAll_69 vX11_313 hS.1 (ev_X11_sacksOf (by omega) hS hM hD hE hl (by omega) (by omega) (by omega) (by omega)) rfl (by omega) (by omega) (by omega) rfl rfl (Nat.le_of_ble_eq_true rfl) (ret1 ?_)
      refine j_iadd hc dX11_byAll_72 ?_
      refine j_istore (L' := [_, _, _, _, _, _, _, _, _, _]) hc dX11_byAll_73 (Nat.le_of_ble_eq_true rfl) rfl ?_
      refine j_iload hc dX11_byAll_75 rfl ?_
      refine j_aload_n hc dX11_byAll_77 rfl ?_
      refine j_iload hc dX11_byAll_78 rfl ?_
      refine j_iload hc dX11_byAll_80 rfl ?_
      refine j_callV (d' := d - 1) hc dX11_byAll_82 vX11_316 hS.1 (ev_X11_weightIn (by omega) hS hM hD hE hl (by omega) (by omega) (by omega) (by omega)) rfl (by omega) (by omega) (by omega) rfl rfl (Nat.le_of_ble_eq_true rfl) (ret1 ?_)
      refine j_aload_n hc dX11_byAll_85 rfl ?_
      refine j_aload_n hc dX11_byAll_86 rfl ?_
      refine j_get hc dX11_byAll_87 fX11_278 hS.1 rfl ?_
      rw [hl]
      refine j_iload hc dX11_byAll_90 rfl ?_
      refine j_aload_n hc dX11_byAll_92 rfl ?_
      refine j_iconst hc dX11_byAll_93 ?_
      refine j_iload_n hc dX11_byAll_94 rfl ?_
      refine j_iconst hc dX11_byAll_95 ?_
      refine j_isub hc dX11_byAll_96 ?_
      refine j_iload hc dX11_byAll_97 rfl ?_
      refine j_iload hc dX11_byAll_99 rfl ?_
      refine j_callV (d' := d - 1) hc dX11_byAll_101 vX11_319 hS.1 (IH (d - 1) _ 1 (nxS D q) (leS D (j + 1) + lSk D (nxS D q * 4 + i)) _ _ _ _ (by omega) hS hX (by omega) (by omega) (by omega) (by omega) (by omega) (by omega)) rfl (by omega) (by omega) (by omega) rfl rfl (Nat.le_of_ble_eq_true rfl) (retE fun zv101 zq101 zp101 => ?_)
      obtain ⟨zv8, ⟨kp8, ke8, se8, be8, zX8, zk8⟩, zF8⟩ := zp101
      subst zv8
      have zzmod_q8 := MdS.fr (fun z hz => zF8 z (nDp hz)) hS
      have ze8 : kpS D E ru cs 1 (n - 1) (nxS D q) (leS D (j + 1) + lSk D (nxS D q * 4 + i)) = kaN D E cs (n - 2).toNat (nxS D q) (leS D (j + 1) + lSk D (nxS D q * 4 + i)) := by unfold kpS; rw [if_pos rfl, show (n - 1 - 1).toNat = (n - 2).toNat by omega]
      rw [ze8]
      have zk9 := kpS_b hD hE (ru := ru) (cs := cs) (sr := 1) (n := n - 1) (s := nxS D q) (a := leS D (j + 1) + lSk D (nxS D q * 4 + i)) (by omega)
      have zk10 := kpS_le hD hE (ru := ru) (cs := cs) (sr := 1) (n := n - 1) (s := nxS D q) (a := leS D (j + 1) + lSk D (nxS D q * 4 + i)) (by omega) (by omega)
      rw [ze8] at zk9 zk10
      refine j_isub hc dX11_byAll_104 ?_
      refine j_callV (d' := d - 1) hc dX11_byAll_105 vX11_269 zzmod_q8.1 (ev_X11_priceAt (by omega) zzmod_q8 hM hD hE (by omega) (by omega)) rfl (by omega) (by omega) (by omega) rfl rfl (Nat.le_of_ble_eq_true rfl) (ret1 ?_)
      refine j_imul hc dX11_byAll_108 ?_
      refine j_iadd hc dX11_byAll_109 ?_
      refine j_istore (L' := [_, _, _, _, _, _, _, _, _, _]) hc dX11_byAll_110 (Nat.le_of_ble_eq_true rfl) rfl ?_
      refine j_iinc (L' := [_, _, _, _, _, _, _, _, _, _]) hc dX11_byAll_112 rfl (Nat.le_of_ble_eq_true rfl) rfl ?_
      refine j_goto (tgt := 41) hc dX11_byAll_115 (by decide) ?_
      exact ih _ (by omega) (i + 1) _ _ _ _ _ _ _ rfl (by omega) (by
        rw [hcc]
        simp only [suF]
        congr 1
        unfold ptG
        try dsimp only
        rw [show ceS (n - 1) (nxS D q) + (leS D (j + 1) + lSk D (nxS D q * 4 + i)) - ceS (n - 1) (nxS D q) = leS D (j + 1) + lSk D (nxS D q * 4 + i) by omega]) zzmod_q8 zX8 (hfr.tr zF8)
set_option maxRecDepth 100000 in
set_option maxHeartbeats 4000000 in
theorem lp_X11_byAll1 {k : WC} {s : Int → Int} {A : MAs} {l : Int} {D : LaS} {E : LaY} {ru : RU} {cs : Int} {d : Nat} {w : MC} {h : AH} {n q a : Int} {c : Nat} (IH : KeC k s A D E ru cs (n - 1) c) (hd : c + 4 ≤ d) (hd2 : 12 ≤ d) (hM : MlD A l D E) (hD : LOK D) (hE : YOK E) (hl : s 37 = l) (hcs : s 38 = cs) (hcs0 : 0 ≤ cs) (hcs1 : cs ≤ 30) (hn1 : 2 ≤ n) (hn : n ≤ 12) (hs0 : 0 ≤ q) (hs1 : q < lSe D) (ha0 : 0 ≤ a) (ha1 : a ≤ 40) (hc : Cx w k d 0 0 mdX11_byAll) (he : Ends w 0 0 (KvPo D E ru cs (vI (kaN D E cs (n - 1).toNat q a)) h)) : ∀ (zm : Nat) (j : Nat) (z7 z8 z9 : Option AV) (h' : AH) (kp ke se be : Int → Int), 21 - j = zm → (j : Int) ≤ min a (moS D E) → (∀ i : Nat, i < j → faT D cs (fun x => (kaN D E cs (n - 2).toNat (nxS D q) (x - ceS (n - 1) (nxS D q)) : Int)) n q a i = false) → MdS h' s A → MmX h' D E ru cs kp ke se be → Fr isDp h h' → J w 0 0 25 [some (vR (70, 0)), some (vI n), some (vI q), some (vI a), some (vI (nxS D q)), some (vI j), some (vI (paS D)), z7, z8, z9] [] h' := by
  obtain ⟨⟨zl0, zl1⟩, mSe, mNe, mPa, mCo, mMi, mRo, mLa, mRn, mHv, mBu, mSl, mGr, mTb⟩ := id hM
  obtain ⟨d1, d2, d3, d4, d5, d6, d7, d8, d9, d10, d11, d12, d13⟩ := id hD
  obtain ⟨y1, y2, y3, y4, y5, y6, y7, y8, y9, y10⟩ := id hE
  have zn := nxS_b hD hs0
  obtain ⟨zh1, zh2, zh3, zh4, zh5, zh6⟩ := d13 (nxS D q) zn.1 zn.2
  have zfM : faM D E n = moS D E := by unfold faM; rw [if_pos (by omega)]
  have zka : (kaN D E cs (n - 1).toNat q a : Int) = faR D E cs (fun x => (kaN D E cs (n - 2).toNat (nxS D q) (x - ceS (n - 1) (nxS D q)) : Int)) n q a := by
    obtain ⟨m, rfl⟩ : ∃ m : Nat, n = m + 2 := ⟨(n - 2).toNat, by omega⟩
    rw [show ((m : Int) + 2 - 1).toNat = m + 1 by omega, show ((m : Int) + 2 - 2).toNat = m by omega, show (m : Int) + 2 - 1 = m + 1 by omega]
    rfl
  intro zm
  induction zm using Nat.strongRecOn with
  | _ zm ih =>
    intro j z7 z8 z9 h' kp ke se be hm hj hno hS hX hfr
    have zmo := moS_b hD hE
    refine j_iload hc dX11_byAll_25 rfl ?_
    refine j_aload_n hc dX11_byAll_27 rfl ?_
    refine j_iload_n hc dX11_byAll_28 rfl ?_
    refine j_callV (d' := d - 1) hc dX11_byAll_29 vX11_307 hS.1 (ev_X11_may (by omega) hS hM hD hE hl ⟨by omega, by omega⟩) rfl (by omega) (by omega) (by omega) rfl rfl (Nat.le_of_ble_eq_true rfl) (ret1 ?_)
    have zmo := moS_b hD hE
    refine j_icmp_ge (tgt := 188) hc dX11_byAll_32 (by decide) ⟨by omega, by omega⟩ ⟨by omega, by omega⟩ (fun zc1 => ?_) (fun zc1 => ?_)
    · refine j_iload hc dX11_byAll_188 rfl ?_
      exact j_iret hc he dX11_byAll_190 rfl (by omega) (by omega) ⟨_, rfl, by rw [zka]; unfold faR; rw [zfM, show (min a (moS D E)).toNat = j by omega, fsk_end hno], ⟨_, _, _, _, hX⟩, hfr⟩
    · refine j_iconst hc dX11_byAll_35 ?_
      refine j_istore (L' := [_, _, _, _, _, _, _, _, _, _]) hc dX11_byAll_36 (Nat.le_of_ble_eq_true rfl) rfl ?_
      refine j_iconst hc dX11_byAll_38 ?_
      refine j_istore (L' := [_, _, _, _, _, _, _, _, _, _]) hc dX11_byAll_39 (Nat.le_of_ble_eq_true rfl) rfl ?_
      refine lp_X11_byAll2 (a := a) (j := j) (pa := paS D) IH (by omega) (by omega) hM hD hE hl hcs hcs0 hcs1 hn1 hn hs0 hs1 (by omega) (by omega) hc (fun kp ke se be h' z8 z9 c hS hX hfr hcc => ?_) _ 0 _ _ _ _ _ _ _ rfl (by omega) rfl hS hX hfr
      refine j_iload hc dX11_byAll_118 rfl ?_
      refine j_aload_n hc dX11_byAll_120 rfl ?_
      refine j_get hc dX11_byAll_121 fX11_37 hS.1 rfl ?_
      refine j_aload_n hc dX11_byAll_124 rfl ?_
      refine j_get hc dX11_byAll_125 fX11_278 hS.1 rfl ?_
      rw [hl]
      refine j_iald hc dX11_byAll_128 hS.2.2.2.2.2.2.2.2.2.2.1 (by omega) (by omega) ?_
      rw [mMi]
      refine j_if_ne (b := 0) (tgt := 136) hc dX11_byAll_129 (by decide) ⟨by omega, by omega⟩ (fun zc2 => ?_) (fun zc2 => ?_)
      · have zrS : reS D = paS D - 1 := by unfold reS paS; rw [if_pos (by omega), if_pos (by omega)]
        refine j_iload hc dX11_byAll_136 rfl ?_
        refine j_iconst hc dX11_byAll_138 ?_
        refine j_isub hc dX11_byAll_139 ?_
        refine j_imul hc dX11_byAll_140 ?_
        refine j_istore (L' := [_, _, _, _, _, _, _, _, _, _]) hc dX11_byAll_141 (Nat.le_of_ble_eq_true rfl) rfl ?_
        have zfb := faA_b hD (fun x => (kaN D E cs (n - 2).toNat (nxS D q) (x - ceS (n - 1) (nxS D q)) : Int)) (n := n) (k := (j : Int) + 1) hs0
        have zcc : c = faA D (fun x => (kaN D E cs (n - 2).toNat (nxS D q) (x - ceS (n - 1) (nxS D q)) : Int)) n q ((j : Int) + 1) := by rw [hcc]; rfl
        have zre := reS_b hD
        have zpa := paS_b hD
        have zpr := prS_lo hD (a - j)
        have zmu := mul_b (x := faA D (fun x => (kaN D E cs (n - 2).toNat (nxS D q) (x - ceS (n - 1) (nxS D q)) : Int)) n q ((j : Int) + 1)) (y := reS D) zfb.1 zfb.2 (by omega) zre.2
        have zmv := mul_b (x := lWs D (nxS D q)) (y := paS D) (by omega) zh4 (by omega) zpa.2
        have zmw := mul_b (x := lWs D (nxS D q) * paS D) (y := prS D (a - j) + cs) zmv.1 zmv.2 (by omega) (show prS D (a - j) + cs ≤ 129 by omega)
        rw [zrS] at zmu
        rw [zcc]
        refine j_iload hc dX11_byAll_143 rfl ?_
        refine j_aload_n hc dX11_byAll_145 rfl ?_
        refine j_aload_n hc dX11_byAll_146 rfl ?_
        refine j_get hc dX11_byAll_147 fX11_278 hS.1 rfl ?_
        rw [hl]
        refine j_iload hc dX11_byAll_150 rfl ?_
        refine j_callV (d' := d - 1) hc dX11_byAll_152 vX11_165 hS.1 (ev_X11_weightOf (by omega) hS hM hD hE (by omega) (by omega)) rfl (by omega) (by omega) (by omega) rfl rfl (Nat.le_of_ble_eq_true rfl) (ret1 ?_)
        refine j_iload hc dX11_byAll_155 rfl ?_
        refine j_imul hc dX11_byAll_157 ?_
        refine j_aload_n hc dX11_byAll_158 rfl ?_
        refine j_aload_n hc dX11_byAll_159 rfl ?_
        refine j_get hc dX11_byAll_160 fX11_278 hS.1 rfl ?_
        rw [hl]
        refine j_iload_n hc dX11_byAll_163 rfl ?_
        refine j_iload hc dX11_byAll_164 rfl ?_
        refine j_isub hc dX11_byAll_166 ?_
        refine j_callV (d' := d - 1) hc dX11_byAll_167 vX11_269 hS.1 (ev_X11_priceAt (by omega) hS hM hD hE (by omega) (by omega)) rfl (by omega) (by omega) (by omega) rfl rfl (Nat.le_of_ble_eq_true rfl) (ret1 ?_)
        refine j_aload_n hc dX11_byAll_170 rfl ?_
        refine j_get hc dX11_byAll_171 fX11_281 hS.1 rfl ?_
        rw [hcs]
        refine j_iadd hc dX11_byAll_174 ?_
        refine j_imul hc dX11_byAll_175 ?_
        refine j_icmp_gt (tgt := 182) hc dX11_byAll_176 (by decide) ⟨by omega, by omega⟩ ⟨by omega, by omega⟩ (fun zc3 => ?_) (fun zc3 => ?_)
        · have zfa : faT D cs (fun x => (kaN D E cs (n - 2).toNat (nxS D q) (x - ceS (n - 1) (nxS D q)) : Int)) n q a j = false := by
            unfold faT
            rw [decide_eq_false_iff_not, zrS]
            rw [Int.mul_comm (prS D (a - j) + cs), Int.mul_comm (paS D)]
            try omega
          refine j_iinc (L' := [_, _, _, _, _, _, _, _, _, _]) hc dX11_byAll_182 rfl (Nat.le_of_ble_eq_true rfl) rfl ?_
          refine j_goto (tgt := 25) hc dX11_byAll_185 (by decide) ?_
          exact ih _ (by omega) (j + 1) _ _ _ _ _ _ _ _ rfl (by omega) (fun i hi => by by_cases e : i = j; (· rw [e]; exact zfa); exact hno i (by omega)) hS hX hfr
        · have zfa : faT D cs (fun x => (kaN D E cs (n - 2).toNat (nxS D q) (x - ceS (n - 1) (nxS D q)) : Int)) n q a j = true := by
            unfold faT
            rw [decide_eq_true_iff, zrS]
            rw [Int.mul_comm (prS D (a - j) + cs), Int.mul_comm (paS D)]
            try omega
          refine j_iload hc dX11_byAll_179 rfl ?_
          exact j_iret hc he dX11_byAll_181 rfl (by omega) (by omega) ⟨_, rfl, by rw [zka]; unfold faR; rw [zfM, fsk_at (j := j) (by omega) hno zfa], ⟨_, _, _, _, hX⟩, hfr⟩
      · have zrS : reS D = 1 := by unfold reS; rw [if_neg (by omega)]
        refine j_iconst hc dX11_byAll_132 ?_
        refine j_goto (tgt := 140) hc dX11_byAll_133 (by decide) ?_
        refine j_imul hc dX11_byAll_140 ?_
        refine j_istore (L' := [_, _, _, _, _, _, _, _, _, _]) hc dX11_byAll_141 (Nat.le_of_ble_eq_true rfl) rfl ?_
        have zfb := faA_b hD (fun x => (kaN D E cs (n - 2).toNat (nxS D q) (x - ceS (n - 1) (nxS D q)) : Int)) (n := n) (k := (j : Int) + 1) hs0
        have zcc : c = faA D (fun x => (kaN D E cs (n - 2).toNat (nxS D q) (x - ceS (n - 1) (nxS D q)) : Int)) n q ((j : Int) + 1) := by rw [hcc]; rfl
        have zre := reS_b hD
        have zpa := paS_b hD
        have zpr := prS_lo hD (a - j)
        have zmu := mul_b (x := faA D (fun x => (kaN D E cs (n - 2).toNat (nxS D q) (x - ceS (n - 1) (nxS D q)) : Int)) n q ((j : Int) + 1)) (y := reS D) zfb.1 zfb.2 (by omega) zre.2
        have zmv := mul_b (x := lWs D (nxS D q)) (y := paS D) (by omega) zh4 (by omega) zpa.2
        have zmw := mul_b (x := lWs D (nxS D q) * paS D) (y := prS D (a - j) + cs) zmv.1 zmv.2 (by omega) (show prS D (a - j) + cs ≤ 129 by omega)
        rw [zrS] at zmu
        rw [zcc]
        refine j_iload hc dX11_byAll_143 rfl ?_
        refine j_aload_n hc dX11_byAll_145 rfl ?_
        refine j_aload_n hc dX11_byAll_146 rfl ?_
        refine j_get hc dX11_byAll_147 fX11_278 hS.1 rfl ?_
        rw [hl]
        refine j_iload hc dX11_byAll_150 rfl ?_
        refine j_callV (d' := d - 1) hc dX11_byAll_152 vX11_165 hS.1 (ev_X11_weightOf (by omega) hS hM hD hE (by omega) (by omega)) rfl (by omega) (by omega) (by omega) rfl rfl (Nat.le_of_ble_eq_true rfl) (ret1 ?_)
        refine j_iload hc dX11_byAll_155 rfl ?_
        refine j_imul hc dX11_byAll_157 ?_
        refine j_aload_n hc dX11_byAll_158 rfl ?_
        refine j_aload_n hc dX11_byAll_159 rfl ?_
        refine j_get hc dX11_byAll_160 fX11_278 hS.1 rfl ?_
        rw [hl]
        refine j_iload_n hc dX11_byAll_163 rfl ?_
        refine j_iload hc dX11_byAll_164 rfl ?_
        refine j_isub hc dX11_byAll_166 ?_
        refine j_callV (d' := d - 1) hc dX11_byAll_167 vX11_269 hS.1 (ev_X11_priceAt (by omega) hS hM hD hE (by omega) (by omega)) rfl (by omega) (by omega) (by omega) rfl rfl (Nat.le_of_ble_eq_true rfl) (ret1 ?_)
        refine j_aload_n hc dX11_byAll_170 rfl ?_
        refine j_get hc dX11_byAll_171 fX11_281 hS.1 rfl ?_
        rw [hcs]
        refine j_iadd hc dX11_byAll_174 ?_
        refine j_imul hc dX11_byAll_175 ?_
        refine j_icmp_gt (tgt := 182) hc dX11_byAll_176 (by decide) ⟨by omega, by omega⟩ ⟨by omega, by omega⟩ (fun zc4 => ?_) (fun zc4 => ?_)
        · have zfa : faT D cs (fun x => (kaN D E cs (n - 2).toNat (nxS D q) (x - ceS (n - 1) (nxS D q)) : Int)) n q a j = false := by
            unfold faT
            rw [decide_eq_false_iff_not, zrS]
            rw [Int.mul_comm (prS D (a - j) + cs), Int.mul_comm (paS D)]
            try omega
          refine j_iinc (L' := [_, _, _, _, _, _, _, _, _, _]) hc dX11_byAll_182 rfl (Nat.le_of_ble_eq_true rfl) rfl ?_
          refine j_goto (tgt := 25) hc dX11_byAll_185 (by decide) ?_
          exact ih _ (by omega) (j + 1) _ _ _ _ _ _ _ _ rfl (by omega) (fun i hi => by by_cases e : i = j; (· rw [e]; exact zfa); exact hno i (by omega)) hS hX hfr
        · have zfa : faT D cs (fun x => (kaN D E cs (n - 2).toNat (nxS D q) (x - ceS (n - 1) (nxS D q)) : Int)) n q a j = true := by
            unfold faT
            rw [decide_eq_true_iff, zrS]
            rw [Int.mul_comm (prS D (a - j) + cs), Int.mul_comm (paS D)]
            try omega
          refine j_iload hc dX11_byAll_179 rfl ?_
          exact j_iret hc he dX11_byAll_181 rfl (by omega) (by omega) ⟨_, rfl, by rw [zka]; unfold faR; rw [zfM, fsk_at (j := j) (by omega) hno zfa], ⟨_, _, _, _, hX⟩, hfr⟩
