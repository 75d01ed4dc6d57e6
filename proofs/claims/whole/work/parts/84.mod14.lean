/-! ===== the reference: edge, news ===== -/
theorem MoM.fr {h h' : AH} {D : LaS} {E : LaY} {ru : RU} {cs : Int} (q : ∀ z : Nm, isDf z → h' z = h z) (m : MoM h D E ru cs) : MoM h' D E ru cs := by
  obtain ⟨⟨kp, ke, se, be, a1, a2, a3, a4, ⟨pf, a5⟩, a6⟩, ff, fv, b1, b2, b3⟩ := m
  exact ⟨⟨kp, ke, se, be, (q _ (by decide)).trans a1, (q _ (by decide)).trans a2, (q _ (by decide)).trans a3, (q _ (by decide)).trans a4, ⟨pf, (q _ (by decide)).trans a5⟩, a6⟩, ff, fv, (q _ (by decide)).trans b1, (q _ (by decide)).trans b2, b3⟩
/-- between two answers -/
def BtA (A : MAs) (S : BaS) (th : Int) (h0 h : AH) : Prop := ∃ s : Int → Int, MdS h s A ∧ MoR s A S th ∧ MoB h ∧ Fr isTb h0 h
theorem BtA.fin {A : MAs} {S : BaS} {th : Int} {h0 h : AH} (a : BtA A S th h0 h) (hX : MoX h0 S) (hK : BOK S) : ModAt h S th ∧ Fr isMo h0 h := by
  obtain ⟨s, a1, a2, a3, a4⟩ := a
  exact ⟨⟨s, A, a1, a2, a3, hX.fr a4, hK⟩, a4.mono fun z zz => isTb_mo zz⟩
set_option maxRecDepth 100000 in
set_option maxHeartbeats 4000000 in
theorem lp_X11_edge {k : WC} {d : Nat} {w : MC} {A : MAs} {S : BaS} {th : Int} {l : Int} {D : LaS} {E : LaY} {ru : RU} {h0 : AH} {n q a : Int} (hd : 200 ≤ d) (hWs : ∀ (k : WC) (s : Int → Int), MoR s A S th → RuC k s A E ru) (hM : MlD A l D E) (hD : LOK D) (hE : YOK E) (hn1 : 1 ≤ n) (hn : n ≤ 12) (hs0 : 0 ≤ q) (hs1 : q < lSe D) (ha0 : 0 ≤ a) (ha1 : a ≤ 40)  (hc : Cx w k d 0 0 mdX11_edge) (he : Ends w 0 0 (pe fun v h' => v = vI (fsi (fun c : Nat => decide (kpS D E ru c 1 n q a = 0)) 31 0) ∧ BtA A S th h0 h')) : ∀ (zm : Nat) (c : Nat) (h : AH), 31 - c = zm → c ≤ 31 → (∀ j : Nat, j < c → ¬ kpS D E ru j 1 n q a = 0) → BtA A S th h0 h → J w 0 0 17 [some (vR (70, 0)), some (vI l), some (vI n), some (vI q), some (vI a), some (vI c)] [] h := by
  intro zm
  induction zm using Nat.strongRecOn with
  | _ zm ih =>
    intro c h hm hcl hj hBt
    obtain ⟨s, hS, hR, hB, hF⟩ := id hBt
    refine j_iload hc dX11_edge_17 rfl ?_
    refine j_bipush hc dX11_edge_19 (by decide) ?_
    refine j_icmp_gt (tgt := 56) hc dX11_edge_21 (by decide) ⟨by omega, by omega⟩ ⟨by omega, by omega⟩ (fun zc1 => ?_) (fun zc1 => ?_)
    · refine j_iconst hc dX11_edge_56 ?_
      exact j_iret hc he dX11_edge_57 rfl (by omega) (by omega) ⟨_, rfl, by rw [fsi_no (fun i _ hi => by simp [hj i (by omega)])], hBt⟩
    · refine j_aload_n hc dX11_edge_24 rfl ?_
      refine j_iload_n hc dX11_edge_25 rfl ?_
      refine j_callV (d' := d - 1) hc dX11_edge_26 vX11_348 hS.1 (ev_X11_begin (ru := ru) (by omega) hS hM hD hE hB) rfl (by omega) (by omega) (by omega) rfl rfl (Nat.le_of_ble_eq_true rfl) (retN fun zq26 zp26 => ?_)
      obtain ⟨zb1, zb2, zb3⟩ := zp26
      refine j_aload_n hc dX11_edge_29 rfl ?_
      refine j_iload hc dX11_edge_30 rfl ?_
      refine j_put  hc dX11_edge_32 pX11_281 zb1.1 rfl mset_38 ?_
      generalize ezh1 : up _ _ _ = zh1
      have zzmod_zh1 := MdS.pf ezh1 zb1
      have zR : MoR (fu (fu (fu s 37 l) 38 (lCo D)) 38 c) A S th := hR
      have zT : TbA (fu (fu (fu s 37 l) 38 (lCo D)) 38 c) A D E ru c l h0 zh1 := ⟨zzmod_zh1, MoM.fr (fun z hz => by rw [← ezh1]; exact up_ne (fun y => by rw [y] at hz; exact absurd hz (by decide))) (zb2 _), by rw [← ezh1]; exact (hF.tr zb3).push (Or.inl rfl), rfl, rfl⟩
      have zk1 := kpS_b hD hE (ru := ru) (cs := c) (sr := 1) (n := n) (s := q) (a := a) (by omega)
      refine j_aload_n hc dX11_edge_35 rfl ?_
      refine j_iconst hc dX11_edge_36 ?_
      refine j_iload_n hc dX11_edge_37 rfl ?_
      refine j_iload_n hc dX11_edge_38 rfl ?_
      refine j_iload hc dX11_edge_39 rfl ?_
      refine j_callV (d' := d - 1) hc dX11_edge_41 vX11_319 zzmod_zh1.1 (tb_kept (by omega) zT (hWs _ _ zR) hM hD hE (by omega) (by omega) (by omega) (by omega) (by omega) (by omega) (by omega) (by omega) (by omega) (by omega)) rfl (by omega) (by omega) (by omega) rfl rfl (Nat.le_of_ble_eq_true rfl) (retE fun zv41 zq41 zp41 => ?_)
      obtain ⟨zv1, zT1⟩ := zp41
      subst zv1
      have zB1 : BtA A S th h0 zq41 := ⟨_, zT1.1, zR, zT1.2.1.b, zT1.2.2.1⟩
      refine j_if_ne (b := 0) (tgt := 50) hc dX11_edge_44 (by decide) ⟨by omega, by omega⟩ (fun zc2 => ?_) (fun zc2 => ?_)
      · refine j_iinc (L' := [_, _, _, _, _, _]) hc dX11_edge_50 rfl (Nat.le_of_ble_eq_true rfl) rfl ?_
        refine j_goto (tgt := 17) hc dX11_edge_53 (by decide) ?_
        exact ih _ (by omega) (c + 1) _ rfl (by omega) (fun j hj2 => by by_cases e : j = c; (· rw [e]; assumption); exact hj j (by omega)) zB1
      · refine j_iload hc dX11_edge_47 rfl ?_
        exact j_iret hc he dX11_edge_49 rfl (by omega) (by omega) ⟨_, rfl, by rw [fsi_at (j := c) (by omega) (by omega) (fun i _ hi => by simp [hj i hi]) (by simpa using by assumption)], zB1⟩
set_option maxRecDepth 100000 in
set_option maxHeartbeats 4000000 in
theorem ev_X11_edge_a {k : WC} {d : Nat} {h : AH} {S : BaS} {th : Int} {l n q a : Int} (hd : 300 ≤ d) (hMo : ModAt h S th) (hil : inI l) (hin : inI n) (his : inI q) (hia : inI a) : Ev k d mdX11_edge h [vR (70, 0), vI l, vI n, vI q, vI a] 0 0 (pe fun v h' => v = vI (aEdge S l n q a) ∧ ModAt h' S th ∧ Fr isMo h h') := by
  obtain ⟨s, A, hS, hR, hB, hX, hK⟩ := id hMo
  obtain ⟨m0, m2, m22, m27, m44, m45, m46, mTp, mLd, mRu, mRw, mFr⟩ := id hR
  obtain ⟨⟨kTa, kTb⟩, ⟨kL0, kL1⟩, ⟨kR0, kR1⟩, kLd, kRu, kRw, ⟨kT0, kT1⟩, kS0, kS1⟩ := id hK
  refine Ev.mk (by decide +kernel) [_, _, _, _, _, _] rfl (Nat.le_of_ble_eq_true rfl) (fun w hc he => ?_)
  refine j_aload_n hc dX11_edge_0 rfl ?_
  refine j_iload_n hc dX11_edge_1 rfl ?_
  refine j_iload_n hc dX11_edge_2 rfl ?_
  refine j_iload_n hc dX11_edge_3 rfl ?_
  refine j_iload hc dX11_edge_4 rfl ?_
  refine j_callV (d' := d - 1) hc dX11_edge_6 vX11_341 hS.1 (ev_X11_isState (by omega) hS hR hK hil hin his hia) rfl (by omega) (by omega) (by omega) rfl rfl (Nat.le_of_ble_eq_true rfl) (ret1 ?_)
  refine j_if_ne (b := 0) (tgt := 14) hc dX11_edge_9 (by decide) (by split <;> exact ⟨by omega, by omega⟩) (fun zc1 => ?_) (fun zc1 => ?_)
  · have zw := one_pos zc1
    have zw1 := zw.1
    obtain ⟨⟨n1, n12⟩, ⟨s0, s4⟩, a0, a40⟩ := zw.2
    obtain ⟨hD, hE, hrn, hyo⟩ := kLd l zw1.1 zw1.2
    have hM := mLd l zw1.1 zw1.2
    obtain ⟨⟨zl0, zl1⟩, mSe, mNe, mPa, mCo, mMi, mRo, mLa, mRn, mHv, mBu, mSl, mGr, mTb⟩ := id hM
    obtain ⟨d1, d2, d3, d4, d5, d6, d7, d8, d9, d10, d11, d12, d13⟩ := id hD
    obtain ⟨y1, y2, y3, y4, y5, y6, y7, y8, y9, y10⟩ := id hE
    have hW := fun k => ru_of (k := k) (l := l) hR hK zw1
    have hWb := fun k => ru_of (k := k) (l := l) (MoR.s37 (l := l) (c := lCo (bD S l)) hR) hK zw1
    refine j_iconst hc dX11_edge_14 ?_
    refine j_istore (L' := [_, _, _, _, _, _]) hc dX11_edge_15 (Nat.le_of_ble_eq_true rfl) rfl ?_
    exact lp_X11_edge (by omega) (fun k s hR => ru_of (k := k) hR hK zw1) hM hD hE n1 n12 s0 s4 a0 a40 hc (he.mono fun r h' zp => by obtain ⟨v, zr, zv, zT⟩ := zp; exact ⟨v, zr, by rw [zv]; unfold aEdge; rw [if_pos zw], zT.fin hX hK⟩) _ 0 _ rfl (by omega) (fun j hj => by omega) ⟨s, hS, hR, hB, Fr.rf _ _⟩
  · have zw5 := one_neg zc1
    refine j_iconst hc dX11_edge_12 ?_
    exact j_iret hc he dX11_edge_13 rfl (by omega) (by omega) ⟨_, rfl, by unfold aEdge; rw [if_neg (by omega)], hMo, Fr.rf _ _⟩
def tpN (v : Nat → Int) : Nat → Int
  | 0 => -9223372036854775808
  | m + 1 => (mxN v m).1
theorem tpN_step {v : Nat → Int} (k : Nat) (h : -9223372036854775808 ≤ v k) : max (tpN v k) (v k) = tpN v (k + 1) := by
  cases k with
  | zero => show max (-9223372036854775808) (v 0) = v 0; omega
  | succ m => exact (mxN_max m).symm
theorem tpN_b {v : Nat → Int} {lo hi : Int} (h0 : -9223372036854775808 ≤ lo) (h1 : hi ≤ 9223372036854775807) : ∀ m : Nat, (∀ j, j < m → lo ≤ v j ∧ v j ≤ hi) → inL (tpN v m)
  | 0, _ => ⟨by show (-9223372036854775808 : Int) ≤ -9223372036854775808; decide, by show (-9223372036854775808 : Int) ≤ 9223372036854775807; decide⟩
  | m + 1, h => by
    have := mxN_in (v := v) m (fun j hj => h j (by omega))
    exact ⟨by show _ ≤ (mxN v m).1; omega, by show (mxN v m).1 ≤ _; omega⟩
def nbF (D : LaS) (E : LaY) (cs n q : Int) : Int → Int := fun x => bpS D E cs 2 (n - 1) (nxS D q) (x - ceS (n - 1) (nxS D q))
theorem ntV_in {D : LaS} {E : LaY} (hD : LOK D) (hE : YOK E) {n q a : Int} {j k : Nat} (hn1 : 2 ≤ n) (hn : n ≤ 12) (hs0 : 0 ≤ q) (hj : (j : Int) < lHv D (nxS D q)) (hk : (k : Int) ≤ 20) (hka : (k : Int) ≤ a) (ha : a ≤ 40) : -445805022412800 ≤ ntV D (lCo D) (gaS D 2) (nbF D E (lCo D) n q) n q a j k ∧ ntV D (lCo D) (gaS D 2) (nbF D E (lCo D) n q) n q a j k ≤ 172125319153582080 := by
  have zn := nxS_b hD hs0
  refine ntV_b hD hD.2.2.1 hD.2.2.2.1 hn1 hn hs0 hj hk hka ha (fun b b0 b1 => gaS_b hD b b0 b1) (fun b b0 b1 => ?_)
  unfold nbF
  rw [show ceS (n - 1) (nxS D q) + b - ceS (n - 1) (nxS D q) = b by omega]
  exact bpS_b hD hE (by omega) (by omega) zn.1 zn.2 b0 b1
theorem ntV_at {D : LaS} {E : LaY} {cs n q a : Int} {j k : Nat} : (goS D (a - k) - cs * k) * beN D (n - 2).toNat (nxS D q) + bpS D E cs 2 (n - 1) (nxS D q) (leS D k + lSk D (nxS D q * 4 + j)) = ntV D cs (gaS D 2) (nbF D E cs n q) n q a j k := by
  unfold ntV nbF gaS
  rw [if_neg (by decide), Int.mul_comm, show ceS (n - 1) (nxS D q) + leS D k + lSk D (nxS D q * 4 + j) - ceS (n - 1) (nxS D q) = leS D k + lSk D (nxS D q * 4 + j) by omega]
set_option maxRecDepth 100000 in
set_option maxHeartbeats 4000000 in
theorem lp_X11_news2 {k : WC} {d : Nat} {w : MC} {s : Int → Int} {A : MAs} {l : Int} {D : LaS} {E : LaY} {ru : RU} {cs : Int} {h0 : AH} {n q a sm : Int} {j : Nat} (hd : 200 ≤ d) (hWb : ∀ k : WC, RuC k s A E ru) (hM : MlD A l D E) (hD : LOK D) (hE : YOK E) (d3 : 0 ≤ cs) (d4 : cs ≤ 30) (hcs : cs = lCo D) (hn1 : 2 ≤ n) (hn : n ≤ 12) (hs0 : 0 ≤ q) (hs1 : q < lSe D) (ha0 : 0 ≤ a) (ha1 : a ≤ 40) (hj : (j : Int) < lHv D (nxS D q))  (hc : Cx w k d 0 0 mdX11_news) (kont : ∀ h (z11 z12 z13 : Option AV), TbA s A D E ru cs l h0 h → J w 0 0 148 [some (vR (70, 0)), some (vI l), some (vI n), some (vI q), some (vI a), some (vI (nxS D q)), some (vL sm), none, some (vI j), some (vL (mxN (ntV D cs (gaS D 2) (nbF D E cs n q) n q a j) (min a (moS D E)).toNat).1), none, z11, z12, z13] [] h) : ∀ (zm : Nat) (m : Nat) (z12 z13 : Option AV) (h : AH), 42 - m = zm → (m : Int) ≤ min a (moS D E) + 1 → TbA s A D E ru cs l h0 h → J w 0 0 58 [some (vR (70, 0)), some (vI l), some (vI n), some (vI q), some (vI a), some (vI (nxS D q)), some (vL sm), none, some (vI j), some (vL (tpN (ntV D cs (gaS D 2) (nbF D E cs n q) n q a j) m)), none, some (vI m), z12, z13] [] h := by
  intro zm
  induction zm using Nat.strongRecOn with
  | _ zm ih =>
    intro m z12 z13 h hm hml hT 
    have hl := hT.2.2.2.1
    have hc8 := hT.2.2.2.2
    have zn := nxS_b hD hs0
    have zmo := moS_b hD hE
    have d13 := hD.2.2.2.2.2.2.2.2.2.2.2.2
    have d10 := hD.2.2.2.2.2.2.2.2.2.1
    obtain ⟨zh1, zh2, zh3, zh4, zh5, zh6⟩ := d13 (nxS D q) zn.1 zn.2
    subst hcs
    have zh := zh6 j (by omega) (by omega)
    rw [show 4 * nxS D q + (j : Int) = nxS D q * 4 + j by omega] at zh
    refine j_iload hc dX11_news_58 rfl ?_
    refine j_aload_n hc dX11_news_60 rfl ?_
    refine j_iload hc dX11_news_61 rfl ?_
    refine j_callV (d' := d - 1) hc dX11_news_63 vX11_307 hT.1.1 (ev_X11_may (by omega) hT.1 hM hD hE hl ⟨by omega, by omega⟩) rfl (by omega) (by omega) (by omega) rfl rfl (Nat.le_of_ble_eq_true rfl) (ret1 ?_)
    refine j_icmp_gt (tgt := 148) hc dX11_news_66 (by decide) ⟨by omega, by omega⟩ ⟨by omega, by omega⟩ (fun zc1 => ?_) (fun zc1 => ?_)
    · have ze : m = (min a (moS D E)).toNat + 1 := by omega
      subst ze
      exact kont h _ _ _ hT
    · have zvb := ntV_in (E := E) hD hE (n := n) (q := q) (a := a) (j := j) (k := m) hn1 hn hs0 hj (by omega) (by omega) ha1
      have ztb := tpN_b (v := ntV D (lCo D) (gaS D 2) (nbF D E (lCo D) n q) n q a j) (lo := -445805022412800) (hi := 172125319153582080) (by omega) (by omega) m (fun i hi => ntV_in (E := E) hD hE hn1 hn hs0 hj (by omega) (by omega) ha1)
      have zle := leS_b hD (k := m) (by omega)
      have zgo := goS_b hD (e := a - m) (by omega)
      have zck : 0 ≤ lCo D * (m : Int) ∧ lCo D * (m : Int) ≤ 30 * 20 := ⟨Int.mul_nonneg d3 (by omega), Int.mul_le_mul d4 (by omega) (by omega) (by omega)⟩
      refine j_aload_n hc dX11_news_69 rfl ?_
      refine j_aload_n hc dX11_news_70 rfl ?_
      refine j_get hc dX11_news_71 fX11_278 hT.1.1 rfl ?_
      rw [hl]
      refine j_iload hc dX11_news_74 rfl ?_
      refine j_iload hc dX11_news_76 rfl ?_
      refine j_isub hc dX11_news_78 ?_
      refine j_callV (d' := d - 1) hc dX11_news_79 vX11_262 hT.1.1 (ev_X11_goods (by omega) hT.1 hM hD hE (by omega) (by omega)) rfl (by omega) (by omega) (by omega) rfl rfl (Nat.le_of_ble_eq_true rfl) (ret1 ?_)
      refine j_aload_n hc dX11_news_82 rfl ?_
      refine j_get hc dX11_news_83 fX11_281 hT.1.1 rfl ?_
      rw [hc8]
      refine j_iload hc dX11_news_86 rfl ?_
      refine j_imul hc dX11_news_88 ?_
      refine j_isub hc dX11_news_89 ?_
      refine j_i2l hc dX11_news_90 ⟨by omega, by omega⟩ ?_
      refine j_aload_n hc dX11_news_91 rfl ?_
      refine j_iload_n hc dX11_news_92 rfl ?_
      refine j_iconst hc dX11_news_93 ?_
      refine j_isub hc dX11_news_94 ?_
      refine j_iload hc dX11_news_95 rfl ?_
      refine j_callV (d' := d - 1) hc dX11_news_97 vX11_287 hT.1.1 (ev_X11_belowOf hT.1 hM hD hE hl (n - 2).toNat _ (n - 1) (nxS D q) (by omega) (by omega) (by omega) (by omega) (by omega)) rfl (by omega) (by omega) (by omega) rfl rfl (Nat.le_of_ble_eq_true rfl) (ret1 ?_)
      refine j_lmul hc dX11_news_100 ?_
      refine j_aload_n hc dX11_news_101 rfl ?_
      refine j_iconst hc dX11_news_102 ?_
      refine j_iload_n hc dX11_news_103 rfl ?_
      refine j_iconst hc dX11_news_104 ?_
      refine j_isub hc dX11_news_105 ?_
      refine j_iload hc dX11_news_106 rfl ?_
      refine j_aload_n hc dX11_news_108 rfl ?_
      refine j_aload_n hc dX11_news_109 rfl ?_
      refine j_get hc dX11_news_110 fX11_278 hT.1.1 rfl ?_
      rw [hl]
      refine j_iload hc dX11_news_113 rfl ?_
      refine j_callV (d' := d - 1) hc dX11_news_115 vX11_275 hT.1.1 (ev_X11_leftOf (by omega) hT.1 hM hD hE (by omega) (by omega)) rfl (by omega) (by omega) (by omega) rfl rfl (Nat.le_of_ble_eq_true rfl) (ret1 ?_)
      refine j_aload_n hc dX11_news_118 rfl ?_
      refine j_iload hc dX11_news_119 rfl ?_
      refine j_iload hc dX11_news_121 rfl ?_
      refine j_callV (d' := d - 1) hc dX11_news_123 vX11_313 hT.1.1 (ev_X11_sacksOf (by omega) hT.1 hM hD hE hl (by omega) (by omega) (by omega) (by omega)) rfl (by omega) (by omega) (by omega) rfl rfl (Nat.le_of_ble_eq_true rfl) (ret1 ?_)
      refine j_iadd hc dX11_news_126 ?_
      refine j_callV (d' := d - 1) hc dX11_news_127 vX11_322 hT.1.1 (tb_best (by omega) hT (hWb _) hM hD hE d3 d4 (Or.inl rfl) (by omega) (by omega) (by omega) (by omega) (by omega) (by omega)) rfl (by omega) (by omega) (by omega) rfl rfl (Nat.le_of_ble_eq_true rfl) (retE fun zv127 zq127 zp127 => ?_)
      obtain ⟨zv1, zT1⟩ := zp127
      subst zv1
      refine j_ladd hc dX11_news_130 ?_
      rw [ntV_at]
      refine j_lstore (L' := [_, _, _, _, _, _, _, _, _, _, _, _, _, _]) hc dX11_news_131 (Nat.le_of_ble_eq_true rfl) rfl ?_
      refine j_lload hc dX11_news_133 rfl ?_
      refine j_lload hc dX11_news_135 rfl ?_
      refine j_mmaxL hc dX11_news_137 mX11_237 mo_maxL ztb ⟨by omega, by omega⟩ (by omega) (by omega) rfl (by omega) (Nat.le_of_ble_eq_true rfl) ?_
      refine j_lstore (L' := [_, _, _, _, _, _, _, _, _, _, _, _, _, _]) hc dX11_news_140 (Nat.le_of_ble_eq_true rfl) rfl ?_
      refine j_iinc (L' := [_, _, _, _, _, _, _, _, _, _, _, _, _, _]) hc dX11_news_142 rfl (Nat.le_of_ble_eq_true rfl) rfl ?_
      refine j_goto (tgt := 58) hc dX11_news_145 (by decide) ?_
      rw [tpN_step m (by omega)]
      exact ih _ (by omega) (m + 1) _ _ _ rfl (by omega) zT1
set_option maxRecDepth 100000 in
set_option maxHeartbeats 4000000 in
theorem lp_X11_news1 {k : WC} {d : Nat} {w : MC} {s : Int → Int} {A : MAs} {l : Int} {D : LaS} {E : LaY} {ru : RU} {cs : Int} {h0 : AH} {n q a : Int} (hd : 200 ≤ d) (hWb : ∀ k : WC, RuC k s A E ru) (hM : MlD A l D E) (hD : LOK D) (hE : YOK E) (d3 : 0 ≤ cs) (d4 : cs ≤ 30) (hcs : cs = lCo D) (hn1 : 2 ≤ n) (hn : n ≤ 12) (hs0 : 0 ≤ q) (hs1 : q < lSe D) (ha0 : 0 ≤ a) (ha1 : a ≤ 40)  (hc : Cx w k d 0 0 mdX11_news) (he : Ends w 0 0 (pe fun v h' => v = vL (nwS D E cs n q a - bpS D E cs 2 n q a) ∧ TbA s A D E ru cs l h0 h')) : ∀ (zm : Nat) (j : Nat) (sm : Int) (z9 z10 z11 z12 z13 : Option AV) (h : AH), 4 - j = zm → (j : Int) ≤ lHv D (nxS D q) → sm = suF (fun j => lWt D (nxS D q * 4 + j) * (mxN (ntV D cs (gaS D 2) (nbF D E cs n q) n q a j) (min a (moS D E)).toNat).1) j → TbA s A D E ru cs l h0 h → J w 0 0 39 [some (vR (70, 0)), some (vI l), some (vI n), some (vI q), some (vI a), some (vI (nxS D q)), some (vL sm), none, some (vI j), z9, z10, z11, z12, z13] [] h := by
  intro zm
  induction zm using Nat.strongRecOn with
  | _ zm ih =>
    intro j sm z9 z10 z11 z12 z13 h hm hj hsm hT 
    have hl := hT.2.2.2.1
    have hc8 := hT.2.2.2.2
    have zn := nxS_b hD hs0
    have zmo := moS_b hD hE
    have d13 := hD.2.2.2.2.2.2.2.2.2.2.2.2
    have d10 := hD.2.2.2.2.2.2.2.2.2.1
    obtain ⟨zh1, zh2, zh3, zh4, zh5, zh6⟩ := d13 (nxS D q) zn.1 zn.2

    refine j_iload hc dX11_news_39 rfl ?_
    refine j_aload_n hc dX11_news_41 rfl ?_
    refine j_iload hc dX11_news_42 rfl ?_
    refine j_callV (d' := d - 1) hc dX11_news_44 vX11_310 hT.1.1 (ev_X11_harvests (by omega) hT.1 hM hD hE hl (by omega) (by omega)) rfl (by omega) (by omega) (by omega) rfl rfl (Nat.le_of_ble_eq_true rfl) (ret1 ?_)
    refine j_icmp_ge (tgt := 171) hc dX11_news_47 (by decide) ⟨by omega, by omega⟩ ⟨by omega, by omega⟩ (fun zc1 => ?_) (fun zc1 => ?_)
    · refine j_lload hc dX11_news_171 rfl ?_
      refine j_aload_n hc dX11_news_173 rfl ?_
      refine j_iconst hc dX11_news_174 ?_
      refine j_iload_n hc dX11_news_175 rfl ?_
      refine j_iload_n hc dX11_news_176 rfl ?_
      refine j_iload hc dX11_news_177 rfl ?_
      refine j_callV (d' := d - 1) hc dX11_news_179 vX11_322 hT.1.1 (tb_best (by omega) hT (hWb _) hM hD hE d3 d4 (Or.inl rfl) (by omega) (by omega) (by omega) (by omega) (by omega) (by omega)) rfl (by omega) (by omega) (by omega) rfl rfl (Nat.le_of_ble_eq_true rfl) (retE fun zv179 zq179 zp179 => ?_)
      obtain ⟨zv1, zT1⟩ := zp179
      subst zv1
      refine j_lsub hc dX11_news_182 ?_
      exact j_lret hc he dX11_news_183 rfl (by omega) (by omega) ⟨_, rfl, by rw [hsm]; unfold nwS ntS; rw [show (lHv D (nxS D q)).toNat = j by omega]; rfl, zT1⟩
    · refine j_ldc2 (x := -9223372036854775808) hc dX11_news_50 kX11_361 (by decide) ?_
      refine j_lstore (L' := [_, _, _, _, _, _, _, _, _, _, _, _, _, _]) hc dX11_news_53 (Nat.le_of_ble_eq_true rfl) rfl ?_
      refine j_iconst hc dX11_news_55 ?_
      refine j_istore (L' := [_, _, _, _, _, _, _, _, _, _, _, _, _, _]) hc dX11_news_56 (Nat.le_of_ble_eq_true rfl) rfl ?_
      refine lp_X11_news2 (j := j) hd hWb hM hD hE d3 d4 hcs hn1 hn hs0 hs1 ha0 ha1 (by omega) hc (fun h2 z11 z12 z13 hT2 => ?_) _ 0 _ _ _ rfl (by omega) hT
      have hl := hT2.2.2.2.1
      have zh := zh6 j (by omega) (by omega)
      rw [show 4 * nxS D q + (j : Int) = nxS D q * 4 + j by omega] at zh
      refine j_lload hc dX11_news_148 rfl ?_
      refine j_aload_n hc dX11_news_150 rfl ?_
      refine j_iload hc dX11_news_151 rfl ?_
      refine j_iload hc dX11_news_153 rfl ?_
      refine j_callV (d' := d - 1) hc dX11_news_155 vX11_316 hT2.1.1 (ev_X11_weightIn (by omega) hT2.1 hM hD hE hl (by omega) (by omega) (by omega) (by omega)) rfl (by omega) (by omega) (by omega) rfl rfl (Nat.le_of_ble_eq_true rfl) (ret1 ?_)
      refine j_i2l hc dX11_news_158 ⟨by omega, by omega⟩ ?_
      refine j_lload hc dX11_news_159 rfl ?_
      refine j_lmul hc dX11_news_161 ?_
      refine j_ladd hc dX11_news_162 ?_
      refine j_lstore (L' := [_, _, _, _, _, _, _, _, _, _, _, _, _, _]) hc dX11_news_163 (Nat.le_of_ble_eq_true rfl) rfl ?_
      refine j_iinc (L' := [_, _, _, _, _, _, _, _, _, _, _, _, _, _]) hc dX11_news_165 rfl (Nat.le_of_ble_eq_true rfl) rfl ?_
      refine j_goto (tgt := 39) hc dX11_news_168 (by decide) ?_
      exact ih _ (by omega) (j + 1) _ _ _ _ _ _ _ rfl (by omega) (by rw [hsm]; rfl) hT2
set_option maxRecDepth 100000 in
set_option maxHeartbeats 4000000 in
theorem ev_X11_news_a {k : WC} {d : Nat} {h : AH} {S : BaS} {th : Int} {l n q a : Int} (hd : 300 ≤ d) (hMo : ModAt h S th) (hil : inI l) (hin : inI n) (his : inI q) (hia : inI a) : Ev k d mdX11_news h [vR (70, 0), vI l, vI n, vI q, vI a] 0 0 (pe fun v h' => v = vL (aNews S l n q a) ∧ ModAt h' S th ∧ Fr isMo h h') := by
  obtain ⟨s, A, hS, hR, hB, hX, hK⟩ := id hMo
  obtain ⟨m0, m2, m22, m27, m44, m45, m46, mTp, mLd, mRu, mRw, mFr⟩ := id hR
  obtain ⟨⟨kTa, kTb⟩, ⟨kL0, kL1⟩, ⟨kR0, kR1⟩, kLd, kRu, kRw, ⟨kT0, kT1⟩, kS0, kS1⟩ := id hK
  refine Ev.mk (by decide +kernel) [_, _, _, _, _, _, _, _, _, _, _, _, _, _] rfl (Nat.le_of_ble_eq_true rfl) (fun w hc he => ?_)
  refine j_aload_n hc dX11_news_0 rfl ?_
  refine j_iload_n hc dX11_news_1 rfl ?_
  refine j_iload_n hc dX11_news_2 rfl ?_
  refine j_iload_n hc dX11_news_3 rfl ?_
  refine j_iload hc dX11_news_4 rfl ?_
  refine j_callV (d' := d - 1) hc dX11_news_6 vX11_341 hS.1 (ev_X11_isState (by omega) hS hR hK hil hin his hia) rfl (by omega) (by omega) (by omega) rfl rfl (Nat.le_of_ble_eq_true rfl) (ret1 ?_)
  refine j_if_eq (b := 0) (tgt := 17) hc dX11_news_9 (by decide) (by split <;> exact ⟨by omega, by omega⟩) (fun zc1 => ?_) (fun zc1 => ?_)
  · have zw5 := one_neg zc1
    refine j_ldc2 (x := -1) hc dX11_news_17 kX11_354 (by decide) ?_
    exact j_lret hc he dX11_news_20 rfl (by omega) (by omega) ⟨_, rfl, by unfold aNews; rw [if_neg (by omega)], hMo, Fr.rf _ _⟩
  · have zw := one_pos zc1
    have zw1 := zw.1
    obtain ⟨⟨n1, n12⟩, ⟨s0, s4⟩, a0, a40⟩ := zw.2
    obtain ⟨hD, hE, hrn, hyo⟩ := kLd l zw1.1 zw1.2
    have hM := mLd l zw1.1 zw1.2
    obtain ⟨⟨zl0, zl1⟩, mSe, mNe, mPa, mCo, mMi, mRo, mLa, mRn, mHv, mBu, mSl, mGr, mTb⟩ := id hM
    obtain ⟨d1, d2, d3, d4, d5, d6, d7, d8, d9, d10, d11, d12, d13⟩ := id hD
    obtain ⟨y1, y2, y3, y4, y5, y6, y7, y8, y9, y10⟩ := id hE
    have hW := fun k => ru_of (k := k) (l := l) hR hK zw1
    have hWb := fun k => ru_of (k := k) (l := l) (MoR.s37 (l := l) (c := lCo (bD S l)) hR) hK zw1
    refine j_iload_n hc dX11_news_12 rfl ?_
    refine j_iconst hc dX11_news_13 ?_
    refine j_icmp_ge (tgt := 21) hc dX11_news_14 (by decide) hin ⟨by omega, by omega⟩ (fun zc2 => ?_) (fun zc2 => ?_)
    · have zn2 : 2 ≤ n := by omega
      have zn := nxS_b hD s0
      obtain ⟨zh1, zh2, zh3, zh4, zh5, zh6⟩ := d13 (nxS (bD S l) q) zn.1 zn.2
      refine j_aload_n hc dX11_news_21 rfl ?_
      refine j_iload_n hc dX11_news_22 rfl ?_
      refine j_callV (d' := d - 1) hc dX11_news_23 vX11_348 hS.1 (ev_X11_begin (ru := ruC S l) (by omega) hS hM hD hE hB) rfl (by omega) (by omega) (by omega) rfl rfl (Nat.le_of_ble_eq_true rfl) (retN fun zq23 zp23 => ?_)
      have zT0 := BgA.tb zp23
      have hl := zT0.2.2.2.1
      refine j_aload_n hc dX11_news_26 rfl ?_
      refine j_iload_n hc dX11_news_27 rfl ?_
      refine j_callV (d' := d - 1) hc dX11_news_28 vX11_284 zT0.1.1 (ev_X11_after (by omega) zT0.1 hM hD hE hl (by omega) (by omega)) rfl (by omega) (by omega) (by omega) rfl rfl (Nat.le_of_ble_eq_true rfl) (ret1 ?_)
      refine j_istore (L' := [_, _, _, _, _, _, _, _, _, _, _, _, _, _]) hc dX11_news_31 (Nat.le_of_ble_eq_true rfl) rfl ?_
      refine j_lconst (x := 0) hc dX11_news_33 (by decide) ?_
      refine j_lstore (L' := [_, _, _, _, _, _, _, _, _, _, _, _, _, _]) hc dX11_news_34 (Nat.le_of_ble_eq_true rfl) rfl ?_
      refine j_iconst hc dX11_news_36 ?_
      refine j_istore (L' := [_, _, _, _, _, _, _, _, _, _, _, _, _, _]) hc dX11_news_37 (Nat.le_of_ble_eq_true rfl) rfl ?_
      exact lp_X11_news1 (by omega) hWb hM hD hE d3 d4 rfl zn2 n12 s0 s4 a0 a40 hc (he.mono fun r h' zp => by obtain ⟨v, zr, zv, zT⟩ := zp; exact ⟨v, zr, by rw [zv]; unfold aNews; rw [if_pos ⟨zw, zn2⟩]; rfl, zT.fin (MoR.s37 hR) hX hK⟩) _ 0 _ _ _ _ _ _ _ rfl (by omega) rfl zT0
    · refine j_ldc2 (x := -1) hc dX11_news_17 kX11_354 (by decide) ?_
      exact j_lret hc he dX11_news_20 rfl (by omega) (by omega) ⟨_, rfl, by unfold aNews; rw [if_neg (by omega)], hMo, Fr.rf _ _⟩
