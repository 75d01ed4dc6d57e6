/-! ===== the reference: the best ===== -/
theorem faM_1 {D : LaS} {E : LaY} {a : Int} (ha : 0 ≤ a) : (min a (faM D E 1)).toNat = 0 := by unfold faM; rw [if_neg (by omega)]; omega
theorem bp_1 {D : LaS} {E : LaY} {cs q a : Int} (ha : 0 ≤ a) : bpS D E cs 2 1 q a = goS D a := by
  show (mxN (fbV D cs (gaS D 2) (fun _ => 0) 1 q a) (min a (faM D E 1)).toNat).1 = _
  rw [faM_1 ha]
  show fbV D cs (gaS D 2) (fun _ => 0) 1 q a 0 = _
  unfold fbV fbA gaS
  rw [if_neg (by omega), if_neg (by omega)]
  show 1 * goS D (a - 0) + 0 = _
  rw [Int.sub_zero]
  omega
theorem kp_1 {D : LaS} {E : LaY} {ru : RU} {cs kd q a : Int} (h : kd ≠ 3) (ha : 0 ≤ a) : kpS D E ru cs kd 1 q a = 0 := by
  unfold kpS
  split
  · show ((fsk _ (min a (faM D E 1)).toNat 0 : Nat) : Int) = 0
    rw [faM_1 ha]
    rfl
  · split
    · show (((mxN (fbV D cs (gaS D kd) (fun _ => 0) 1 q a) (min a (faM D E 1)).toNat).2 : Nat) : Int) = 0
      rw [faM_1 ha]
      rfl
    · split
      · unfold kuS
        rw [if_neg (by omega)]
      · rfl
theorem kp_0 {D : LaS} {E : LaY} {ru : RU} {cs n q a : Int} : kpS D E ru cs 0 n q a = 0 := by
  unfold kpS
  rw [if_neg (by omega), if_neg (by omega), if_neg (by omega)]
theorem bv_n {D : LaS} {E : LaY} {cs kd n q a : Int} (hn : 2 ≤ n) : bvN D E cs (gaS D kd) (n - 1).toNat q a = mxN (fbV D cs (gaS D kd) (fun x => (bvN D E cs (gaS D kd) (n - 2).toNat (nxS D q) (x - ceS (n - 1) (nxS D q))).1) n q a) (min a (faM D E n)).toNat := by
  obtain ⟨m, rfl⟩ : ∃ m : Nat, n = m + 2 := ⟨(n - 2).toNat, by omega⟩
  rw [show ((m : Int) + 2 - 1).toNat = m + 1 by omega, show ((m : Int) + 2 - 2).toNat = m by omega, show (m : Int) + 2 - 1 = m + 1 by omega]
  rfl
theorem bv_1 {D : LaS} {E : LaY} {cs kd n q a : Int} {g : Int → Int} (hn : n = 1) : bvN D E cs (gaS D kd) (n - 1).toNat q a = mxN (fbV D cs (gaS D kd) g n q a) (min a (faM D E n)).toNat := by
  subst hn
  show mxN (fbV D cs (gaS D kd) (fun _ => 0) 1 q a) _ = _
  refine mxN_congr _ fun j hj => ?_
  unfold fbV fbA
  rw [if_neg (by omega), if_neg (by omega)]
theorem bfx_b {D : LaS} {E : LaY} (hD : LOK D) (hE : YOK E) {cs kd n q : Int} (hcs0 : 0 ≤ cs) (hcs1 : cs ≤ 30) (hn2 : 2 ≤ n) (hn : n ≤ 12) (hs0 : 0 ≤ q) (b : Int) (b0 : 0 ≤ b) (b1 : b ≤ 40) : 0 ≤ (fun x => (bvN D E cs (gaS D kd) (n - 2).toNat (nxS D q) (x - ceS (n - 1) (nxS D q))).1) (ceS (n - 1) (nxS D q) + b) ∧ (fun x => (bvN D E cs (gaS D kd) (n - 2).toNat (nxS D q) (x - ceS (n - 1) (nxS D q))).1) (ceS (n - 1) (nxS D q) + b) ≤ bbS D (n - 1) (nxS D q) := by
  have zn := nxS_b hD hs0
  have h := bvN_b hD hE hcs0 hcs1 (fun b b0 b1 => gaS_b hD (sr := kd) b b0 b1) (n - 2).toNat (s := nxS D q) (a := b) (by omega) zn.1 zn.2 b0 b1
  rw [show (((n - 2).toNat : Int) + 1) = n - 1 by omega] at h
  dsimp only
  rw [show ceS (n - 1) (nxS D q) + b - ceS (n - 1) (nxS D q) = b by omega]
  exact h
theorem fb_eq {g c b S j : Int} : (g - c * j) * b + S = b * g + (S - b * c * j) := by
  have e1 : (g - c * j) * b = b * g - b * c * j := by
    rw [Int.sub_mul, Int.mul_comm g b, Int.mul_right_comm c j b, Int.mul_comm c b]
  omega
theorem fbV_n {D : LaS} {cs : Int} {gf bf : Int → Int} {n s a : Int} {j : Nat} (hn : 1 < n) : fbV D cs gf bf n s a j = (gf (a - j) - cs * j) * beN D (n - 1).toNat s + suF (stG D bf (n - 1) (nxS D s) (leS D j)) (lHv D (nxS D s)).toNat := by
  unfold fbV fbA
  rw [if_pos hn, fb_eq]
theorem fbV_1 {D : LaS} {cs : Int} {gf bf : Int → Int} {n s a : Int} (hn : n = 1) : fbV D cs gf bf n s a 0 = (gf (a - (0 : Nat)) - cs * (0 : Nat)) * beN D (n - 1).toNat s + 0 := by
  unfold fbV fbA
  rw [if_neg (by omega)]
  show beN D (n - 1).toNat s * gf (a - 0) + 0 = (gf (a - 0) - cs * 0) * beN D (n - 1).toNat s + 0
  rw [Int.mul_zero, Int.sub_zero, Int.sub_zero, Int.mul_comm]
set_option maxRecDepth 100000 in
set_option maxHeartbeats 4000000 in
theorem ev_X11_byAll {k : WC} {s : Int → Int} {A : MAs} {l : Int} {D : LaS} {E : LaY} {ru : RU} {cs : Int} {d : Nat} {h : AH} {n q a : Int} {c : Nat} {kp ke se be : Int → Int} (IH : KeC k s A D E ru cs (n - 1) c) (hd : c + 4 ≤ d) (hd2 : 12 ≤ d) (hS : MdS h s A) (hM : MlD A l D E) (hD : LOK D) (hE : YOK E) (hl : s 37 = l) (hcs : s 38 = cs) (hcs0 : 0 ≤ cs) (hcs1 : cs ≤ 30) (hX : MmX h D E ru cs kp ke se be) (hn1 : 2 ≤ n) (hn : n ≤ 12) (hs0 : 0 ≤ q) (hs1 : q < lSe D) (ha0 : 0 ≤ a) (ha1 : a ≤ 40)  : Ev k d mdX11_byAll h [vR (70, 0), vI n, vI q, vI a] 0 0 (KvPo D E ru cs (vI (kaN D E cs (n - 1).toNat q a)) h) := by
  obtain ⟨⟨zl0, zl1⟩, mSe, mNe, mPa, mCo, mMi, mRo, mLa, mRn, mHv, mBu, mSl, mGr, mTb⟩ := id hM
  obtain ⟨d1, d2, d3, d4, d5, d6, d7, d8, d9, d10, d11, d12, d13⟩ := id hD
  obtain ⟨y1, y2, y3, y4, y5, y6, y7, y8, y9, y10⟩ := id hE
  have zn := nxS_b hD hs0
  have zmo := moS_b hD hE
  refine Ev.mk (by decide +kernel) [_, _, _, _, _, _, _, _, _, _] rfl (Nat.le_of_ble_eq_true rfl) (fun w hc he => ?_)
  refine j_aload_n hc dX11_byAll_0 rfl ?_
  refine j_iload_n hc dX11_byAll_1 rfl ?_
  refine j_callV (d' := d - 1) hc dX11_byAll_2 vX11_284 hS.1 (ev_X11_after (by omega) hS hM hD hE hl (by omega) (by omega)) rfl (by omega) (by omega) (by omega) rfl rfl (Nat.le_of_ble_eq_true rfl) (ret1 ?_)
  refine j_istore (L' := [_, _, _, _, _, _, _, _, _, _]) hc dX11_byAll_5 (Nat.le_of_ble_eq_true rfl) rfl ?_
  refine j_iconst hc dX11_byAll_7 ?_
  refine j_istore (L' := [_, _, _, _, _, _, _, _, _, _]) hc dX11_byAll_8 (Nat.le_of_ble_eq_true rfl) rfl ?_
  refine j_iconst hc dX11_byAll_10 ?_
  refine j_aload_n hc dX11_byAll_11 rfl ?_
  refine j_get hc dX11_byAll_12 fX11_37 hS.1 rfl ?_
  refine j_aload_n hc dX11_byAll_15 rfl ?_
  refine j_get hc dX11_byAll_16 fX11_278 hS.1 rfl ?_
  rw [hl]
  refine j_iald hc dX11_byAll_19 hS.2.2.2.2.2.2.2.2.2.2.1 (by omega) (by omega) ?_
  rw [mMi]
  refine j_mmax hc dX11_byAll_20 mX11_260 mo_max ⟨by omega, by omega⟩ ⟨by omega, by omega⟩ (by omega) (by omega) rfl (by omega) (Nat.le_of_ble_eq_true rfl) ?_
  rw [show max 1 (lMi D) = paS D by unfold paS; split <;> omega]
  refine j_istore (L' := [_, _, _, _, _, _, _, _, _, _]) hc dX11_byAll_23 (Nat.le_of_ble_eq_true rfl) rfl ?_
  exact lp_X11_byAll1 IH hd hd2 hM hD hE hl hcs hcs0 hcs1 hn1 hn hs0 hs1 ha0 ha1 hc he _ 0 _ _ _ _ _ _ _ _ rfl (by omega) (fun i hi => by omega) hS hX (Fr.rf _ _)
def BeC (k : WC) (s : Int → Int) (A : MAs) (D : LaS) (E : LaY) (ru : RU) (cs n : Int) (c : Nat) : Prop := ∀ (d : Nat) (h : AH) (kd q a : Int) (kp ke se be : Int → Int), c ≤ d → MdS h s A → MmX h D E ru cs kp ke se be → kd = 2 ∨ kd = 3 → 0 ≤ q → q < lSe D → 0 ≤ a → a ≤ 40 → Ev k d mdX11_best h [vR (70, 0), vI kd, vI n, vI q, vI a] 0 0 (KvPo D E ru cs (vL (bpS D E cs kd n q a)) h)
set_option maxRecDepth 100000 in
set_option maxHeartbeats 4000000 in
theorem best_of {k : WC} {s : Int → Int} {A : MAs} {l : Int} {D : LaS} {E : LaY} {ru : RU} {cs : Int} {n : Int} {c : Nat} (hM : MlD A l D E) (hD : LOK D) (hE : YOK E) (hl : s 37 = l) (hcs : s 38 = cs) (hcs0 : 0 ≤ cs) (hcs1 : cs ≤ 30) (IH : KeC k s A D E ru cs n c) (hc4 : 4 ≤ c) (hn1 : 1 ≤ n) (hn : n ≤ 12) : BeC k s A D E ru cs n (c + 1) := by
  obtain ⟨⟨zl0, zl1⟩, mSe, mNe, mPa, mCo, mMi, mRo, mLa, mRn, mHv, mBu, mSl, mGr, mTb⟩ := id hM
  obtain ⟨d1, d2, d3, d4, d5, d6, d7, d8, d9, d10, d11, d12, d13⟩ := id hD
  obtain ⟨y1, y2, y3, y4, y5, y6, y7, y8, y9, y10⟩ := id hE
  intro d h kd q a kp ke se be hd hS hX hkd hs0 hs1 ha0 ha1
  have zgo := goS_b hD (e := a) (by omega)
  refine Ev.mk (by decide +kernel) [_, _, _, _, _] rfl (Nat.le_of_ble_eq_true rfl) (fun w hc he => ?_)
  refine j_iload_n hc dX11_best_0 rfl ?_
  refine j_iconst hc dX11_best_1 ?_
  refine j_icmp_ne (tgt := 22) hc dX11_best_2 (by decide) ⟨by omega, by omega⟩ ⟨by omega, by omega⟩ (fun zc1 => ?_) (fun zc1 => ?_)
  · refine j_aload_n hc dX11_best_22 rfl ?_
    refine j_iload_n hc dX11_best_23 rfl ?_
    refine j_iload_n hc dX11_best_24 rfl ?_
    refine j_iload_n hc dX11_best_25 rfl ?_
    refine j_iload hc dX11_best_26 rfl ?_
    refine j_callV (d' := d - 1) hc dX11_best_28 vX11_319 hS.1 (IH (d - 1) _ kd q a _ _ _ _ (by omega) hS hX (by omega) (by omega) hs0 hs1 ha0 ha1) rfl (by omega) (by omega) (by omega) rfl rfl (Nat.le_of_ble_eq_true rfl) (retE fun zv28 zq28 zp28 => ?_)
    obtain ⟨zv8, ⟨kp8, ke8, se8, be8, zX8, zk8⟩, zF8⟩ := zp28
    have zm8 := MdS.fr (fun z hz => zF8 z (nDp hz)) hS
    have zk9 := zk8 (by omega) (by omega)
    have zb9 := (zX8.2.2.2.2.2 kd n q a (by omega) (by omega) hn1 hn hs0 hs1 ha0 ha1).2 zk9
    have zix := kIx_b (kd := kd) (n := n) (q := q) (a := a) (by omega) (by omega) hn1 hn hs0 (by omega) ha0 ha1
    subst zv8
    refine j_pop hc dX11_best_31 rfl ?_
    refine j_aload_n hc dX11_best_32 rfl ?_
    refine j_get hc dX11_best_33 fX11_87 zm8.1 rfl ?_
    refine j_iload_n hc dX11_best_36 rfl ?_
    refine j_sipush hc dX11_best_37 (by decide) ?_
    refine j_imul hc dX11_best_40 ?_
    refine j_iload_n hc dX11_best_41 rfl ?_
    refine j_iload_n hc dX11_best_42 rfl ?_
    refine j_iload hc dX11_best_43 rfl ?_
    refine j_callS (d' := d - 1) hc dX11_best_45 sX11_291 (ev_X11_state (by omega)) rfl (by omega) (by omega) (by omega) rfl rfl (Nat.le_of_ble_eq_true rfl) (ret1 ?_)
    refine j_iadd hc dX11_best_48 ?_
    refine j_lald hc dX11_best_49 zX8.2.2.2.1 (by have := zix; unfold kIx at this; omega) (by have := zix; unfold kIx at this; omega) ?_
    exact j_lret hc he dX11_best_50 rfl (by omega) (by omega) ⟨_, rfl, by rw [show kd * 2132 + ((n * 4 + q) * 41 + a) = kIx kd n q a from rfl, zb9.2.1 hkd], ⟨_, _, _, _, zX8⟩, zF8⟩
  · refine j_iload_n hc dX11_best_5 rfl ?_
    refine j_iconst hc dX11_best_6 ?_
    refine j_icmp_ne (tgt := 22) hc dX11_best_7 (by decide) ⟨by omega, by omega⟩ ⟨by omega, by omega⟩ (fun zc2 => ?_) (fun zc2 => ?_)
    · refine j_aload_n hc dX11_best_22 rfl ?_
      refine j_iload_n hc dX11_best_23 rfl ?_
      refine j_iload_n hc dX11_best_24 rfl ?_
      refine j_iload_n hc dX11_best_25 rfl ?_
      refine j_iload hc dX11_best_26 rfl ?_
      refine j_callV (d' := d - 1) hc dX11_best_28 vX11_319 hS.1 (IH (d - 1) _ kd q a _ _ _ _ (by omega) hS hX (by omega) (by omega) hs0 hs1 ha0 ha1) rfl (by omega) (by omega) (by omega) rfl rfl (Nat.le_of_ble_eq_true rfl) (retE fun zv28 zq28 zp28 => ?_)
      obtain ⟨zv8, ⟨kp8, ke8, se8, be8, zX8, zk8⟩, zF8⟩ := zp28
      have zm8 := MdS.fr (fun z hz => zF8 z (nDp hz)) hS
      have zk9 := zk8 (by omega) (by omega)
      have zb9 := (zX8.2.2.2.2.2 kd n q a (by omega) (by omega) hn1 hn hs0 hs1 ha0 ha1).2 zk9
      have zix := kIx_b (kd := kd) (n := n) (q := q) (a := a) (by omega) (by omega) hn1 hn hs0 (by omega) ha0 ha1
      subst zv8
      refine j_pop hc dX11_best_31 rfl ?_
      refine j_aload_n hc dX11_best_32 rfl ?_
      refine j_get hc dX11_best_33 fX11_87 zm8.1 rfl ?_
      refine j_iload_n hc dX11_best_36 rfl ?_
      refine j_sipush hc dX11_best_37 (by decide) ?_
      refine j_imul hc dX11_best_40 ?_
      refine j_iload_n hc dX11_best_41 rfl ?_
      refine j_iload_n hc dX11_best_42 rfl ?_
      refine j_iload hc dX11_best_43 rfl ?_
      refine j_callS (d' := d - 1) hc dX11_best_45 sX11_291 (ev_X11_state (by omega)) rfl (by omega) (by omega) (by omega) rfl rfl (Nat.le_of_ble_eq_true rfl) (ret1 ?_)
      refine j_iadd hc dX11_best_48 ?_
      refine j_lald hc dX11_best_49 zX8.2.2.2.1 (by have := zix; unfold kIx at this; omega) (by have := zix; unfold kIx at this; omega) ?_
      exact j_lret hc he dX11_best_50 rfl (by omega) (by omega) ⟨_, rfl, by rw [show kd * 2132 + ((n * 4 + q) * 41 + a) = kIx kd n q a from rfl, zb9.2.1 hkd], ⟨_, _, _, _, zX8⟩, zF8⟩
    · refine j_aload_n hc dX11_best_10 rfl ?_
      refine j_aload_n hc dX11_best_11 rfl ?_
      refine j_get hc dX11_best_12 fX11_278 hS.1 rfl ?_
      rw [hl]
      refine j_iload hc dX11_best_15 rfl ?_
      refine j_callV (d' := d - 1) hc dX11_best_17 vX11_262 hS.1 (ev_X11_goods (by omega) hS hM hD hE (by omega) (by omega)) rfl (by omega) (by omega) (by omega) rfl rfl (Nat.le_of_ble_eq_true rfl) (ret1 ?_)
      refine j_i2l hc dX11_best_20 ⟨by omega, by omega⟩ ?_
      exact j_lret hc he dX11_best_21 rfl (by omega) (by omega) ⟨_, rfl, by rw [show kd = 2 by omega, show n = 1 by omega, bp_1 ha0], ⟨_, _, _, _, hX⟩, Fr.rf _ _⟩
set_option maxRecDepth 100000 in
set_option maxHeartbeats 4000000 in
theorem lp_X11_behind {k : WC} {s : Int → Int} {A : MAs} {l : Int} {D : LaS} {E : LaY} {ru : RU} {cs : Int} {d : Nat} {w : MC} {h : AH} {kd n q left : Int} {c : Nat} (IB : BeC k s A D E ru cs (n - 1) c) (hd : c + 4 ≤ d) (hd2 : 12 ≤ d) (hM : MlD A l D E) (hD : LOK D) (hE : YOK E) (hl : s 37 = l) (hcs : s 38 = cs) (hcs0 : 0 ≤ cs) (hcs1 : cs ≤ 30) (hkd : kd = 2 ∨ kd = 3) (hn1 : 2 ≤ n) (hn : n ≤ 12) (hs0 : 0 ≤ q) (hs1 : q < lSe D) (hle0 : 0 ≤ left) (hle1 : left ≤ 20) (hc : Cx w k d 0 0 mdX11_behind) (he : Ends w 0 0 (KvPo D E ru cs (vL (suF (stG D (fun x => (bvN D E cs (gaS D kd) (n - 2).toNat (nxS D q) (x - ceS (n - 1) (nxS D q))).1) (n - 1) (nxS D q) left) (lHv D (nxS D q)).toNat)) h)) : ∀ (zm : Nat) (i : Nat) (c : Int) (h' : AH) (kp ke se be : Int → Int), 4 - i = zm → (i : Int) ≤ lHv D (nxS D q) → c = suF (stG D (fun x => (bvN D E cs (gaS D kd) (n - 2).toNat (nxS D q) (x - ceS (n - 1) (nxS D q))).1) (n - 1) (nxS D q) left) i → MdS h' s A → MmX h' D E ru cs kp ke se be → Fr isDp h h' → J w 0 0 13 [some (vR (70, 0)), some (vI kd), some (vI n), some (vI q), some (vI left), some (vI (nxS D q)), some (vL c), none, some (vI i)] [] h' := by
  obtain ⟨⟨zl0, zl1⟩, mSe, mNe, mPa, mCo, mMi, mRo, mLa, mRn, mHv, mBu, mSl, mGr, mTb⟩ := id hM
  obtain ⟨d1, d2, d3, d4, d5, d6, d7, d8, d9, d10, d11, d12, d13⟩ := id hD
  obtain ⟨y1, y2, y3, y4, y5, y6, y7, y8, y9, y10⟩ := id hE
  have zn := nxS_b hD hs0
  obtain ⟨zh1, zh2, zh3, zh4, zh5, zh6⟩ := d13 (nxS D q) zn.1 zn.2
  intro zm
  induction zm using Nat.strongRecOn with
  | _ zm ih =>
    intro i c h' kp ke se be hm hi hcc hS hX hfr
    refine j_iload hc dX11_behind_13 rfl ?_
    refine j_aload_n hc dX11_behind_15 rfl ?_
    refine j_iload hc dX11_behind_16 rfl ?_
    refine j_callV (d' := d - 1) hc dX11_behind_18 vX11_310 hS.1 (ev_X11_harvests (by omega) hS hM hD hE hl (by omega) (by omega)) rfl (by omega) (by omega) (by omega) rfl rfl (Nat.le_of_ble_eq_true rfl) (ret1 ?_)
    refine j_icmp_ge (tgt := 66) hc dX11_behind_21 (by decide) ⟨by omega, by omega⟩ ⟨by omega, by omega⟩ (fun zc1 => ?_) (fun zc1 => ?_)
    · refine j_lload hc dX11_behind_66 rfl ?_
      exact j_lret hc he dX11_behind_68 rfl (by omega) (by omega) ⟨_, rfl, by rw [hcc, show (lHv D (nxS D q)).toNat = i by omega], ⟨_, _, _, _, hX⟩, hfr⟩
    · have zh := zh6 i (by omega) (by omega)
      rw [show 4 * nxS D q + (i : Int) = nxS D q * 4 + i by omega] at zh
      refine j_lload hc dX11_behind_24 rfl ?_
      refine j_aload_n hc dX11_behind_26 rfl ?_
      refine j_iload hc dX11_behind_27 rfl ?_
      refine j_iload hc dX11_behind_29 rfl ?_
      refine j_callV (d' := d - 1) hc dX11_behind_31 vX11_316 hS.1 (ev_X11_weightIn (by omega) hS hM hD hE hl (by omega) (by omega) (by omega) (by omega)) rfl (by omega) (by omega) (by omega) rfl rfl (Nat.le_of_ble_eq_true rfl) (ret1 ?_)
      refine j_i2l hc dX11_behind_34 ⟨by omega, by omega⟩ ?_
      refine j_aload_n hc dX11_behind_35 rfl ?_
      refine j_iload_n hc dX11_behind_36 rfl ?_
      refine j_iload_n hc dX11_behind_37 rfl ?_
      refine j_iconst hc dX11_behind_38 ?_
      refine j_isub hc dX11_behind_39 ?_
      refine j_iload hc dX11_behind_40 rfl ?_
      refine j_iload hc dX11_behind_42 rfl ?_
      refine j_aload_n hc dX11_behind_44 rfl ?_
      refine j_iload hc dX11_behind_45 rfl ?_
      refine j_iload hc dX11_behind_47 rfl ?_
      refine j_callVW (d' := d - 1) hc dX11_behind_49 vX11_313 hS.1 (ev_X11_sacksOf (by omega) hS hM hD hE hl (by omega) (by omega) (by omega) (by omega)) rfl (by omega) (by omega) (by omega) rfl rfl (Nat.le_of_ble_eq_true rfl) (ret1 ?_)
      refine j_iadd hc dX11_behind_52 ?_
      refine j_callV (d' := d - 1) hc dX11_behind_53 vX11_322 hS.1 (IB (d - 1) _ kd (nxS D q) (left + lSk D (nxS D q * 4 + i)) _ _ _ _ (by omega) hS hX hkd zn.1 zn.2 (by omega) (by omega)) rfl (by omega) (by omega) (by omega) rfl rfl (Nat.le_of_ble_eq_true rfl) (retE fun zv53 zq53 zp53 => ?_)
      obtain ⟨zv8, ⟨kp8, ke8, se8, be8, zX8⟩, zF8⟩ := zp53
      subst zv8
      have zzmod_q8 := MdS.fr (fun z hz => zF8 z (nDp hz)) hS
      refine j_lmul hc dX11_behind_56 ?_
      refine j_ladd hc dX11_behind_57 ?_
      refine j_lstore (L' := [_, _, _, _, _, _, _, _, _]) hc dX11_behind_58 (Nat.le_of_ble_eq_true rfl) rfl ?_
      refine j_iinc (L' := [_, _, _, _, _, _, _, _, _]) hc dX11_behind_60 rfl (Nat.le_of_ble_eq_true rfl) rfl ?_
      refine j_goto (tgt := 13) hc dX11_behind_63 (by decide) ?_
      exact ih _ (by omega) (i + 1) _ _ _ _ _ _ rfl (by omega) (by
        rw [hcc]
        simp only [suF]
        congr 1
        unfold stG bpS
        try dsimp only
        rw [show ceS (n - 1) (nxS D q) + left + lSk D (nxS D q * 4 + i) - ceS (n - 1) (nxS D q) = left + lSk D (nxS D q * 4 + i) by omega, show (n - 1 - 1).toNat = (n - 2).toNat by omega]) zzmod_q8 zX8 (hfr.tr zF8)
set_option maxRecDepth 100000 in
set_option maxHeartbeats 4000000 in
theorem ev_X11_behind {k : WC} {s : Int → Int} {A : MAs} {l : Int} {D : LaS} {E : LaY} {ru : RU} {cs : Int} {d : Nat} {h : AH} {kd n q left : Int} {c : Nat} {kp ke se be : Int → Int} (IB : BeC k s A D E ru cs (n - 1) c) (hd : c + 4 ≤ d) (hd2 : 12 ≤ d) (hS : MdS h s A) (hM : MlD A l D E) (hD : LOK D) (hE : YOK E) (hl : s 37 = l) (hcs : s 38 = cs) (hcs0 : 0 ≤ cs) (hcs1 : cs ≤ 30) (hX : MmX h D E ru cs kp ke se be) (hkd : kd = 2 ∨ kd = 3) (hn1 : 2 ≤ n) (hn : n ≤ 12) (hs0 : 0 ≤ q) (hs1 : q < lSe D) (hle0 : 0 ≤ left) (hle1 : left ≤ 20)  : Ev k d mdX11_behind h [vR (70, 0), vI kd, vI n, vI q, vI left] 0 0 (KvPo D E ru cs (vL (suF (stG D (fun x => (bvN D E cs (gaS D kd) (n - 2).toNat (nxS D q) (x - ceS (n - 1) (nxS D q))).1) (n - 1) (nxS D q) left) (lHv D (nxS D q)).toNat)) h) := by
  obtain ⟨⟨zl0, zl1⟩, mSe, mNe, mPa, mCo, mMi, mRo, mLa, mRn, mHv, mBu, mSl, mGr, mTb⟩ := id hM
  obtain ⟨d1, d2, d3, d4, d5, d6, d7, d8, d9, d10, d11, d12, d13⟩ := id hD
  obtain ⟨y1, y2, y3, y4, y5, y6, y7, y8, y9, y10⟩ := id hE
  have zn := nxS_b hD hs0
  obtain ⟨zh1, zh2, zh3, zh4, zh5, zh6⟩ := d13 (nxS D q) zn.1 zn.2
  refine Ev.mk (by decide +kernel) [_, _, _, _, _, _, _, _, _] rfl (Nat.le_of_ble_eq_true rfl) (fun w hc he => ?_)
  refine j_aload_n hc dX11_behind_0 rfl ?_
  refine j_iload_n hc dX11_behind_1 rfl ?_
  refine j_callV (d' := d - 1) hc dX11_behind_2 vX11_284 hS.1 (ev_X11_after (by omega) hS hM hD hE hl (by omega) (by omega)) rfl (by omega) (by omega) (by omega) rfl rfl (Nat.le_of_ble_eq_true rfl) (ret1 ?_)
  refine j_istore (L' := [_, _, _, _, _, _, _, _, _]) hc dX11_behind_5 (Nat.le_of_ble_eq_true rfl) rfl ?_
  refine j_lconst (x := 0) hc dX11_behind_7 (by decide) ?_
  refine j_lstore (L' := [_, _, _, _, _, _, _, _, _]) hc dX11_behind_8 (Nat.le_of_ble_eq_true rfl) rfl ?_
  refine j_iconst hc dX11_behind_10 ?_
  refine j_istore (L' := [_, _, _, _, _, _, _, _, _]) hc dX11_behind_11 (Nat.le_of_ble_eq_true rfl) rfl ?_
  exact lp_X11_behind IB hd hd2 hM hD hE hl hcs hcs0 hcs1 hkd hn1 hn hs0 hs1 hle0 hle1 hc he _ 0 _ _ _ _ _ _ rfl (by omega) rfl hS hX (Fr.rf _ _)
