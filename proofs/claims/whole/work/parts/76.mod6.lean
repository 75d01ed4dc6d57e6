/-! ===== the reference: begin, eats, price, fare ===== -/
def MoB (h : AH) : Prop := (∃ f, h (230, 0) = some (oL 400 f)) ∧ (∃ f, h (231, 0) = some (oZ 10660 f)) ∧ (∃ f, h (232, 0) = some (oI 10660 f)) ∧ (∃ f, h (233, 0) = some (oI 2132 f)) ∧ (∃ f, h (234, 0) = some (oL 10660 f)) ∧ (∃ f, h (235, 0) = some (oZ 10660 f)) ∧ ∃ f, h (236, 0) = some (oL 10660 f)
def FmX (h : AH) (D : LaS) (E : LaY) (ru : RU) (cs : Int) (ff fv : Int → Int) : Prop := h (235, 0) = some (oZ 10660 ff) ∧ h (236, 0) = some (oL 10660 fv) ∧ ∀ kd n q a : Int, 0 ≤ kd → kd ≤ 4 → 1 ≤ n → n ≤ 12 → 0 ≤ q → q < lSe D → 0 ≤ a → a ≤ 40 → (ff (kIx kd n q a) = 0 ∨ ff (kIx kd n q a) = 1) ∧ (ff (kIx kd n q a) = 1 → fv (kIx kd n q a) = weN D E ru cs kd (n - 1).toNat q a)
abbrev isDf : Nm → Prop := fun z => 230 ≤ z.1 ∧ z.1 ≤ 236
theorem nDf {z : Nm} (h : isSt z) : ¬ isDf z := fun y => by
  rcases h with h | h | h | h
  · rw [h] at y; exact absurd y (by decide)
  · omega
  · omega
  · omega
/-- the tables as they are filled, for the land spoken of -/
def MoM (h : AH) (D : LaS) (E : LaY) (ru : RU) (cs : Int) : Prop := (∃ kp ke se be : Int → Int, MmX h D E ru cs kp ke se be) ∧ ∃ ff fv : Int → Int, FmX h D E ru cs ff fv
theorem MoM.b {h : AH} {D : LaS} {E : LaY} {ru : RU} {cs : Int} (m : MoM h D E ru cs) : MoB h := by
  obtain ⟨⟨kp, ke, se, be, a1, a2, a3, a4, a5, -⟩, ff, fv, b1, b2, -⟩ := m
  exact ⟨a5, ⟨_, a1⟩, ⟨_, a2⟩, ⟨_, a3⟩, ⟨_, a4⟩, ⟨_, b1⟩, ⟨_, b2⟩⟩
theorem FmX.fr {h h' : AH} {D : LaS} {E : LaY} {ru : RU} {cs : Int} {ff fv : Int → Int} (F : Fr isDp h h') (m : FmX h D E ru cs ff fv) : FmX h' D E ru cs ff fv := ⟨(F _ (by show ¬ (_ ∧ _); decide)).trans m.1, (F _ (by show ¬ (_ ∧ _); decide)).trans m.2.1, m.2.2⟩
theorem FmX.step {h : AH} {D : LaS} (hD : LOK D) {E : LaY} {ru : RU} {cs : Int} {ff fv : Int → Int} {kd n q a v : Int} (m : ∀ kd n q a : Int, 0 ≤ kd → kd ≤ 4 → 1 ≤ n → n ≤ 12 → 0 ≤ q → q < lSe D → 0 ≤ a → a ≤ 40 → (ff (kIx kd n q a) = 0 ∨ ff (kIx kd n q a) = 1) ∧ (ff (kIx kd n q a) = 1 → fv (kIx kd n q a) = weN D E ru cs kd (n - 1).toNat q a)) (h2 : 1 ≤ n) (h3 : n ≤ 12) (h4 : 0 ≤ q) (h5 : q < lSe D) (h6 : 0 ≤ a) (h7 : a ≤ 40) (hv : v = weN D E ru cs kd (n - 1).toNat q a) (e1 : h (235, 0) = some (oZ 10660 (fu ff (kIx kd n q a) 1))) (e2 : h (236, 0) = some (oL 10660 (fu fv (kIx kd n q a) v))) : FmX h D E ru cs (fu ff (kIx kd n q a) 1) (fu fv (kIx kd n q a) v) := by
  have d2 := hD.2.1
  refine ⟨e1, e2, fun kd' n' q' a' g0 g1 g2 g3 g4 g5 g6 g7 => ?_⟩
  by_cases e : kIx kd' n' q' a' = kIx kd n q a
  · obtain ⟨rfl, rfl, rfl, rfl⟩ := kIx_inj g4 (by omega) g6 g7 h2 h3 g2 g3 h4 (by omega) h6 h7 e
    rw [fu_same, fu_same]
    exact ⟨Or.inr rfl, fun _ => hv⟩
  · rw [fu_ne e, fu_ne e]
    exact m kd' n' q' a' g0 g1 g2 g3 g4 g5 g6 g7
set_option maxRecDepth 100000 in
set_option maxHeartbeats 4000000 in
theorem ev_X11_eats {k : WC} {s : Int → Int} {A : MAs} {l : Int} {D : LaS} {E : LaY} {ru : RU} {cs : Int} {d : Nat} {h : AH} {kd n q a : Int} {kp ke se be : Int → Int} (hK : KeC k s A D E ru cs n 180) (hd : 190 ≤ d) (hS : MdS h s A) (hM : MlD A l D E) (hD : LOK D) (hE : YOK E) (hl : s 37 = l) (hcs : s 38 = cs) (hcs0 : 0 ≤ cs) (hcs1 : cs ≤ 30) (hX : MmX h D E ru cs kp ke se be) (hk0 : 0 ≤ kd) (hk1 : kd ≤ 4) (hn1 : 1 ≤ n) (hn : n ≤ 12) (hs0 : 0 ≤ q) (hs1 : q < lSe D) (ha0 : 0 ≤ a) (ha1 : a ≤ 40)  : Ev k d mdX11_eats h [vR (70, 0), vI kd, vI n, vI q, vI a] 0 0 (KvPo D E ru cs (vI (eaS D kd (a - kpS D E ru cs kd n q a))) h) := by
  obtain ⟨⟨zl0, zl1⟩, mSe, mNe, mPa, mCo, mMi, mRo, mLa, mRn, mHv, mBu, mSl, mGr, mTb⟩ := id hM
  obtain ⟨d1, d2, d3, d4, d5, d6, d7, d8, d9, d10, d11, d12, d13⟩ := id hD
  obtain ⟨y1, y2, y3, y4, y5, y6, y7, y8, y9, y10⟩ := id hE
  refine Ev.mk (by decide +kernel) [_, _, _, _, _, _] rfl (Nat.le_of_ble_eq_true rfl) (fun w hc he => ?_)
  refine j_aload_n hc dX11_eats_0 rfl ?_
  refine j_iload_n hc dX11_eats_1 rfl ?_
  refine j_iload_n hc dX11_eats_2 rfl ?_
  refine j_iload_n hc dX11_eats_3 rfl ?_
  refine j_iload hc dX11_eats_4 rfl ?_
  refine j_callV (d' := d - 1) hc dX11_eats_6 vX11_319 hS.1 (hK (d - 1) _ kd q a _ _ _ _ (by omega) hS hX hk0 hk1 hs0 hs1 ha0 ha1) rfl (by omega) (by omega) (by omega) rfl rfl (Nat.le_of_ble_eq_true rfl) (retE fun zv6 zq6 zp6 => ?_)
  obtain ⟨zv8, ⟨kp8, ke8, se8, be8, zX8, zk8⟩, zF8⟩ := zp6
  subst zv8
  have zm8 := MdS.fr (fun z hz => zF8 z (nDp hz)) hS
  have zkb := kpS_b hD hE (ru := ru) (cs := cs) (sr := kd) (n := n) (s := q) ha0
  have zkl := kpS_le hD hE (ru := ru) (cs := cs) (sr := kd) (n := n) (s := q) hn1 ha0
  refine j_istore (L' := [_, _, _, _, _, _]) hc dX11_eats_9 (Nat.le_of_ble_eq_true rfl) rfl ?_
  refine j_iload_n hc dX11_eats_11 rfl ?_
  refine j_iconst hc dX11_eats_12 ?_
  refine j_icmp_ne (tgt := 31) hc dX11_eats_13 (by decide) ⟨by omega, by omega⟩ ⟨by omega, by omega⟩ (fun zc1 => ?_) (fun zc1 => ?_)
  · refine j_aload_n hc dX11_eats_31 rfl ?_
    refine j_get hc dX11_eats_32 fX11_19 zm8.1 rfl ?_
    refine j_aload_n hc dX11_eats_35 rfl ?_
    refine j_get hc dX11_eats_36 fX11_278 zm8.1 rfl ?_
    rw [hl]
    refine j_iald hc dX11_eats_39 zm8.2.2.2.2.1 (by omega) (by omega) ?_
    rw [mNe]
    refine j_iload hc dX11_eats_40 rfl ?_
    refine j_iload hc dX11_eats_42 rfl ?_
    refine j_isub hc dX11_eats_44 ?_
    refine j_mmin hc dX11_eats_45 mX11_169 mo_min ⟨by omega, by omega⟩ ⟨by omega, by omega⟩ (by omega) (by omega) rfl (by omega) (Nat.le_of_ble_eq_true rfl) ?_
    exact j_iret hc he dX11_eats_48 rfl (by omega) (by omega) ⟨_, rfl, by unfold eaS; rw [if_neg (by omega), Int.min_comm], ⟨_, _, _, _, zX8⟩, zF8⟩
  · have zse := ((zX8.2.2.2.2.2 kd n q a (by omega) (by omega) hn1 hn hs0 hs1 ha0 ha1).2 (zk8 (by omega) (by omega))).2.2 zc1
    refine j_aload_n hc dX11_eats_16 rfl ?_
    refine j_get hc dX11_eats_17 fX11_84 zm8.1 rfl ?_
    refine j_iload_n hc dX11_eats_20 rfl ?_
    refine j_iload_n hc dX11_eats_21 rfl ?_
    refine j_iload hc dX11_eats_22 rfl ?_
    refine j_callS (d' := d - 1) hc dX11_eats_24 sX11_291 (ev_X11_state (by omega)) rfl (by omega) (by omega) (by omega) rfl rfl (Nat.le_of_ble_eq_true rfl) (ret1 ?_)
    refine j_iald hc dX11_eats_27 zX8.2.2.1 (by omega) (by omega) ?_
    refine j_goto (tgt := 48) hc dX11_eats_28 (by decide) ?_
    exact j_iret hc he dX11_eats_48 rfl (by omega) (by omega) ⟨_, rfl, by rw [zse]; unfold eaS; rw [if_pos (by omega), show kd = 3 by omega], ⟨_, _, _, _, zX8⟩, zF8⟩
theorem prS_min {D : LaS} {e : Int} (h : 0 ≤ e) : prS D (min e (lNe D)) = prS D e := by
  unfold prS
  by_cases q : e < lNe D
  · rw [show min e (lNe D : Int) = e by omega]
  · rw [if_neg (by omega), if_neg (by omega)]
set_option maxRecDepth 100000 in
set_option maxHeartbeats 4000000 in
theorem ev_X11_priceOf {k : WC} {s : Int → Int} {A : MAs} {l : Int} {D : LaS} {E : LaY} {ru : RU} {cs : Int} {d : Nat} {h : AH} {kd n q a : Int} {kp ke se be : Int → Int} (hK : KeC k s A D E ru cs n 180) (hd : 195 ≤ d) (hS : MdS h s A) (hM : MlD A l D E) (hD : LOK D) (hE : YOK E) (hl : s 37 = l) (hcs : s 38 = cs) (hcs0 : 0 ≤ cs) (hcs1 : cs ≤ 30) (hX : MmX h D E ru cs kp ke se be) (hk0 : 0 ≤ kd) (hk1 : kd ≤ 4) (hn1 : 1 ≤ n) (hn : n ≤ 12) (hs0 : 0 ≤ q) (hs1 : q < lSe D) (ha0 : 0 ≤ a) (ha1 : a ≤ 40)  : Ev k d mdX11_priceOf h [vR (70, 0), vI kd, vI n, vI q, vI a] 0 0 (KvPo D E ru cs (vI (poS D kd (a - kpS D E ru cs kd n q a))) h) := by
  obtain ⟨⟨zl0, zl1⟩, mSe, mNe, mPa, mCo, mMi, mRo, mLa, mRn, mHv, mBu, mSl, mGr, mTb⟩ := id hM
  obtain ⟨d1, d2, d3, d4, d5, d6, d7, d8, d9, d10, d11, d12, d13⟩ := id hD
  obtain ⟨y1, y2, y3, y4, y5, y6, y7, y8, y9, y10⟩ := id hE
  have zkb := kpS_b hD hE (ru := ru) (cs := cs) (sr := kd) (n := n) (s := q) ha0
  have zkl := kpS_le hD hE (ru := ru) (cs := cs) (sr := kd) (n := n) (s := q) hn1 ha0
  refine Ev.mk (by decide +kernel) [_, _, _, _, _, _] rfl (Nat.le_of_ble_eq_true rfl) (fun w hc he => ?_)
  refine j_aload_n hc dX11_priceOf_0 rfl ?_
  refine j_iload_n hc dX11_priceOf_1 rfl ?_
  refine j_iload_n hc dX11_priceOf_2 rfl ?_
  refine j_iload_n hc dX11_priceOf_3 rfl ?_
  refine j_iload hc dX11_priceOf_4 rfl ?_
  refine j_callV (d' := d - 1) hc dX11_priceOf_6 vX11_335 hS.1 (ev_X11_eats hK (by omega) hS hM hD hE hl hcs hcs0 hcs1 hX hk0 hk1 hn1 hn hs0 hs1 ha0 ha1) rfl (by omega) (by omega) (by omega) rfl rfl (Nat.le_of_ble_eq_true rfl) (retE fun zv6 zq6 zp6 => ?_)
  obtain ⟨zv8, ⟨kp8, ke8, se8, be8, zX8⟩, zF8⟩ := zp6
  subst zv8
  have zm8 := MdS.fr (fun z hz => zF8 z (nDp hz)) hS
  have zeb := eaS_b hD (sr := kd) (e := a - kpS D E ru cs kd n q a) (by omega)
  refine j_istore (L' := [_, _, _, _, _, _]) hc dX11_priceOf_9 (Nat.le_of_ble_eq_true rfl) rfl ?_
  refine j_iload_n hc dX11_priceOf_11 rfl ?_
  refine j_iconst hc dX11_priceOf_12 ?_
  refine j_icmp_eq (tgt := 29) hc dX11_priceOf_13 (by decide) ⟨by omega, by omega⟩ ⟨by omega, by omega⟩ (fun zc1 => ?_) (fun zc1 => ?_)
  · refine j_iload hc dX11_priceOf_29 rfl ?_
    refine j_if_ne (b := 0) (tgt := 39) hc dX11_priceOf_31 (by decide) ⟨by omega, by omega⟩ (fun zc2 => ?_) (fun zc2 => ?_)
    · have zsb := saS_b hD (a - kpS D E ru cs kd n q a)
      have zea : eaS D kd (a - kpS D E ru cs kd n q a) = saS D (a - kpS D E ru cs kd n q a) := by unfold eaS; rw [if_pos (by omega)]
      refine j_aload_n hc dX11_priceOf_39 rfl ?_
      refine j_get hc dX11_priceOf_40 fX11_16 zm8.1 rfl ?_
      refine j_sipush hc dX11_priceOf_43 (by decide) ?_
      refine j_aload_n hc dX11_priceOf_46 rfl ?_
      refine j_get hc dX11_priceOf_47 fX11_278 zm8.1 rfl ?_
      rw [hl]
      refine j_imul hc dX11_priceOf_50 ?_
      refine j_iload hc dX11_priceOf_51 rfl ?_
      refine j_iadd hc dX11_priceOf_53 ?_
      refine j_iconst hc dX11_priceOf_54 ?_
      refine j_isub hc dX11_priceOf_55 ?_
      refine j_iald hc dX11_priceOf_56 zm8.2.2.2.1 (by omega) (by omega) ?_
      rw [show 180 * l + eaS D kd (a - kpS D E ru cs kd n q a) - 1 = 180 * l + (eaS D kd (a - kpS D E ru cs kd n q a) - 1) by omega, mPa _ (by omega) (by omega)]
      exact j_iret hc he dX11_priceOf_57 rfl (by omega) (by omega) ⟨_, rfl, by unfold poS psS; rw [if_pos (by omega), if_pos (by omega), ← zea], ⟨_, _, _, _, zX8⟩, zF8⟩
    · have zea : eaS D kd (a - kpS D E ru cs kd n q a) = saS D (a - kpS D E ru cs kd n q a) := by unfold eaS; rw [if_pos (by omega)]
      refine j_bipush hc dX11_priceOf_34 (by decide) ?_
      refine j_goto (tgt := 57) hc dX11_priceOf_36 (by decide) ?_
      exact j_iret hc he dX11_priceOf_57 rfl (by omega) (by omega) ⟨_, rfl, by unfold poS psS; rw [if_pos (by omega), if_neg (by omega)], ⟨_, _, _, _, zX8⟩, zF8⟩
  · refine j_aload_n hc dX11_priceOf_16 rfl ?_
    refine j_aload_n hc dX11_priceOf_17 rfl ?_
    refine j_get hc dX11_priceOf_18 fX11_278 zm8.1 rfl ?_
    rw [hl]
    refine j_iload hc dX11_priceOf_21 rfl ?_
    refine j_callV (d' := d - 1) hc dX11_priceOf_23 vX11_269 zm8.1 (ev_X11_priceAt (by omega) zm8 hM hD hE (by omega) (by omega)) rfl (by omega) (by omega) (by omega) rfl rfl (Nat.le_of_ble_eq_true rfl) (ret1 ?_)
    refine j_goto (tgt := 57) hc dX11_priceOf_26 (by decide) ?_
    exact j_iret hc he dX11_priceOf_57 rfl (by omega) (by omega) ⟨_, rfl, by unfold poS eaS; rw [if_neg (by omega), if_neg (by omega), prS_min (by omega)], ⟨_, _, _, _, zX8⟩, zF8⟩
def FaC (k : WC) (s : Int → Int) (A : MAs) (D : LaS) (E : LaY) (ru : RU) (cs n : Int) (c : Nat) : Prop := ∀ (d : Nat) (h : AH) (kd q a : Int), c ≤ d → MdS h s A → MoM h D E ru cs → 0 ≤ kd → kd ≤ 4 → 0 ≤ q → q < lSe D → 0 ≤ a → a ≤ 40 → Ev k d mdX11_fare h [vR (70, 0), vI kd, vI n, vI q, vI a] 0 0 (pe fun v h' => v = vL (weN D E ru cs kd (n - 1).toNat q a) ∧ MoM h' D E ru cs ∧ Fr isDf h h')
set_option maxRecDepth 100000 in
set_option maxHeartbeats 4000000 in
theorem lp_X11_fare {k : WC} {s : Int → Int} {A : MAs} {l : Int} {D : LaS} {E : LaY} {ru : RU} {cs : Int} {d : Nat} {w : MC} {h : AH} {kd n q a : Int} {c : Nat} (IH : n ≠ 1 → FaC k s A D E ru cs (n - 1) c) (hd : c + 4 ≤ d) (hd2 : 200 ≤ d) (hM : MlD A l D E) (hD : LOK D) (hE : YOK E) (hl : s 37 = l) (hcs : s 38 = cs) (hcs0 : 0 ≤ cs) (hcs1 : cs ≤ 30) (hk0 : 0 ≤ kd) (hk1 : kd ≤ 4) (hn1 : 1 ≤ n) (hn : n ≤ 12) (hs0 : 0 ≤ q) (hs1 : q < lSe D) (ha0 : 0 ≤ a) (ha1 : a ≤ 40) (hc : Cx w k d 0 0 mdX11_fare) (he : Ends w 0 0 (pe fun v h' => v = vL (weN D E ru cs kd (n - 1).toNat q a) ∧ MoM h' D E ru cs ∧ Fr isDf h h')) : ∀ (zm : Nat) (i : Nat) (c : Int) (h' : AH), 4 - i = zm → (i : Int) ≤ lHv D (nxS D q) → c = (goS D (eaS D kd (a - kpS D E ru cs kd n q a)) - cs * kpS D E ru cs kd n q a) * beN D (n - 1).toNat q + (if n > 1 then suF (stG D (fun x => weN D E ru cs kd (n - 2).toNat (nxS D q) (x - ceS (n - 1) (nxS D q))) (n - 1) (nxS D q) (leS D (kpS D E ru cs kd n q a))) i else 0) → MdS h' s A → MoM h' D E ru cs → Fr isDf h h' → J w 0 0 89 [some (vR (70, 0)), some (vI kd), some (vI n), some (vI q), some (vI a), some (vI (kIx kd n q a)), some (vI (kpS D E ru cs kd n q a)), some (vL c), none, some (vI (nxS D q)), some (vI i)] [] h' := by
  obtain ⟨⟨zl0, zl1⟩, mSe, mNe, mPa, mCo, mMi, mRo, mLa, mRn, mHv, mBu, mSl, mGr, mTb⟩ := id hM
  obtain ⟨d1, d2, d3, d4, d5, d6, d7, d8, d9, d10, d11, d12, d13⟩ := id hD
  obtain ⟨y1, y2, y3, y4, y5, y6, y7, y8, y9, y10⟩ := id hE
  have zn := nxS_b hD hs0
  obtain ⟨zh1, zh2, zh3, zh4, zh5, zh6⟩ := d13 (nxS D q) zn.1 zn.2
  have zkb := kpS_b hD hE (ru := ru) (cs := cs) (sr := kd) (n := n) (s := q) ha0
  have zlf := leS_b hD (k := kpS D E ru cs kd n q a) zkb.1
  intro zm
  induction zm using Nat.strongRecOn with
  | _ zm ih =>
    intro i c h' hm hi hcc hS hMM hfr
    refine j_iload hc dX11_fare_89 rfl ?_
    refine j_aload_n hc dX11_fare_91 rfl ?_
    refine j_iload hc dX11_fare_92 rfl ?_
    refine j_callV (d' := d - 1) hc dX11_fare_94 vX11_310 hS.1 (ev_X11_harvests (by omega) hS hM hD hE hl (by omega) (by omega)) rfl (by omega) (by omega) (by omega) rfl rfl (Nat.le_of_ble_eq_true rfl) (ret1 ?_)
    refine j_icmp_ge (tgt := 155) hc dX11_fare_97 (by decide) ⟨by omega, by omega⟩ ⟨by omega, by omega⟩ (fun zc1 => ?_) (fun zc1 => ?_)
    · obtain ⟨zMx, ff, fv, zff⟩ := id hMM
      have zix := kIx_b (kd := kd) (n := n) (q := q) (a := a) hk0 hk1 hn1 hn hs0 (by omega) ha0 ha1
      have zfin : c = weN D E ru cs kd (n - 1).toNat q a := by
        rw [hcc, ← weV_we hD hE (vf := (fun x => weN D E ru cs kd (n - 2).toNat (nxS D q) (x - ceS (n - 1) (nxS D q)))) hn1 hs0 ha0 (fun z b b0 b1 => by rw [show ceS (n - 1) (nxS D q) + b - ceS (n - 1) (nxS D q) = b by omega])]
        unfold weV
        rw [Int.mul_comm (beN D (n - 1).toNat q)]
        congr 1
        by_cases z1 : n > 1
        · rw [if_pos z1, if_pos z1, show (lHv D (nxS D q)).toNat = i by omega]
        · rw [if_neg z1, if_neg z1]
      refine j_aload_n hc dX11_fare_155 rfl ?_
      refine j_get hc dX11_fare_156 fX11_93 hS.1 rfl ?_
      refine j_iload hc dX11_fare_159 rfl ?_
      refine j_lload hc dX11_fare_161 rfl ?_
      refine j_last hc dX11_fare_163 zff.2.1 zix.1 zix.2 ?_
      generalize ezh1 : up _ _ _ = zh1
      have zzmod_zh1 := MdS.mv ezh1 (by simp) hS
      have zM35_zh1 := (congrFun ezh1 _).symm.trans ((up_ne (by simp)).trans zff.1)
      have zM36_zh1 := (congrFun ezh1 _).symm.trans (up_same _ _ _)
      refine j_aload_n hc dX11_fare_164 rfl ?_
      refine j_get hc dX11_fare_165 fX11_90 zzmod_zh1.1 rfl ?_
      refine j_iload hc dX11_fare_168 rfl ?_
      refine j_iconst hc dX11_fare_170 ?_
      refine j_zast hc dX11_fare_171 zM35_zh1 (by first | exact Or.inl rfl | exact Or.inr rfl) zix.1 zix.2 ?_
      generalize ezh2 : up _ _ _ = zh2
      have zzmod_zh2 := MdS.mv ezh2 (by simp) zzmod_zh1
      have zM35_zh2 := (congrFun ezh2 _).symm.trans (up_same _ _ _)
      have zM36_zh2 := (congrFun ezh2 _).symm.trans ((up_ne (by simp)).trans zM36_zh1)
      refine j_lload hc dX11_fare_172 rfl ?_
      exact j_lret hc he dX11_fare_174 rfl (by omega) (by omega) (by
        have zFr : Fr isDf h zh2 := by rw [← ezh2, ← ezh1]; exact (hfr.push (by decide)).push (by decide)
        have zq : ∀ z : Nm, z.1 ≤ 234 → zh2 z = h' z := fun z zz => by rw [← ezh2, ← ezh1, up_ne (fun e => by rw [e] at zz; simp at zz), up_ne (fun e => by rw [e] at zz; simp at zz)]
        obtain ⟨kp, ke, se, be, m1, m2, m3, m4, ⟨pf, m5⟩, m6⟩ := zMx
        exact ⟨_, rfl, by rw [zfin], ⟨⟨kp, ke, se, be, (zq _ (by decide)).trans m1, (zq _ (by decide)).trans m2, (zq _ (by decide)).trans m3, (zq _ (by decide)).trans m4, ⟨pf, (zq _ (by decide)).trans m5⟩, m6⟩, _, _, FmX.step hD zff.2.2 hn1 hn hs0 hs1 ha0 ha1 zfin zM35_zh2 zM36_zh2⟩, zFr⟩)
    · have zh := zh6 i (by omega) (by omega)
      rw [show 4 * nxS D q + (i : Int) = nxS D q * 4 + i by omega] at zh
      refine j_iload_n hc dX11_fare_100 rfl ?_
      refine j_iconst hc dX11_fare_101 ?_
      refine j_icmp_le (tgt := 155) hc dX11_fare_102 (by decide) ⟨by omega, by omega⟩ ⟨by omega, by omega⟩ (fun zc2 => ?_) (fun zc2 => ?_)
      · obtain ⟨zMx, ff, fv, zff⟩ := id hMM
        have zix := kIx_b (kd := kd) (n := n) (q := q) (a := a) hk0 hk1 hn1 hn hs0 (by omega) ha0 ha1
        have zfin : c = weN D E ru cs kd (n - 1).toNat q a := by
          rw [hcc, ← weV_we hD hE (vf := (fun x => weN D E ru cs kd (n - 2).toNat (nxS D q) (x - ceS (n - 1) (nxS D q)))) hn1 hs0 ha0 (fun z b b0 b1 => by rw [show ceS (n - 1) (nxS D q) + b - ceS (n - 1) (nxS D q) = b by omega])]
          unfold weV
          rw [Int.mul_comm (beN D (n - 1).toNat q)]
          congr 1
          by_cases z1 : n > 1
          · rw [if_pos z1, if_pos z1, show (lHv D (nxS D q)).toNat = i by omega]
          · rw [if_neg z1, if_neg z1]
        refine j_aload_n hc dX11_fare_155 rfl ?_
        refine j_get hc dX11_fare_156 fX11_93 hS.1 rfl ?_
        refine j_iload hc dX11_fare_159 rfl ?_
        refine j_lload hc dX11_fare_161 rfl ?_
        refine j_last hc dX11_fare_163 zff.2.1 zix.1 zix.2 ?_
        generalize ezh3 : up _ _ _ = zh3
        have zzmod_zh3 := MdS.mv ezh3 (by simp) hS
        have zM35_zh3 := (congrFun ezh3 _).symm.trans ((up_ne (by simp)).trans zff.1)
        have zM36_zh3 := (congrFun ezh3 _).symm.trans (up_same _ _ _)
        refine j_aload_n hc dX11_fare_164 rfl ?_
        refine j_get hc dX11_fare_165 fX11_90 zzmod_zh3.1 rfl ?_
        refine j_iload hc dX11_fare_168 rfl ?_
        refine j_iconst hc dX11_fare_170 ?_
        refine j_zast hc dX11_fare_171 zM35_zh3 (by first | exact Or.inl rfl | exact Or.inr rfl) zix.1 zix.2 ?_
        generalize ezh4 : up _ _ _ = zh4
        have zzmod_zh4 := MdS.mv ezh4 (by simp) zzmod_zh3
        have zM35_zh4 := (congrFun ezh4 _).symm.trans (up_same _ _ _)
        have zM36_zh4 := (congrFun ezh4 _).symm.trans ((up_ne (by simp)).trans zM36_zh3)
        refine j_lload hc dX11_fare_172 rfl ?_
        exact j_lret hc he dX11_fare_174 rfl (by omega) (by omega) (by
          have zFr : Fr isDf h zh4 := by rw [← ezh4, ← ezh3]; exact (hfr.push (by decide)).push (by decide)
          have zq : ∀ z : Nm, z.1 ≤ 234 → zh4 z = h' z := fun z zz => by rw [← ezh4, ← ezh3, up_ne (fun e => by rw [e] at zz; simp at zz), up_ne (fun e => by rw [e] at zz; simp at zz)]
          obtain ⟨kp, ke, se, be, m1, m2, m3, m4, ⟨pf, m5⟩, m6⟩ := zMx
          exact ⟨_, rfl, by rw [zfin], ⟨⟨kp, ke, se, be, (zq _ (by decide)).trans m1, (zq _ (by decide)).trans m2, (zq _ (by decide)).trans m3, (zq _ (by decide)).trans m4, ⟨pf, (zq _ (by decide)).trans m5⟩, m6⟩, _, _, FmX.step hD zff.2.2 hn1 hn hs0 hs1 ha0 ha1 zfin zM35_zh4 zM36_zh4⟩, zFr⟩)
      · refine j_lload hc dX11_fare_105 rfl ?_
        refine j_aload_n hc dX11_fare_107 rfl ?_
        refine j_iload hc dX11_fare_108 rfl ?_
        refine j_iload hc dX11_fare_110 rfl ?_
        refine j_callV (d' := d - 1) hc dX11_fare_112 vX11_316 hS.1 (ev_X11_weightIn (by omega) hS hM hD hE hl (by omega) (by omega) (by omega) (by omega)) rfl (by omega) (by omega) (by omega) rfl rfl (Nat.le_of_ble_eq_true rfl) (ret1 ?_)
        refine j_i2l hc dX11_fare_115 ⟨by omega, by omega⟩ ?_
        refine j_aload_n hc dX11_fare_116 rfl ?_
        refine j_iload_n hc dX11_fare_117 rfl ?_
        refine j_iload_n hc dX11_fare_118 rfl ?_
        refine j_iconst hc dX11_fare_119 ?_
        refine j_isub hc dX11_fare_120 ?_
        refine j_iload hc dX11_fare_121 rfl ?_
        refine j_aload_n hc dX11_fare_123 rfl ?_
        refine j_aload_n hc dX11_fare_124 rfl ?_
        refine j_get hc dX11_fare_125 fX11_278 hS.1 rfl ?_
        rw [hl]
        refine j_iload hc dX11_fare_128 rfl ?_
        refine j_callV (d' := d - 1) hc dX11_fare_130 vX11_275 hS.1 (ev_X11_leftOf (by omega) hS hM hD hE (by omega) (by omega)) rfl (by omega) (by omega) (by omega) rfl rfl (Nat.le_of_ble_eq_true rfl) (ret1 ?_)
        refine j_aload_n hc dX11_fare_133 rfl ?_
        refine j_iload hc dX11_fare_134 rfl ?_
        refine j_iload hc dX11_fare_136 rfl ?_
        refine j_callVW (d' := d - 1) hc dX11_fare_138 vX11_313 hS.1 (ev_X11_sacksOf (by omega) hS hM hD hE hl (by omega) (by omega) (by omega) (by omega)) rfl (by omega) (by omega) (by omega) rfl rfl (Nat.le_of_ble_eq_true rfl) (ret1 ?_)
        refine j_iadd hc dX11_fare_141 ?_
        refine j_callV (d' := d - 1) hc dX11_fare_142 vX11_338 hS.1 (IH (by omega) (d - 1) _ kd (nxS D q) (leS D (kpS D E ru cs kd n q a) + lSk D (nxS D q * 4 + i)) (by omega) hS hMM hk0 hk1 zn.1 zn.2 (by omega) (by omega)) rfl (by omega) (by omega) (by omega) rfl rfl (Nat.le_of_ble_eq_true rfl) (retE fun zv142 zq142 zp142 => ?_)
        obtain ⟨zv8, zM8, zF8⟩ := zp142
        subst zv8
        have zm8 := MdS.fr (fun z hz => zF8 z (nDf hz)) hS
        refine j_lmul hc dX11_fare_145 ?_
        refine j_ladd hc dX11_fare_146 ?_
        refine j_lstore (L' := [_, _, _, _, _, _, _, _, _, _, _]) hc dX11_fare_147 (Nat.le_of_ble_eq_true rfl) rfl ?_
        refine j_iinc (L' := [_, _, _, _, _, _, _, _, _, _, _]) hc dX11_fare_149 rfl (Nat.le_of_ble_eq_true rfl) rfl ?_
        refine j_goto (tgt := 89) hc dX11_fare_152 (by decide) ?_
        exact ih _ (by omega) (i + 1) _ _ rfl (by omega) (by
          rw [hcc, if_pos (by omega), if_pos (by omega)]
          simp only [suF]
          rw [Int.add_assoc]
          congr 2
          unfold stG
          try dsimp only
          rw [show ceS (n - 1) (nxS D q) + leS D (kpS D E ru cs kd n q a) + lSk D (nxS D q * 4 + i) - ceS (n - 1) (nxS D q) = leS D (kpS D E ru cs kd n q a) + lSk D (nxS D q * 4 + i) by omega, show (n - 1 - 1).toNat = (n - 2).toNat by omega]) zm8 zM8 (hfr.tr zF8)
set_option maxRecDepth 100000 in
set_option maxHeartbeats 4000000 in
theorem fare_step {k : WC} {s : Int → Int} {A : MAs} {l : Int} {D : LaS} {E : LaY} {ru : RU} {cs : Int} {n : Int} {c : Nat} (hK : KeC k s A D E ru cs n 180) (hM : MlD A l D E) (hD : LOK D) (hE : YOK E) (hl : s 37 = l) (hcs : s 38 = cs) (hcs0 : 0 ≤ cs) (hcs1 : cs ≤ 30) (hn1 : 1 ≤ n) (hn : n ≤ 12) (hc0 : 200 ≤ c) (IH : n ≠ 1 → FaC k s A D E ru cs (n - 1) c) : FaC k s A D E ru cs n (c + 5) := by
  obtain ⟨⟨zl0, zl1⟩, mSe, mNe, mPa, mCo, mMi, mRo, mLa, mRn, mHv, mBu, mSl, mGr, mTb⟩ := id hM
  obtain ⟨d1, d2, d3, d4, d5, d6, d7, d8, d9, d10, d11, d12, d13⟩ := id hD
  obtain ⟨y1, y2, y3, y4, y5, y6, y7, y8, y9, y10⟩ := id hE
  intro d h kd q a hd hS hMM hk0 hk1 hs0 hs1 ha0 ha1
  have hd : c + 4 ≤ d := by omega
  have hd2 : 200 ≤ d := by omega
  have zn := nxS_b hD hs0
  obtain ⟨zh1, zh2, zh3, zh4, zh5, zh6⟩ := d13 (nxS D q) zn.1 zn.2
  have zkb := kpS_b hD hE (ru := ru) (cs := cs) (sr := kd) (n := n) (s := q) ha0
  have zkl := kpS_le hD hE (ru := ru) (cs := cs) (sr := kd) (n := n) (s := q) hn1 ha0
  obtain ⟨⟨kp, ke, se, be, zMx⟩, ff, fv, zff⟩ := id hMM
  refine Ev.mk (by decide +kernel) [_, _, _, _, _, _, _, _, _, _, _] rfl (Nat.le_of_ble_eq_true rfl) (fun w hc he => ?_)
  refine j_iload_n hc dX11_fare_0 rfl ?_
  refine j_sipush hc dX11_fare_1 (by decide) ?_
  refine j_imul hc dX11_fare_4 ?_
  refine j_iload_n hc dX11_fare_5 rfl ?_
  refine j_iload_n hc dX11_fare_6 rfl ?_
  refine j_iload hc dX11_fare_7 rfl ?_
  refine j_callS (d' := d - 1) hc dX11_fare_9 sX11_291 (ev_X11_state (by omega)) rfl (by omega) (by omega) (by omega) rfl rfl (Nat.le_of_ble_eq_true rfl) (ret1 ?_)
  refine j_iadd hc dX11_fare_12 ?_
  refine j_istore (L' := [_, _, _, _, _, _, _, _, _, _, _]) hc dX11_fare_13 (Nat.le_of_ble_eq_true rfl) rfl ?_
  rw [show kd * 2132 + ((n * 4 + q) * 41 + a) = kIx kd n q a from rfl]
  obtain ⟨zp01, zpE⟩ := zff.2.2 kd n q a hk0 hk1 hn1 hn hs0 hs1 ha0 ha1
  have zix := kIx_b (kd := kd) (n := n) (q := q) (a := a) hk0 hk1 hn1 hn hs0 (by omega) ha0 ha1
  refine j_aload_n hc dX11_fare_15 rfl ?_
  refine j_get hc dX11_fare_16 fX11_90 hS.1 rfl ?_
  refine j_iload hc dX11_fare_19 rfl ?_
  refine j_zald hc dX11_fare_21 zff.1 zix.1 zix.2 ?_
  refine j_if_eq (b := 0) (tgt := 33) hc dX11_fare_22 (by decide) (by rcases zp01 with z | z <;> (rw [z]; exact ⟨by omega, by omega⟩)) (fun zc1 => ?_) (fun zc1 => ?_)
  · refine j_aload_n hc dX11_fare_33 rfl ?_
    refine j_iload_n hc dX11_fare_34 rfl ?_
    refine j_iload_n hc dX11_fare_35 rfl ?_
    refine j_iload_n hc dX11_fare_36 rfl ?_
    refine j_iload hc dX11_fare_37 rfl ?_
    refine j_callV (d' := d - 1) hc dX11_fare_39 vX11_319 hS.1 (hK (d - 1) _ kd q a _ _ _ _ (by omega) hS zMx hk0 hk1 hs0 hs1 ha0 ha1) rfl (by omega) (by omega) (by omega) rfl rfl (Nat.le_of_ble_eq_true rfl) (retE fun zv39 zq39 zp39 => ?_)
    obtain ⟨zv8, ⟨kp8, ke8, se8, be8, zX8, zk8⟩, zF8⟩ := zp39
    subst zv8
    have zm8 := MdS.fr (fun z hz => zF8 z (nDp hz)) hS
    have zf8 := zff.fr zF8
    refine j_istore (L' := [_, _, _, _, _, _, _, _, _, _, _]) hc dX11_fare_42 (Nat.le_of_ble_eq_true rfl) rfl ?_
    refine j_aload_n hc dX11_fare_44 rfl ?_
    refine j_aload_n hc dX11_fare_45 rfl ?_
    refine j_get hc dX11_fare_46 fX11_278 zm8.1 rfl ?_
    rw [hl]
    refine j_aload_n hc dX11_fare_49 rfl ?_
    refine j_iload_n hc dX11_fare_50 rfl ?_
    refine j_iload_n hc dX11_fare_51 rfl ?_
    refine j_iload_n hc dX11_fare_52 rfl ?_
    refine j_iload hc dX11_fare_53 rfl ?_
    refine j_callV (d' := d - 1) hc dX11_fare_55 vX11_335 zm8.1 (ev_X11_eats hK (by omega) zm8 hM hD hE hl hcs hcs0 hcs1 zX8 hk0 hk1 hn1 hn hs0 hs1 ha0 ha1) rfl (by omega) (by omega) (by omega) rfl rfl (Nat.le_of_ble_eq_true rfl) (retE fun zv55 zq55 zp55 => ?_)
    obtain ⟨zv9, ⟨kp9, ke9, se9, be9, zX9⟩, zF9⟩ := zp55
    subst zv9
    have zm9 := MdS.fr (fun z hz => zF9 z (nDp hz)) zm8
    have zf9 := zf8.fr zF9
    have zeb := eaS_b hD (sr := kd) (e := a - kpS D E ru cs kd n q a) (by omega)
    have zgo := goS_b hD (e := eaS D kd (a - kpS D E ru cs kd n q a)) (by omega)
    have zck := mul_b hcs0 hcs1 zkb.1 zkb.2
    refine j_callV (d' := d - 1) hc dX11_fare_58 vX11_262 zm9.1 (ev_X11_goods (by omega) zm9 hM hD hE (by omega) (by omega)) rfl (by omega) (by omega) (by omega) rfl rfl (Nat.le_of_ble_eq_true rfl) (ret1 ?_)
    refine j_aload_n hc dX11_fare_61 rfl ?_
    refine j_get hc dX11_fare_62 fX11_281 zm9.1 rfl ?_
    rw [hcs]
    refine j_iload hc dX11_fare_65 rfl ?_
    refine j_imul hc dX11_fare_67 ?_
    refine j_isub hc dX11_fare_68 ?_
    refine j_i2l hc dX11_fare_69 ⟨by omega, by omega⟩ ?_
    refine j_aload_n hc dX11_fare_70 rfl ?_
    refine j_iload_n hc dX11_fare_71 rfl ?_
    refine j_iload_n hc dX11_fare_72 rfl ?_
    refine j_callV (d' := d - 1) hc dX11_fare_73 vX11_287 zm9.1 (ev_X11_belowOf zm9 hM hD hE hl (n - 1).toNat (d - 1) n q (by omega) (by omega) (by omega) hs0 hs1) rfl (by omega) (by omega) (by omega) rfl rfl (Nat.le_of_ble_eq_true rfl) (ret1 ?_)
    refine j_lmul hc dX11_fare_76 ?_
    refine j_lstore (L' := [_, _, _, _, _, _, _, _, _, _, _]) hc dX11_fare_77 (Nat.le_of_ble_eq_true rfl) rfl ?_
    refine j_aload_n hc dX11_fare_79 rfl ?_
    refine j_iload_n hc dX11_fare_80 rfl ?_
    refine j_callV (d' := d - 1) hc dX11_fare_81 vX11_284 zm9.1 (ev_X11_after (by omega) zm9 hM hD hE hl (by omega) (by omega)) rfl (by omega) (by omega) (by omega) rfl rfl (Nat.le_of_ble_eq_true rfl) (ret1 ?_)
    refine j_istore (L' := [_, _, _, _, _, _, _, _, _, _, _]) hc dX11_fare_84 (Nat.le_of_ble_eq_true rfl) rfl ?_
    refine j_iconst hc dX11_fare_86 ?_
    refine j_istore (L' := [_, _, _, _, _, _, _, _, _, _, _]) hc dX11_fare_87 (Nat.le_of_ble_eq_true rfl) rfl ?_
    exact lp_X11_fare IH hd hd2 hM hD hE hl hcs hcs0 hcs1 hk0 hk1 hn1 hn hs0 hs1 ha0 ha1 hc he _ 0 _ _ rfl (by omega) (by split <;> simp [suF]) zm9 ⟨⟨_, _, _, _, zX9⟩, _, _, zf9⟩ ((zF8.tr zF9).mono fun z zz => ⟨zz.1, by omega⟩)
  · refine j_aload_n hc dX11_fare_25 rfl ?_
    refine j_get hc dX11_fare_26 fX11_93 hS.1 rfl ?_
    refine j_iload hc dX11_fare_29 rfl ?_
    refine j_lald hc dX11_fare_31 zff.2.1 zix.1 zix.2 ?_
    exact j_lret hc he dX11_fare_32 rfl (by omega) (by omega) ⟨_, rfl, by rw [zpE (by rcases zp01 with z | z; (· exact absurd z (by assumption)); exact z)], hMM, Fr.rf _ _⟩
theorem fare_all {k : WC} {s : Int → Int} {A : MAs} {l : Int} {D : LaS} {E : LaY} {ru : RU} {cs : Int} (hW : RuC k s A E ru) (hM : MlD A l D E) (hD : LOK D) (hE : YOK E) (hl : s 37 = l) (hcs : s 38 = cs) (hcs0 : 0 ≤ cs) (hcs1 : cs ≤ 30) : ∀ m : Nat, m ≤ 11 → FaC k s A D E ru cs (m + 1) (5 * m + 205)
  | 0, hm => fare_step (c := 200) (kept_at hW hM hD hE hl hcs hcs0 hcs1 (by omega) (by omega)) hM hD hE hl hcs hcs0 hcs1 (by omega) (by omega) (by omega) (fun z => absurd (by omega) z)
  | m + 1, hm => by
    have h := fare_all hW hM hD hE hl hcs hcs0 hcs1 m (by omega)
    have h2 := fare_step (c := 5 * m + 205) (n := ((m + 1 : Nat) : Int) + 1) (kept_at hW hM hD hE hl hcs hcs0 hcs1 (by omega) (by omega)) hM hD hE hl hcs hcs0 hcs1 (by omega) (by omega) (by omega) (fun _ => by rw [show ((m + 1 : Nat) : Int) + 1 - 1 = (m : Int) + 1 by omega]; exact h)
    rw [show 5 * (m + 1) + 205 = 5 * m + 205 + 5 by omega]
    exact h2
theorem fare_at {k : WC} {s : Int → Int} {A : MAs} {l : Int} {D : LaS} {E : LaY} {ru : RU} {cs : Int} {n : Int} (hW : RuC k s A E ru) (hM : MlD A l D E) (hD : LOK D) (hE : YOK E) (hl : s 37 = l) (hcs : s 38 = cs) (hcs0 : 0 ≤ cs) (hcs1 : cs ≤ 30) (hn1 : 1 ≤ n) (hn : n ≤ 12) : FaC k s A D E ru cs n 270 := by
  have h := fare_all hW hM hD hE hl hcs hcs0 hcs1 (n - 1).toNat (by omega)
  rw [show (((n - 1).toNat : Nat) : Int) + 1 = n by omega] at h
  exact fun d h' kd q a hd => h d h' kd q a (by omega)
