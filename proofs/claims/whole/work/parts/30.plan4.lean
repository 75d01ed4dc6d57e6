/-! ===== welfareAt, keepsAlikeWithOneMore, bestIfTold, a new plan ===== -/
set_option maxRecDepth 100000 in
set_option maxHeartbeats 4000000 in
theorem ev_X2_welfareAt {k : WC} {d : Nat} {h : AH} {l : Int} {D : LaS} {E : LaY} {pl : Int → Option Nm} {i sr cs : Int} {ru : RU} {wf : Option Nm} {gn : Nm} {kf lf wl : Int → Int} {n s a : Int} (hd : 6 ≤ d) (hL : LandAt h l D E pl) (hD : LOK D) (hE : YOK E) (zp50 : h (50, i) = some (oO 2 (pF i l sr cs wf gn))) (zp51 : h (51, i) = some (oI ((lSe D).toNat * 492) kf)) (hW : PlanW h i D E ru sr cs wf wl lf) (zp55 : h (55, i) = some (oI 4 wl)) (hkl : ∀ n' : Int, 1 ≤ n' → n' ≤ n → ∀ a : Int, 0 ≤ a → a ≤ 40 → kf (ceS n' (bkN D (n' - 1).toNat (laN D (n - 1).toNat s)) + a) = kpS D E ru cs sr n' (bkN D (n' - 1).toNat (laN D (n - 1).toNat s)) a) (hl12 : ∀ t : Int, 0 ≤ t → t < lSe D → lf t ≤ 12) (hnl : n ≤ lf (laN D (n - 1).toNat s)) (hn1 : 1 ≤ n) (hn : n ≤ 12) (hs0 : 0 ≤ s) (hs1 : s < lSe D) (hcs0 : 0 ≤ cs) (hcs1 : cs ≤ 30) (hsr0 : 0 ≤ sr) (hsr1 : sr ≤ 4) (ha0 : 0 ≤ a) (ha1 : a ≤ 40) : Ev k d mdX2_welfareAt h [vR (50, i), vI n, vI s, vI a] 1 1968 (pe fun v h' => v = vL (weN D E ru cs sr (n - 1).toNat s a) ∧ ∃ vf' wl' : Int → Int, h' (50, i) = some (oO 2 (pF i l sr cs (some (53, i)) gn)) ∧ h' (53, i) = some (oL ((lSe D).toNat * 492) vf') ∧ h' (55, i) = some (oI 4 wl') ∧ WlV D E ru cs sr vf' wl' lf ∧ Fr (fun z => z = (50, i) ∨ z = (53, i) ∨ z = (55, i)) h h') := by
  have zla := laN_b hD (n - 1).toNat hs0 hs1
  have zci := ceS_in (D := D) hs0 hs1 hn1 hn ha0 ha1
  refine Ev.mk (by decide +kernel) [_, _, _, _] rfl (Nat.le_of_ble_eq_true rfl) (fun w hc he => ?_)
  refine j_aload_n hc dX2_welfareAt_0 rfl ?_
  refine j_iload_n hc dX2_welfareAt_1 rfl ?_
  refine j_iload_n hc dX2_welfareAt_2 rfl ?_
  refine j_callV (d' := d - 1) hc dX2_welfareAt_3 vX2_96 zp50 (ev_X2_fillWelfareTo (by omega) hL hD hE zp50 zp51 hW zp55 hkl hl12 hnl hn1 hn hs0 hs1 hcs0 hcs1 hsr0 hsr1) rfl (by omega) (by omega) (by omega) rfl rfl (Nat.le_of_ble_eq_true rfl) (retN fun zq3 zp3 => ?_)
  obtain ⟨zvf, zwl, z50, z53, z55, zVV, znw, zFF⟩ := zp3
  have zval := (zVV _ zla.1 zla.2).2.2 n hn1 znw a ha0 ha1
  rw [bk_la hD _ hs0 hs1] at zval
  refine j_aload_n hc dX2_welfareAt_6 rfl ?_
  refine j_get hc dX2_welfareAt_7 fX2_99 z50 rfl ?_
  refine j_iload_n hc dX2_welfareAt_10 rfl ?_
  refine j_iload_n hc dX2_welfareAt_11 rfl ?_
  refine j_callS (d' := d - 1) hc dX2_welfareAt_12 sX2_81 (ev_X2_cellOf (by omega)) rfl (by omega) (by omega) (by omega) rfl rfl (Nat.le_of_ble_eq_true rfl) (ret1 ?_)
  refine j_iload_n hc dX2_welfareAt_15 rfl ?_
  refine j_iadd hc dX2_welfareAt_16 ?_
  refine j_lald hc dX2_welfareAt_17 z53 (by omega) (by omega) ?_
  exact j_lret hc he dX2_welfareAt_18 rfl (by omega) (by omega) ⟨_, rfl, by rw [zval], zvf, zwl, z50, z53, z55, zVV, zFF⟩
def alS (D : LaS) (E : LaY) (ru : RU) (cs sr n : Int) : Prop := ∀ s a : Int, 0 ≤ s → s < lSe D → 0 ≤ a → a ≤ 40 → kpS D E ru cs sr n s a = kpS D E ru cs sr (n + 1) s a
theorem PlV.row {D : LaS} {E : LaY} {ru : RU} {cs sr : Int} {kf bf lf : Int → Int} (hD : LOK D) (h : PlV D E ru cs sr kf bf lf) {n s a : Int} (hn1 : 1 ≤ n) (hs0 : 0 ≤ s) (hs1 : s < lSe D) (hl : n ≤ lf (laN D (n - 1).toNat s)) (ha0 : 0 ≤ a) (ha1 : a ≤ 40) : kf (ceS n s + a) = kpS D E ru cs sr n s a ∧ (sr = 2 ∨ sr = 3 → bf (ceS n s + a) = bpS D E cs sr n s a) := by
  have zla := laN_b hD (n - 1).toNat hs0 hs1
  have := (h.2 _ zla.1 zla.2).2.2 n hn1 hl a ha0 ha1
  rw [bk_la hD _ hs0 hs1] at this
  exact this
set_option maxRecDepth 100000 in
set_option maxHeartbeats 4000000 in
theorem lp_X2_alike2 {k : WC} {d : Nat} {w : MC} {h : AH} {l : Int} {D : LaS} {E : LaY} {i sr cs : Int} {ru : RU} {wf : Option Nm} {kf bf lf wl : Int → Int} {n s : Int} {Po : Option AV → AH → Prop} (hd : 6 ≤ d) (hD : LOK D) (hn1 : 1 ≤ n) (hn : n ≤ 11) (hs0 : 0 ≤ s) (hs1 : s < lSe D) (hP : PlanAt h i l D E ru sr cs wf kf bf lf wl) (hl1 : n ≤ lf (laN D (n - 1).toNat s)) (hl2 : n + 1 ≤ lf (laN D n.toNat s)) (hno : ∀ a : Int, 0 ≤ a → a ≤ 40 → kpS D E ru cs sr n s a ≠ kpS D E ru cs sr (n + 1) s a → Po (some (vI 0)) h) (hc : Cx w k d 0 0 mdX2_keepsAlikeWithOneMore) (he : Ends w 0 0 (Po)) (kont : (∀ a : Int, 0 ≤ a → a ≤ 40 → kpS D E ru cs sr n s a = kpS D E ru cs sr (n + 1) s a) → ∀ z3 z4 z5 : Option AV, J w 0 0 82 [some (vR (50, i)), some (vI n), some (vI s), z3, z4, z5] [] h) : ∀ (zm : Nat) (a : Int), (41 - a).toNat = zm → 0 ≤ a → a ≤ 41 → (∀ b : Int, 0 ≤ b → b < a → kpS D E ru cs sr n s b = kpS D E ru cs sr (n + 1) s b) → J w 0 0 45 [some (vR (50, i)), some (vI n), some (vI s), some (vI (ceS n s)), some (vI (ceS (n + 1) s)), some (vI a)] [] h := by
  obtain ⟨zp50, zp51, zp52, zp54, zp55, ⟨zaf, zp56⟩, zV⟩ := id hP
  intro zm
  induction zm using Nat.strongRecOn with
  | _ zm ih =>
    intro a hm ha0 ha1 hq
    refine j_iload hc dX2_keepsAlikeWithOneMore_45 rfl ?_
    refine j_bipush hc dX2_keepsAlikeWithOneMore_47 (by decide) ?_
    refine j_icmp_gt (tgt := 82) hc dX2_keepsAlikeWithOneMore_49 (by decide) ⟨by omega, by omega⟩ ⟨by omega, by omega⟩ (fun zc1 => ?_) (fun zc1 => ?_)
    · exact kont (fun b z0 z1 => hq b z0 (by omega)) _ _ _
    · have zc1_ := ceS_in (D := D) (n := n) hs0 hs1 hn1 (by omega) ha0 (by omega)
      have zc2_ := ceS_in (D := D) (n := n + 1) hs0 hs1 (by omega) (by omega) ha0 (by omega)
      have zr1 := (zV.row hD hn1 hs0 hs1 hl1 ha0 (by omega)).1
      have zr2 := (zV.row hD (n := n + 1) (by omega) hs0 hs1 (by rw [show n + 1 - 1 = n by omega]; exact hl2) ha0 (by omega)).1
      have zb1 := zV.1 _ zc1_.1 zc1_.2
      have zb2 := zV.1 _ zc2_.1 zc2_.2
      refine j_aload_n hc dX2_keepsAlikeWithOneMore_52 rfl ?_
      refine j_get hc dX2_keepsAlikeWithOneMore_53 fX2_28 zp50 rfl ?_
      refine j_iload_n hc dX2_keepsAlikeWithOneMore_56 rfl ?_
      refine j_iload hc dX2_keepsAlikeWithOneMore_57 rfl ?_
      refine j_iadd hc dX2_keepsAlikeWithOneMore_59 ?_
      refine j_iald hc dX2_keepsAlikeWithOneMore_60 zp51 (by omega) (by omega) ?_
      refine j_aload_n hc dX2_keepsAlikeWithOneMore_61 rfl ?_
      refine j_get hc dX2_keepsAlikeWithOneMore_62 fX2_28 zp50 rfl ?_
      refine j_iload hc dX2_keepsAlikeWithOneMore_65 rfl ?_
      refine j_iload hc dX2_keepsAlikeWithOneMore_67 rfl ?_
      refine j_iadd hc dX2_keepsAlikeWithOneMore_69 ?_
      refine j_iald hc dX2_keepsAlikeWithOneMore_70 zp51 (by omega) (by omega) ?_
      refine j_icmp_eq (tgt := 76) hc dX2_keepsAlikeWithOneMore_71 (by decide) ⟨by omega, by omega⟩ ⟨by omega, by omega⟩ (fun zc2 => ?_) (fun zc2 => ?_)
      · refine j_iinc (L' := [_, _, _, _, _, _]) hc dX2_keepsAlikeWithOneMore_76 rfl (Nat.le_of_ble_eq_true rfl) rfl ?_
        refine j_goto (tgt := 45) hc dX2_keepsAlikeWithOneMore_79 (by decide) ?_
        exact ih _ (by omega) (a + 1) rfl (by omega) (by omega) (fun b z0 z1 => by
          by_cases ze : b = a
          · rw [ze, ← zr1, ← zr2]; assumption
          · exact hq b z0 (by omega))
      · refine j_iconst hc dX2_keepsAlikeWithOneMore_74 ?_
        exact j_zret hc he dX2_keepsAlikeWithOneMore_75 rfl (by omega) (by omega) (by first | exact Or.inl rfl | exact Or.inr rfl) (hno a ha0 (by omega) (by rw [← zr1, ← zr2]; assumption))
set_option maxRecDepth 100000 in
set_option maxHeartbeats 4000000 in
theorem lp_X2_alike1 {k : WC} {d : Nat} {w : MC} {h : AH} {l : Int} {D : LaS} {E : LaY} {pl : Int → Option Nm} {i sr cs : Int} {ru : RU} {wf : Option Nm} {lf wl : Int → Int} {n : Int} (hd : 6 ≤ d) (hD : LOK D) (hE : YOK E) (hn1 : 1 ≤ n) (hn : n ≤ 11) (hcs0 : 0 ≤ cs) (hcs1 : cs ≤ 30) (hsr0 : 0 ≤ sr) (hsr1 : sr ≤ 4)  (hc : Cx w k d 0 0 mdX2_keepsAlikeWithOneMore) (he : Ends w 0 0 (pe fun v h' => ((v = vI 1 ∧ alS D E ru cs sr n) ∨ (v = vI 0 ∧ ¬ alS D E ru cs sr n)) ∧ ∃ kf' bf' lf' : Int → Int, PlanAt h' i l D E ru sr cs wf kf' bf' lf' wl ∧ (∀ t : Int, 0 ≤ t → t < lSe D → lf t ≤ lf' t) ∧ RuOK h' E ru ∧ Fr (fun z => isPl i z ∨ isOwn E z) h h')) : ∀ (zm : Nat) (s : Int) (h' : AH) (kf' bf' lf' : Int → Int) (z3 z4 z5 : Option AV), (lSe D - s).toNat = zm → 0 ≤ s → s ≤ lSe D → LandAt h' l D E pl → PlanAt h' i l D E ru sr cs wf kf' bf' lf' wl → RuOK h' E ru → (∀ t : Int, 0 ≤ t → t < lSe D → lf t ≤ lf' t) → Fr (fun z => isPl i z ∨ isOwn E z) h h' → (∀ s' a : Int, 0 ≤ s' → s' < s → 0 ≤ a → a ≤ 40 → kpS D E ru cs sr n s' a = kpS D E ru cs sr (n + 1) s' a) → J w 0 0 2 [some (vR (50, i)), some (vI n), some (vI s), z3, z4, z5] [] h' := by
  intro zm
  induction zm using Nat.strongRecOn with
  | _ zm ih =>
    intro s h' kf' bf' lf' z3 z4 z5 hm hs0 hs1' hL hP hR hmo hfr hq
    have d2 := hD.2.1
    refine j_iload_n hc dX2_keepsAlikeWithOneMore_2 rfl ?_
    refine j_aload_n hc dX2_keepsAlikeWithOneMore_3 rfl ?_
    refine j_get hc dX2_keepsAlikeWithOneMore_4 fX2_9 hP.1 rfl ?_
    refine j_get hc dX2_keepsAlikeWithOneMore_7 fX2_25 hL.1 rfl ?_
    refine j_icmp_ge (tgt := 88) hc dX2_keepsAlikeWithOneMore_10 (by decide) ⟨by omega, by omega⟩ ⟨by omega, by omega⟩ (fun zc1 => ?_) (fun zc1 => ?_)
    · refine j_iconst hc dX2_keepsAlikeWithOneMore_88 ?_
      exact j_zret hc he dX2_keepsAlikeWithOneMore_89 rfl (by omega) (by omega) (by first | exact Or.inl rfl | exact Or.inr rfl) ⟨_, rfl, Or.inl ⟨rfl, fun s' a z0 z1 a0 a1 => hq s' a z0 (by omega) a0 a1⟩, kf', bf', lf', hP, hmo, hR, hfr⟩
    · have hs1 : s < lSe D := by omega
      refine j_aload_n hc dX2_keepsAlikeWithOneMore_13 rfl ?_
      refine j_iload_n hc dX2_keepsAlikeWithOneMore_14 rfl ?_
      refine j_iload_n hc dX2_keepsAlikeWithOneMore_15 rfl ?_
      refine j_callV (d' := d - 1) hc dX2_keepsAlikeWithOneMore_16 vX2_102 hP.1 (ev_X2_reckonTo (by omega) hL hD hE hP hR hn1 (by omega) hs0 hs1 hcs0 hcs1 hsr0 hsr1) rfl (by omega) (by omega) (by omega) rfl rfl (Nat.le_of_ble_eq_true rfl) (retN fun zq16 zp16 => ?_)
      obtain ⟨zk1, zb1, zf1, zP1, zn1, zm1, zR1, zF1⟩ := zp16
      have zL1 := LandAt.fr (fun j z0 z1 => zF1 (j, l) (fun zz => by rcases zz with zz | zz; (rcases zz with zz | zz | zz | zz <;> simp at zz <;> omega); (have := isOwn_lo zz; simp at this; omega))) hL
      refine j_aload_n hc dX2_keepsAlikeWithOneMore_19 rfl ?_
      refine j_iload_n hc dX2_keepsAlikeWithOneMore_20 rfl ?_
      refine j_iconst hc dX2_keepsAlikeWithOneMore_21 ?_
      refine j_iadd hc dX2_keepsAlikeWithOneMore_22 ?_
      refine j_iload_n hc dX2_keepsAlikeWithOneMore_23 rfl ?_
      refine j_callV (d' := d - 1) hc dX2_keepsAlikeWithOneMore_24 vX2_102 zP1.1 (ev_X2_reckonTo (by omega) zL1 hD hE zP1 zR1 (by omega) (by omega) hs0 hs1 hcs0 hcs1 hsr0 hsr1) rfl (by omega) (by omega) (by omega) rfl rfl (Nat.le_of_ble_eq_true rfl) (retN fun zq24 zp24 => ?_)
      obtain ⟨zk2, zb2, zf2, zP2, zn2, zm2, zR2, zF2⟩ := zp24
      have zL2 := LandAt.fr (fun j z0 z1 => zF2 (j, l) (fun zz => by rcases zz with zz | zz; (rcases zz with zz | zz | zz | zz <;> simp at zz <;> omega); (have := isOwn_lo zz; simp at this; omega))) zL1
      have zla1 := laN_b hD (n - 1).toNat hs0 hs1
      have zne1 : n ≤ zf2 (laN D (n - 1).toNat s) := by have := zm2 _ zla1.1 zla1.2; omega
      have zne2 : n + 1 ≤ zf2 (laN D n.toNat s) := by rw [show (n + 1 - 1).toNat = n.toNat by omega] at zn2; exact zn2
      have zmm : ∀ t : Int, 0 ≤ t → t < lSe D → lf t ≤ zf2 t := fun t z0 z1 => by have z2 := hmo t z0 z1; have z3 := zm1 t z0 z1; have z4 := zm2 t z0 z1; omega
      refine j_iload_n hc dX2_keepsAlikeWithOneMore_27 rfl ?_
      refine j_iload_n hc dX2_keepsAlikeWithOneMore_28 rfl ?_
      refine j_callS (d' := d - 1) hc dX2_keepsAlikeWithOneMore_29 sX2_81 (ev_X2_cellOf (by omega)) rfl (by omega) (by omega) (by omega) rfl rfl (Nat.le_of_ble_eq_true rfl) (ret1 ?_)
      refine j_istore_n (L' := [_, _, _, _, _, _]) hc dX2_keepsAlikeWithOneMore_32 (Nat.le_of_ble_eq_true rfl) rfl ?_
      refine j_iload_n hc dX2_keepsAlikeWithOneMore_33 rfl ?_
      refine j_iconst hc dX2_keepsAlikeWithOneMore_34 ?_
      refine j_iadd hc dX2_keepsAlikeWithOneMore_35 ?_
      refine j_iload_n hc dX2_keepsAlikeWithOneMore_36 rfl ?_
      refine j_callS (d' := d - 1) hc dX2_keepsAlikeWithOneMore_37 sX2_81 (ev_X2_cellOf (by omega)) rfl (by omega) (by omega) (by omega) rfl rfl (Nat.le_of_ble_eq_true rfl) (ret1 ?_)
      refine j_istore (L' := [_, _, _, _, _, _]) hc dX2_keepsAlikeWithOneMore_40 (Nat.le_of_ble_eq_true rfl) rfl ?_
      refine j_iconst hc dX2_keepsAlikeWithOneMore_42 ?_
      refine j_istore (L' := [_, _, _, _, _, _]) hc dX2_keepsAlikeWithOneMore_43 (Nat.le_of_ble_eq_true rfl) rfl ?_
      refine lp_X2_alike2 hd hD hn1 hn hs0 hs1 zP2 zne1 zne2 (fun a a0 a1 zz => ⟨_, rfl, Or.inr ⟨rfl, fun zal => zz (zal s a hs0 hs1 a0 a1)⟩, zk2, zb2, zf2, zP2, zmm, zR2, (hfr.tr zF1).tr zF2⟩) hc he (fun zal z3 z4 z5 => ?_) _ 0 rfl (by omega) (by omega) (fun b z0 z1 => by omega)
      refine j_iinc (L' := [_, _, _, _, _, _]) hc dX2_keepsAlikeWithOneMore_82 rfl (Nat.le_of_ble_eq_true rfl) rfl ?_
      refine j_goto (tgt := 2) hc dX2_keepsAlikeWithOneMore_85 (by decide) ?_
      exact ih _ (by omega) (s + 1) _ zk2 zb2 zf2 _ _ _ rfl (by omega) (by omega) zL2 zP2 zR2 zmm ((hfr.tr zF1).tr zF2) (fun s' a z0 z1 a0 a1 => by
        by_cases ze : s' = s
        · rw [ze]; exact zal a a0 a1
        · exact hq s' a z0 (by omega) a0 a1)
set_option maxRecDepth 100000 in
set_option maxHeartbeats 4000000 in
theorem ev_X2_keepsAlikeWithOneMore {k : WC} {d : Nat} {h : AH} {l : Int} {D : LaS} {E : LaY} {pl : Int → Option Nm} {i sr cs : Int} {ru : RU} {wf : Option Nm} {kf bf lf wl : Int → Int} {n : Int} (hd : 6 ≤ d) (hL : LandAt h l D E pl) (hD : LOK D) (hE : YOK E) (hP : PlanAt h i l D E ru sr cs wf kf bf lf wl) (hR : RuOK h E ru) (hn1 : 1 ≤ n) (hn : n ≤ 11) (hcs0 : 0 ≤ cs) (hcs1 : cs ≤ 30) (hsr0 : 0 ≤ sr) (hsr1 : sr ≤ 4)  : Ev k d mdX2_keepsAlikeWithOneMore h [vR (50, i), vI n] 0 0 (pe fun v h' => ((v = vI 1 ∧ alS D E ru cs sr n) ∨ (v = vI 0 ∧ ¬ alS D E ru cs sr n)) ∧ ∃ kf' bf' lf' : Int → Int, PlanAt h' i l D E ru sr cs wf kf' bf' lf' wl ∧ (∀ t : Int, 0 ≤ t → t < lSe D → lf t ≤ lf' t) ∧ RuOK h' E ru ∧ Fr (fun z => isPl i z ∨ isOwn E z) h h') := by
  have d1 := hD.1
  refine Ev.mk (by decide +kernel) [_, _, _, _, _, _] rfl (Nat.le_of_ble_eq_true rfl) (fun w hc he => ?_)
  refine j_iconst hc dX2_keepsAlikeWithOneMore_0 ?_
  refine j_istore_n (L' := [_, _, _, _, _, _]) hc dX2_keepsAlikeWithOneMore_1 (Nat.le_of_ble_eq_true rfl) rfl ?_
  exact lp_X2_alike1 hd hD hE hn1 hn hcs0 hcs1 hsr0 hsr1 hc he _ 0 h kf bf lf _ _ _ rfl (by omega) (by omega) hL hP hR (fun _ _ _ => Int.le_refl _) (Fr.rf _ _) (fun s' a z0 z1 => by omega)
def ntV (D : LaS) (cs : Int) (gf bf : Int → Int) (n s a : Int) (j : Nat) (k : Nat) : Int := beN D (n - 2).toNat (nxS D s) * (gf (a - k) - cs * k) + bf (ceS (n - 1) (nxS D s) + leS D k + lSk D (nxS D s * 4 + j))
def ntS (D : LaS) (E : LaY) (cs : Int) (gf bf : Int → Int) (n s a : Int) : Int := suF (fun j => lWt D (nxS D s * 4 + j) * (mxN (ntV D cs gf bf n s a j) (min a (moS D E)).toNat).1) (lHv D (nxS D s)).toNat
theorem mxN_max {v : Nat → Int} (m : Nat) : (mxN v (m + 1)).1 = max (mxN v m).1 (v (m + 1)) := by
  simp only [mxN]
  split
  · show v (m + 1) = _; omega
  · omega
theorem leS_0 (D : LaS) : leS D 0 = 0 := by unfold leS; split <;> simp
theorem ntV_b {D : LaS} (hD : LOK D) {cs : Int} {gf bf : Int → Int} {n s a : Int} {j k : Nat} (hcs0 : 0 ≤ cs) (hcs1 : cs ≤ 30) (hn1 : 2 ≤ n) (hn : n ≤ 12) (hs0 : 0 ≤ s) (hj : (j : Int) < lHv D (nxS D s)) (hk : (k : Int) ≤ 20) (hka : (k : Int) ≤ a) (ha : a ≤ 40)
    (hg : ∀ b : Int, 0 ≤ b → b ≤ 40 → 0 ≤ gf b ∧ gf b ≤ 17820) (hb : ∀ b : Int, 0 ≤ b → b ≤ 40 → 0 ≤ bf (ceS (n - 1) (nxS D s) + b) ∧ bf (ceS (n - 1) (nxS D s) + b) ≤ 158884909987921920) : -445805022412800 ≤ ntV D cs gf bf n s a j k ∧ ntV D cs gf bf n s a j k ≤ 172125319153582080 := by
  have zn := nxS_b hD hs0
  have zl := leS_b hD (k := k) (by omega)
  have h1 := beN_b11 hD (m := (n - 2).toNat) (by omega) zn.1
  obtain ⟨hv1, hv2, -, -, -, hv3⟩ := hD.2.2.2.2.2.2.2.2.2.2.2.2 (nxS D s) zn.1 zn.2
  obtain ⟨zk1, zk2, -, -⟩ := hv3 j (by omega) (by omega)
  rw [show 4 * nxS D s + (j : Int) = nxS D s * 4 + j by omega] at zk1 zk2
  have h2 := hg (a - k) (by omega) (by omega)
  have h3 := mul_b hcs0 hcs1 (y := (k : Int)) (by omega) hk
  have h4 := hb (leS D k + lSk D (nxS D s * 4 + j)) (by omega) (by omega)
  rw [show ceS (n - 1) (nxS D s) + (leS D k + lSk D (nxS D s * 4 + j)) = ceS (n - 1) (nxS D s) + leS D k + lSk D (nxS D s * 4 + j) by omega] at h4
  have h5 : beN D (n - 2).toNat (nxS D s) * (gf (a - k) - cs * k) ≤ beN D (n - 2).toNat (nxS D s) * 17820 := Int.mul_le_mul_of_nonneg_left (by omega) (by omega)
  have h6 : beN D (n - 2).toNat (nxS D s) * (-600) ≤ beN D (n - 2).toNat (nxS D s) * (gf (a - k) - cs * k) := Int.mul_le_mul_of_nonneg_left (by omega) (by omega)
  unfold ntV
  omega
set_option maxRecDepth 100000 in
set_option maxHeartbeats 4000000 in
theorem lp_X2_told2 {k : WC} {d : Nat} {w : MC} {h : AH} {l : Int} {D : LaS} {E : LaY} {pl : Int → Option Nm} {i sr cs : Int} {wf : Option Nm} {gn : Nm} {gf bf : Int → Int} {gl : Nat} {n s a : Int} {sm : Int} {j : Nat} (hd : 3 ≤ d) (hL : LandAt h l D E pl) (hD : LOK D) (hE : YOK E) (zp50 : h (50, i) = some (oO 2 (pF i l sr cs wf gn))) (zp52 : h (52, i) = some (oL ((lSe D).toNat * 492) bf)) (zpg : h gn = some (oI gl gf)) (hgl : 41 ≤ gl) (hgf : ∀ b : Int, 0 ≤ b → b ≤ 40 → 0 ≤ gf b ∧ gf b ≤ 17820) (hbb : ∀ b : Int, 0 ≤ b → b ≤ 40 → 0 ≤ bf (ceS (n - 1) (nxS D s) + b) ∧ bf (ceS (n - 1) (nxS D s) + b) ≤ 158884909987921920) (hn1 : 2 ≤ n) (hn : n ≤ 12) (hs0 : 0 ≤ s) (hs1 : s < lSe D) (hcs0 : 0 ≤ cs) (hcs1 : cs ≤ 30) (ha0 : 0 ≤ a) (ha1 : a ≤ 40) (hj : (j : Int) < lHv D (nxS D s)) (hc : Cx w k d 0 0 mdX2_bestIfTold) (kont : ∀ z15 z16 z17 : Option AV, J w 0 0 185 [some (vR (50, i)), some (vI n), some (vI s), some (vI a), some (vI (nxS D s)), some (vI (ceS (n - 1) (nxS D s))), some (vL (beN D (n - 2).toNat (nxS D s))), none, some (vI (min a (moS D E))), some (vL sm), none, some (vI j), some (vI (nxS D s * 4 + j)), some (vL (mxN (ntV D cs gf bf n s a j) (min a (moS D E)).toNat).1), none, z15, z16, z17] [] h) : ∀ (zm : Nat) (m : Nat) (tp : Int) (z16 z17 : Option AV), (min a (moS D E)).toNat - m = zm → m ≤ min a (moS D E) → tp = (mxN (ntV D cs gf bf n s a j) m).1 → J w 0 0 111 [some (vR (50, i)), some (vI n), some (vI s), some (vI a), some (vI (nxS D s)), some (vI (ceS (n - 1) (nxS D s))), some (vL (beN D (n - 2).toNat (nxS D s))), none, some (vI (min a (moS D E))), some (vL sm), none, some (vI j), some (vI (nxS D s * 4 + j)), some (vL tp), none, some (vI ((m : Int) + 1)), z16, z17] [] h := by
  obtain ⟨g30, g31, g32, g33, g34, g35, g36, ⟨f37, g37, q37⟩, ⟨f38, g38, q38⟩, ⟨f39, g39, q39⟩, g40⟩ := id hL
  obtain ⟨d1, d2, d3, d4, d5, d6, d7, d8, d9, d10, d11, d12, d13⟩ := id hD
  have zmo := moS_b hD hE
  have zn := nxS_b hD hs0
  have zT := beN_b11 hD (m := (n - 2).toNat) (by omega) zn.1
  obtain ⟨hv1, hv2, -, -, -, hv3⟩ := d13 (nxS D s) zn.1 zn.2
  have zce : ceS (n - 1) (nxS D s) = (nxS D s * 12 + (n - 1) - 1) * 41 := rfl
  obtain ⟨zk1, zk2, zk3, zk4⟩ := hv3 j (by omega) (by omega)
  rw [show 4 * nxS D s + (j : Int) = nxS D s * 4 + j by omega] at zk1 zk2 zk3 zk4
  intro zm
  induction zm using Nat.strongRecOn with
  | _ zm ih =>
    intro m tp z16 z17 hm hk hr
    have zmx := mxN_in (v := ntV D cs gf bf n s a j) (lo := -445805022412800) (hi := 172125319153582080) m (fun q hq => ntV_b hD hcs0 hcs1 hn1 hn hs0 hj (by omega) (by omega) ha1 hgf hbb)
    rw [← hr] at zmx
    refine j_iload hc dX2_bestIfTold_111 rfl ?_
    refine j_iload hc dX2_bestIfTold_113 rfl ?_
    refine j_icmp_gt (tgt := 185) hc dX2_bestIfTold_115 (by decide) ⟨by omega, by omega⟩ ⟨by omega, by omega⟩ (fun zc1 => ?_) (fun zc1 => ?_)
    · rw [show (min a (moS D E)).toNat = m by omega, ← hr] at kont
      exact kont _ _ _
    · have zg1 := hgf (a - ((m : Int) + 1)) (by omega) (by omega)
      have zcm := mul_b hcs0 hcs1 (y := (m : Int) + 1) (by omega) (show (m : Int) + 1 ≤ 20 by omega)
      have zlk := leS_b hD (k := (m : Int) + 1) (by omega)
      have zvb := ntV_b hD (j := j) (k := m + 1) hcs0 hcs1 hn1 hn hs0 hj (by omega) (by omega) ha1 hgf hbb
      refine j_lload hc dX2_bestIfTold_118 rfl ?_
      refine j_aload_n hc dX2_bestIfTold_120 rfl ?_
      refine j_get hc dX2_bestIfTold_121 fX2_42 zp50 rfl ?_
      refine j_iload_n hc dX2_bestIfTold_124 rfl ?_
      refine j_iload hc dX2_bestIfTold_125 rfl ?_
      refine j_isub hc dX2_bestIfTold_127 ?_
      refine j_iald hc dX2_bestIfTold_128 zpg (by omega) (by omega) ?_
      refine j_aload_n hc dX2_bestIfTold_129 rfl ?_
      refine j_get hc dX2_bestIfTold_130 fX2_24 zp50 rfl ?_
      refine j_iload hc dX2_bestIfTold_133 rfl ?_
      refine j_imul hc dX2_bestIfTold_135 ?_
      refine j_isub hc dX2_bestIfTold_136 ?_
      refine j_i2l hc dX2_bestIfTold_137 ⟨by omega, by omega⟩ ?_
      refine j_lmul hc dX2_bestIfTold_138 ?_
      refine j_lstore (L' := [_, _, _, _, _, _, _, _, _, _, _, _, _, _, _, _, _, _]) hc dX2_bestIfTold_139 (Nat.le_of_ble_eq_true rfl) rfl ?_
      refine j_lload hc dX2_bestIfTold_141 rfl ?_
      refine j_lload hc dX2_bestIfTold_143 rfl ?_
      refine j_aload_n hc dX2_bestIfTold_145 rfl ?_
      refine j_get hc dX2_bestIfTold_146 fX2_32 zp50 rfl ?_
      refine j_iload hc dX2_bestIfTold_149 rfl ?_
      refine j_aload_n hc dX2_bestIfTold_151 rfl ?_
      refine j_get hc dX2_bestIfTold_152 fX2_9 zp50 rfl ?_
      refine j_iload hc dX2_bestIfTold_155 rfl ?_
      refine j_callV (d' := d - 1) hc dX2_bestIfTold_157 vX2_127 hL.1 (ev_X0_leftOf (by omega) hL hD (by omega) (by omega)) rfl (by omega) (by omega) (by omega) rfl rfl (Nat.le_of_ble_eq_true rfl) (ret1 ?_)
      refine j_iadd hc dX2_bestIfTold_160 ?_
      refine j_aload_n hc dX2_bestIfTold_161 rfl ?_
      refine j_get hc dX2_bestIfTold_162 fX2_9 zp50 rfl ?_
      refine j_get hc dX2_bestIfTold_165 fX2_124 hL.1 rfl ?_
      refine j_iload hc dX2_bestIfTold_168 rfl ?_
      refine j_iald hc dX2_bestIfTold_170 hL.2.2.2.1 (by omega) (by omega) ?_
      refine j_iadd hc dX2_bestIfTold_171 ?_
      refine j_lald hc dX2_bestIfTold_172 zp52 (by omega) (by omega) ?_
      refine j_ladd hc dX2_bestIfTold_173 ?_
      have zv : beN D (n - 2).toNat (nxS D s) * (gf (a - ((m : Int) + 1)) - cs * ((m : Int) + 1)) + bf (ceS (n - 1) (nxS D s) + leS D ((m : Int) + 1) + lSk D (nxS D s * 4 + j)) = ntV D cs gf bf n s a j (m + 1) := rfl
      rw [zv]
      refine j_mmaxL hc dX2_bestIfTold_174 mX2_130 mo_maxL ⟨by omega, by omega⟩ ⟨by omega, by omega⟩ (by omega) (by omega) rfl (by omega) (Nat.le_of_ble_eq_true rfl) ?_
      refine j_lstore (L' := [_, _, _, _, _, _, _, _, _, _, _, _, _, _, _, _, _, _]) hc dX2_bestIfTold_177 (Nat.le_of_ble_eq_true rfl) rfl ?_
      refine j_iinc (L' := [_, _, _, _, _, _, _, _, _, _, _, _, _, _, _, _, _, _]) hc dX2_bestIfTold_179 rfl (Nat.le_of_ble_eq_true rfl) rfl ?_
      refine j_goto (tgt := 111) hc dX2_bestIfTold_182 (by decide) ?_
      exact ih _ (by omega) (m + 1) _ _ _ rfl (by omega) (by rw [mxN_max, ← hr])
set_option maxRecDepth 100000 in
set_option maxHeartbeats 4000000 in
theorem lp_X2_told1 {k : WC} {d : Nat} {w : MC} {h : AH} {l : Int} {D : LaS} {E : LaY} {pl : Int → Option Nm} {i sr cs : Int} {wf : Option Nm} {gn : Nm} {gf bf : Int → Int} {gl : Nat} {n s a : Int} (hd : 3 ≤ d) (hL : LandAt h l D E pl) (hD : LOK D) (hE : YOK E) (zp50 : h (50, i) = some (oO 2 (pF i l sr cs wf gn))) (zp52 : h (52, i) = some (oL ((lSe D).toNat * 492) bf)) (zpg : h gn = some (oI gl gf)) (hgl : 41 ≤ gl) (hgf : ∀ b : Int, 0 ≤ b → b ≤ 40 → 0 ≤ gf b ∧ gf b ≤ 17820) (hbb : ∀ b : Int, 0 ≤ b → b ≤ 40 → 0 ≤ bf (ceS (n - 1) (nxS D s) + b) ∧ bf (ceS (n - 1) (nxS D s) + b) ≤ 158884909987921920) (hn1 : 2 ≤ n) (hn : n ≤ 12) (hs0 : 0 ≤ s) (hs1 : s < lSe D) (hcs0 : 0 ≤ cs) (hcs1 : cs ≤ 30) (ha0 : 0 ≤ a) (ha1 : a ≤ 40) (hc : Cx w k d 0 0 mdX2_bestIfTold) (he : Ends w 0 0 (pr (vL (ntS D E cs gf bf n s a)) h)) : ∀ (zm : Nat) (j : Nat) (sm : Int) (z12 z13 z14 z15 z16 z17 : Option AV), (lHv D (nxS D s)).toNat - j = zm → j ≤ lHv D (nxS D s) → sm = suF (fun j => lWt D (nxS D s * 4 + j) * (mxN (ntV D cs gf bf n s a j) (min a (moS D E)).toNat).1) j → J w 0 0 53 [some (vR (50, i)), some (vI n), some (vI s), some (vI a), some (vI (nxS D s)), some (vI (ceS (n - 1) (nxS D s))), some (vL (beN D (n - 2).toNat (nxS D s))), none, some (vI (min a (moS D E))), some (vL sm), none, some (vI j), z12, z13, z14, z15, z16, z17] [] h := by
  obtain ⟨g30, g31, g32, g33, g34, g35, g36, ⟨f37, g37, q37⟩, ⟨f38, g38, q38⟩, ⟨f39, g39, q39⟩, g40⟩ := id hL
  obtain ⟨d1, d2, d3, d4, d5, d6, d7, d8, d9, d10, d11, d12, d13⟩ := id hD
  have zmo := moS_b hD hE
  have zn := nxS_b hD hs0
  have zT := beN_b11 hD (m := (n - 2).toNat) (by omega) zn.1
  obtain ⟨hv1, hv2, -, -, -, hv3⟩ := d13 (nxS D s) zn.1 zn.2
  have zce : ceS (n - 1) (nxS D s) = (nxS D s * 12 + (n - 1) - 1) * 41 := rfl
  intro zm
  induction zm using Nat.strongRecOn with
  | _ zm ih =>
    intro j sm z12 z13 z14 z15 z16 z17 hm hj hsm
    refine j_iload hc dX2_bestIfTold_53 rfl ?_
    refine j_aload_n hc dX2_bestIfTold_55 rfl ?_
    refine j_get hc dX2_bestIfTold_56 fX2_9 zp50 rfl ?_
    refine j_get hc dX2_bestIfTold_59 fX2_121 hL.1 rfl ?_
    refine j_iload hc dX2_bestIfTold_62 rfl ?_
    refine j_iald hc dX2_bestIfTold_64 hL.2.2.1 (by omega) (by omega) ?_
    refine j_icmp_ge (tgt := 210) hc dX2_bestIfTold_65 (by decide) ⟨by omega, by omega⟩ ⟨by omega, by omega⟩ (fun zc1 => ?_) (fun zc1 => ?_)
    · refine j_lload hc dX2_bestIfTold_210 rfl ?_
      exact j_lret hc he dX2_bestIfTold_212 rfl (by omega) (by omega) ⟨vL_eq (by rw [hsm]; unfold ntS; congr 1; omega), rfl⟩
    · obtain ⟨zk1, zk2, zk3, zk4⟩ := hv3 j (by omega) (by omega)
      rw [show 4 * nxS D s + (j : Int) = nxS D s * 4 + j by omega] at zk1 zk2 zk3 zk4
      have zg0 := hgf a ha0 ha1
      refine j_iload hc dX2_bestIfTold_68 rfl ?_
      refine j_iconst hc dX2_bestIfTold_70 ?_
      refine j_imul hc dX2_bestIfTold_71 ?_
      refine j_iload hc dX2_bestIfTold_72 rfl ?_
      refine j_iadd hc dX2_bestIfTold_74 ?_
      refine j_istore (L' := [_, _, _, _, _, _, _, _, _, _, _, _, _, _, _, _, _, _]) hc dX2_bestIfTold_75 (Nat.le_of_ble_eq_true rfl) rfl ?_
      refine j_lload hc dX2_bestIfTold_77 rfl ?_
      refine j_aload_n hc dX2_bestIfTold_79 rfl ?_
      refine j_get hc dX2_bestIfTold_80 fX2_42 zp50 rfl ?_
      refine j_iload_n hc dX2_bestIfTold_83 rfl ?_
      refine j_iald hc dX2_bestIfTold_84 zpg (by omega) (by omega) ?_
      refine j_i2l hc dX2_bestIfTold_85 ⟨by omega, by omega⟩ ?_
      refine j_lmul hc dX2_bestIfTold_86 ?_
      refine j_aload_n hc dX2_bestIfTold_87 rfl ?_
      refine j_get hc dX2_bestIfTold_88 fX2_32 zp50 rfl ?_
      refine j_iload hc dX2_bestIfTold_91 rfl ?_
      refine j_aload_n hc dX2_bestIfTold_93 rfl ?_
      refine j_get hc dX2_bestIfTold_94 fX2_9 zp50 rfl ?_
      refine j_get hc dX2_bestIfTold_97 fX2_124 hL.1 rfl ?_
      refine j_iload hc dX2_bestIfTold_100 rfl ?_
      refine j_iald hc dX2_bestIfTold_102 hL.2.2.2.1 (by omega) (by omega) ?_
      refine j_iadd hc dX2_bestIfTold_103 ?_
      refine j_lald hc dX2_bestIfTold_104 zp52 (by omega) (by omega) ?_
      refine j_ladd hc dX2_bestIfTold_105 ?_
      refine j_lstore (L' := [_, _, _, _, _, _, _, _, _, _, _, _, _, _, _, _, _, _]) hc dX2_bestIfTold_106 (Nat.le_of_ble_eq_true rfl) rfl ?_
      refine j_iconst hc dX2_bestIfTold_108 ?_
      refine j_istore (L' := [_, _, _, _, _, _, _, _, _, _, _, _, _, _, _, _, _, _]) hc dX2_bestIfTold_109 (Nat.le_of_ble_eq_true rfl) rfl ?_
      refine lp_X2_told2 (j := j) hd hL hD hE zp50 zp52 zpg hgl hgf hbb hn1 hn hs0 hs1 hcs0 hcs1 ha0 ha1 (by omega) hc (fun z15 z16 z17 => ?_) _ 0 _ _ _ rfl (by omega) (by simp only [mxN]; unfold ntV; simp [leS_0])
      refine j_lload hc dX2_bestIfTold_185 rfl ?_
      refine j_aload_n hc dX2_bestIfTold_187 rfl ?_
      refine j_get hc dX2_bestIfTold_188 fX2_9 zp50 rfl ?_
      refine j_get hc dX2_bestIfTold_191 fX2_134 hL.1 rfl ?_
      refine j_iload hc dX2_bestIfTold_194 rfl ?_
      refine j_iald hc dX2_bestIfTold_196 hL.2.2.2.2.1 (by omega) (by omega) ?_
      refine j_i2l hc dX2_bestIfTold_197 ⟨by omega, by omega⟩ ?_
      refine j_lload hc dX2_bestIfTold_198 rfl ?_
      refine j_lmul hc dX2_bestIfTold_200 ?_
      refine j_ladd hc dX2_bestIfTold_201 ?_
      refine j_lstore (L' := [_, _, _, _, _, _, _, _, _, _, _, _, _, _, _, _, _, _]) hc dX2_bestIfTold_202 (Nat.le_of_ble_eq_true rfl) rfl ?_
      refine j_iinc (L' := [_, _, _, _, _, _, _, _, _, _, _, _, _, _, _, _, _, _]) hc dX2_bestIfTold_204 rfl (Nat.le_of_ble_eq_true rfl) rfl ?_
      refine j_goto (tgt := 53) hc dX2_bestIfTold_207 (by decide) ?_
      exact ih _ (by omega) (j + 1) _ _ _ _ _ _ _ rfl (by omega) (by rw [hsm]; rfl)
set_option maxRecDepth 100000 in
set_option maxHeartbeats 4000000 in
theorem ev_X2_bestIfTold {k : WC} {d : Nat} {h : AH} {l : Int} {D : LaS} {E : LaY} {pl : Int → Option Nm} {i sr cs : Int} {wf : Option Nm} {gn : Nm} {gf bf : Int → Int} {gl : Nat} {n s a : Int} (hd : 3 ≤ d) (hL : LandAt h l D E pl) (hD : LOK D) (hE : YOK E) (zp50 : h (50, i) = some (oO 2 (pF i l sr cs wf gn))) (zp52 : h (52, i) = some (oL ((lSe D).toNat * 492) bf)) (zpg : h gn = some (oI gl gf)) (hgl : 41 ≤ gl) (hgf : ∀ b : Int, 0 ≤ b → b ≤ 40 → 0 ≤ gf b ∧ gf b ≤ 17820) (hbb : ∀ b : Int, 0 ≤ b → b ≤ 40 → 0 ≤ bf (ceS (n - 1) (nxS D s) + b) ∧ bf (ceS (n - 1) (nxS D s) + b) ≤ 158884909987921920) (hn1 : 2 ≤ n) (hn : n ≤ 12) (hs0 : 0 ≤ s) (hs1 : s < lSe D) (hcs0 : 0 ≤ cs) (hcs1 : cs ≤ 30) (ha0 : 0 ≤ a) (ha1 : a ≤ 40) : Ev k d mdX2_bestIfTold h [vR (50, i), vI n, vI s, vI a] 0 0 (pr (vL (ntS D E cs gf bf n s a)) h) := by
  obtain ⟨g30, g31, g32, g33, g34, g35, g36, ⟨f37, g37, q37⟩, ⟨f38, g38, q38⟩, ⟨f39, g39, q39⟩, g40⟩ := id hL
  obtain ⟨d1, d2, d3, d4, d5, d6, d7, d8, d9, d10, d11, d12, d13⟩ := id hD
  have zmo := moS_b hD hE
  have zn := nxS_b hD hs0
  have zT := beN_b11 hD (m := (n - 2).toNat) (by omega) zn.1
  obtain ⟨hv1, hv2, -, -, -, hv3⟩ := d13 (nxS D s) zn.1 zn.2
  have zce : ceS (n - 1) (nxS D s) = (nxS D s * 12 + (n - 1) - 1) * 41 := rfl
  refine Ev.mk (by decide +kernel) [_, _, _, _, _, _, _, _, _, _, _, _, _, _, _, _, _, _] rfl (Nat.le_of_ble_eq_true rfl) (fun w hc he => ?_)
  refine j_aload_n hc dX2_bestIfTold_0 rfl ?_
  refine j_get hc dX2_bestIfTold_1 fX2_9 zp50 rfl ?_
  refine j_iload_n hc dX2_bestIfTold_4 rfl ?_
  refine j_callV (d' := d - 1) hc dX2_bestIfTold_5 vX2_105 hL.1 (ev_X0_seasonBehind (by omega) hL hD (by omega) (by omega)) rfl (by omega) (by omega) (by omega) rfl rfl (Nat.le_of_ble_eq_true rfl) (ret1 ?_)
  refine j_istore (L' := [_, _, _, _, _, _, _, _, _, _, _, _, _, _, _, _, _, _]) hc dX2_bestIfTold_8 (Nat.le_of_ble_eq_true rfl) rfl ?_
  refine j_iload_n hc dX2_bestIfTold_10 rfl ?_
  refine j_iconst hc dX2_bestIfTold_11 ?_
  refine j_isub hc dX2_bestIfTold_12 ?_
  refine j_iload hc dX2_bestIfTold_13 rfl ?_
  refine j_callS (d' := d - 1) hc dX2_bestIfTold_15 sX2_81 (ev_X2_cellOf (by omega)) rfl (by omega) (by omega) (by omega) rfl rfl (Nat.le_of_ble_eq_true rfl) (ret1 ?_)
  refine j_istore (L' := [_, _, _, _, _, _, _, _, _, _, _, _, _, _, _, _, _, _]) hc dX2_bestIfTold_18 (Nat.le_of_ble_eq_true rfl) rfl ?_
  refine j_aload_n hc dX2_bestIfTold_20 rfl ?_
  refine j_get hc dX2_bestIfTold_21 fX2_9 zp50 rfl ?_
  refine j_iload_n hc dX2_bestIfTold_24 rfl ?_
  refine j_iconst hc dX2_bestIfTold_25 ?_
  refine j_isub hc dX2_bestIfTold_26 ?_
  refine j_iload hc dX2_bestIfTold_27 rfl ?_
  refine j_callV (d' := d - 1) hc dX2_bestIfTold_29 vX2_108 hL.1 (ev_X0_belowOf (by omega) hL hD (by omega) (by omega) (by omega) (by omega)) rfl (by omega) (by omega) (by omega) rfl rfl (Nat.le_of_ble_eq_true rfl) (ret1 ?_)
  refine j_lstore (L' := [_, _, _, _, _, _, _, _, _, _, _, _, _, _, _, _, _, _]) hc dX2_bestIfTold_32 (Nat.le_of_ble_eq_true rfl) rfl ?_
  refine j_iload_n hc dX2_bestIfTold_34 rfl ?_
  refine j_aload_n hc dX2_bestIfTold_35 rfl ?_
  refine j_get hc dX2_bestIfTold_36 fX2_9 zp50 rfl ?_
  refine j_callV (d' := d - 1) hc dX2_bestIfTold_39 vX2_112 hL.1 (ev_X0_mostKept (by omega) hL hD hE) rfl (by omega) (by omega) (by omega) rfl rfl (Nat.le_of_ble_eq_true rfl) (ret1 ?_)
  refine j_mmin hc dX2_bestIfTold_42 mX2_116 mo_min ⟨by omega, by omega⟩ ⟨by omega, by omega⟩ (by omega) (by omega) rfl (by omega) (Nat.le_of_ble_eq_true rfl) ?_
  refine j_istore (L' := [_, _, _, _, _, _, _, _, _, _, _, _, _, _, _, _, _, _]) hc dX2_bestIfTold_45 (Nat.le_of_ble_eq_true rfl) rfl ?_
  refine j_lconst (x := 0) hc dX2_bestIfTold_47 (by decide) ?_
  refine j_lstore (L' := [_, _, _, _, _, _, _, _, _, _, _, _, _, _, _, _, _, _]) hc dX2_bestIfTold_48 (Nat.le_of_ble_eq_true rfl) rfl ?_
  refine j_iconst hc dX2_bestIfTold_50 ?_
  refine j_istore (L' := [_, _, _, _, _, _, _, _, _, _, _, _, _, _, _, _, _, _]) hc dX2_bestIfTold_51 (Nat.le_of_ble_eq_true rfl) rfl ?_
  rw [show n - 1 - 1 = n - 2 by omega]
  exact lp_X2_told1 hd hL hD hE zp50 zp52 zpg hgl hgf hbb hn1 hn hs0 hs1 hcs0 hcs1 ha0 ha1 hc he _ 0 _ _ _ _ _ _ _ rfl (by omega) rfl
theorem PlV.new {D : LaS} {E : LaY} {ru : RU} {cs sr : Int} (bf : Int → Int) : PlV D E ru cs sr (fun _ => 0) bf (fun _ => 0) :=
  ⟨fun x _ _ => ⟨Int.le_refl 0, (show (0 : Int) ≤ 20 by decide), fun _ => rfl⟩, fun t _ _ => ⟨Int.le_refl 0, (show (0 : Int) ≤ 12 by decide), fun n n1 n2 => absurd (Int.le_trans n1 n2) (show ¬ (1 : Int) ≤ 0 by decide)⟩⟩
set_option maxRecDepth 100000 in
set_option maxHeartbeats 4000000 in
theorem ev_X2_init {k : WC} {d : Nat} {h : AH} {l : Int} {D : LaS} {E E' : LaY} {pl : Int → Option Nm} {i sr : Int} {ru : RU} (hd : 2 ≤ d) (hL : LandAt h l D E' pl) (hD : LOK D) (zp50 : h (50, i) = some (oO 2 [vN, vI 0, vI 0, vN, vN, vN, vN, vN, vN, vN])) (q51 : h (51, i) = none) (q52 : h (52, i) = none) (q54 : h (54, i) = none) (q55 : h (55, i) = none) (q56 : h (56, i) = none) (hsr0 : 0 ≤ sr) (hsr1 : sr ≤ 4)  : Ev k d mdX2_init h [vR (50, i), vR (30, l), vI sr] 5 3965 (pn fun h' => PlanAt h' i l D E ru sr (lCo D) none (fun _ => 0) (fun _ => 0) (fun _ => 0) (fun _ => 0) ∧ Fr (fun z => 50 ≤ z.1 ∧ z.1 ≤ 56 ∧ z.1 ≠ 53 ∧ z.2 = i) h h') := by
  have d1 := hD.1
  have d2 := hD.2.1
  refine Ev.mk (by decide +kernel) [_, _, _, _] rfl (Nat.le_of_ble_eq_true rfl) (fun w hc he => ?_)
  refine j_aload_n hc dX2_init_0 rfl ?_
  refine j_objInit hc dX2_init_1 voX2_3 vo_inst vo_code rfl (by omega) (Nat.le_of_ble_eq_true rfl) ?_
  refine j_aload_n hc dX2_init_4 rfl ?_
  refine j_aload_n hc dX2_init_5 rfl ?_
  refine j_putF (fs' := [_, _, _, _, _, _, _, _, _, _]) hc dX2_init_6 pX2_9 rfl zp50 rfl rfl ?_
  generalize ezh1 : up _ _ _ = zh1
  have zzland_zh1 := LandAt.mv ezh1 (by simp) hL
  have zP_zh1 := (congrFun ezh1 _).symm.trans (up_same _ _ _)
  refine j_aload_n hc dX2_init_9 rfl ?_
  refine j_iload_n hc dX2_init_10 rfl ?_
  refine j_putF (fs' := [_, _, _, _, _, _, _, _, _, _]) hc dX2_init_11 pX2_15 rfl zP_zh1 rfl rfl ?_
  generalize ezh2 : up _ _ _ = zh2
  have zzland_zh2 := LandAt.mv ezh2 (by simp) zzland_zh1
  have zP_zh2 := (congrFun ezh2 _).symm.trans (up_same _ _ _)
  refine j_aload_n hc dX2_init_14 rfl ?_
  refine j_aload_n hc dX2_init_15 rfl ?_
  refine j_get hc dX2_init_16 fX2_19 zzland_zh2.1 rfl ?_
  refine j_put (fs' := [_, _, _, _, _, _, _, _, _, _]) hc dX2_init_19 pX2_24 zP_zh2 rfl rfl ?_
  generalize ezh3 : up _ _ _ = zh3
  have zzland_zh3 := LandAt.mv ezh3 (by simp) zzland_zh2
  have zP_zh3 := (congrFun ezh3 _).symm.trans (up_same _ _ _)
  refine j_aload_n hc dX2_init_22 rfl ?_
  refine j_get hc dX2_init_23 fX2_25 zzland_zh3.1 rfl ?_
  refine j_bipush hc dX2_init_26 (by decide) ?_
  refine j_imul hc dX2_init_28 ?_
  refine j_bipush hc dX2_init_29 (by decide) ?_
  refine j_imul hc dX2_init_31 ?_
  refine j_istore_n (L' := [_, _, _, _]) hc dX2_init_32 (Nat.le_of_ble_eq_true rfl) rfl ?_
  refine j_aload_n hc dX2_init_33 rfl ?_
  refine j_iload_n hc dX2_init_34 rfl ?_
  refine j_newI (nm := (51, i)) hc dX2_init_35 ka_int ((congrFun ezh3 _).symm.trans ((up_ne (by simp)).trans ((congrFun ezh2 _).symm.trans ((up_ne (by simp)).trans ((congrFun ezh1 _).symm.trans ((up_ne (by simp)).trans q51)))))) (by omega) (by omega) (by omega) (by omega) ?_
  generalize ezh4 : up _ _ _ = zh4
  have zzland_zh4 := LandAt.mv ezh4 (by simp) zzland_zh3
  have zP_zh4 := (congrFun ezh4 _).symm.trans ((up_ne (by simp)).trans zP_zh3)
  have zP51_zh4 := (congrFun ezh4 _).symm.trans (up_same _ _ _)
  refine j_putF (fs' := [_, _, _, _, _, _, _, _, _, _]) hc dX2_init_37 pX2_28 rfl zP_zh4 rfl rfl ?_
  generalize ezh5 : up _ _ _ = zh5
  have zzland_zh5 := LandAt.mv ezh5 (by simp) zzland_zh4
  have zP_zh5 := (congrFun ezh5 _).symm.trans (up_same _ _ _)
  have zP51_zh5 := (congrFun ezh5 _).symm.trans ((up_ne (by simp)).trans zP51_zh4)
  refine j_aload_n hc dX2_init_40 rfl ?_
  refine j_iload_n hc dX2_init_41 rfl ?_
  refine j_iconst hc dX2_init_42 ?_
  refine j_icmp_eq (tgt := 51) hc dX2_init_43 (by decide) ⟨by omega, by omega⟩ ⟨by omega, by omega⟩ (fun zc1 => ?_) (fun zc1 => ?_)
  · refine j_iload_n hc dX2_init_51 rfl ?_
    refine j_goto (tgt := 56) hc dX2_init_52 (by decide) ?_
    refine j_newL (nm := (52, i)) hc dX2_init_56 ka_long ((congrFun ezh5 _).symm.trans ((up_ne (by simp)).trans ((congrFun ezh4 _).symm.trans ((up_ne (by simp)).trans ((congrFun ezh3 _).symm.trans ((up_ne (by simp)).trans ((congrFun ezh2 _).symm.trans ((up_ne (by simp)).trans ((congrFun ezh1 _).symm.trans ((up_ne (by simp)).trans q52)))))))))) (by omega) (by omega) (by omega) (by omega) ?_
    generalize ezh6 : up _ _ _ = zh6
    have zzland_zh6 := LandAt.mv ezh6 (by simp) zzland_zh5
    have zP_zh6 := (congrFun ezh6 _).symm.trans ((up_ne (by simp)).trans zP_zh5)
    have zP51_zh6 := (congrFun ezh6 _).symm.trans ((up_ne (by simp)).trans zP51_zh5)
    have zP52_zh6 := (congrFun ezh6 _).symm.trans (up_same _ _ _)
    refine j_putF (fs' := [_, _, _, _, _, _, _, _, _, _]) hc dX2_init_58 pX2_32 rfl zP_zh6 rfl rfl ?_
    generalize ezh7 : up _ _ _ = zh7
    have zzland_zh7 := LandAt.mv ezh7 (by simp) zzland_zh6
    have zP_zh7 := (congrFun ezh7 _).symm.trans (up_same _ _ _)
    have zP51_zh7 := (congrFun ezh7 _).symm.trans ((up_ne (by simp)).trans zP51_zh6)
    have zP52_zh7 := (congrFun ezh7 _).symm.trans ((up_ne (by simp)).trans zP52_zh6)
    refine j_aload_n hc dX2_init_61 rfl ?_
    refine j_iload_n hc dX2_init_62 rfl ?_
    refine j_iconst hc dX2_init_63 ?_
    refine j_icmp_ne (tgt := 74) hc dX2_init_64 (by decide) ⟨by omega, by omega⟩ ⟨by omega, by omega⟩ (fun zc2 => ?_) (fun zc2 => ?_)
    · refine j_aload_n hc dX2_init_74 rfl ?_
      refine j_get hc dX2_init_75 fX2_39 zzland_zh7.1 rfl ?_
      refine j_putF (fs' := [_, _, _, _, _, _, _, _, _, _]) hc dX2_init_78 pX2_42 rfl zP_zh7 rfl rfl ?_
      generalize ezh8 : up _ _ _ = zh8
      have zzland_zh8 := LandAt.mv ezh8 (by simp) zzland_zh7
      have zP_zh8 := (congrFun ezh8 _).symm.trans (up_same _ _ _)
      have zP51_zh8 := (congrFun ezh8 _).symm.trans ((up_ne (by simp)).trans zP51_zh7)
      have zP52_zh8 := (congrFun ezh8 _).symm.trans ((up_ne (by simp)).trans zP52_zh7)
      refine j_aload_n hc dX2_init_81 rfl ?_
      refine j_iconst hc dX2_init_82 ?_
      refine j_newI (nm := (54, i)) hc dX2_init_83 ka_int ((congrFun ezh8 _).symm.trans ((up_ne (by simp)).trans ((congrFun ezh7 _).symm.trans ((up_ne (by simp)).trans ((congrFun ezh6 _).symm.trans ((up_ne (by simp)).trans ((congrFun ezh5 _).symm.trans ((up_ne (by simp)).trans ((congrFun ezh4 _).symm.trans ((up_ne (by simp)).trans ((congrFun ezh3 _).symm.trans ((up_ne (by simp)).trans ((congrFun ezh2 _).symm.trans ((up_ne (by simp)).trans ((congrFun ezh1 _).symm.trans ((up_ne (by simp)).trans q54)))))))))))))))) (by omega) (by omega) (by omega) (by omega) ?_
      generalize ezh9 : up _ _ _ = zh9
      have zzland_zh9 := LandAt.mv ezh9 (by simp) zzland_zh8
      have zP_zh9 := (congrFun ezh9 _).symm.trans ((up_ne (by simp)).trans zP_zh8)
      have zP51_zh9 := (congrFun ezh9 _).symm.trans ((up_ne (by simp)).trans zP51_zh8)
      have zP52_zh9 := (congrFun ezh9 _).symm.trans ((up_ne (by simp)).trans zP52_zh8)
      have zP54_zh9 := (congrFun ezh9 _).symm.trans (up_same _ _ _)
      refine j_putF (fs' := [_, _, _, _, _, _, _, _, _, _]) hc dX2_init_85 pX2_45 rfl zP_zh9 rfl rfl ?_
      generalize ezh10 : up _ _ _ = zh10
      have zzland_zh10 := LandAt.mv ezh10 (by simp) zzland_zh9
      have zP_zh10 := (congrFun ezh10 _).symm.trans (up_same _ _ _)
      have zP51_zh10 := (congrFun ezh10 _).symm.trans ((up_ne (by simp)).trans zP51_zh9)
      have zP52_zh10 := (congrFun ezh10 _).symm.trans ((up_ne (by simp)).trans zP52_zh9)
      have zP54_zh10 := (congrFun ezh10 _).symm.trans ((up_ne (by simp)).trans zP54_zh9)
      refine j_aload_n hc dX2_init_88 rfl ?_
      refine j_iconst hc dX2_init_89 ?_
      refine j_newI (nm := (55, i)) hc dX2_init_90 ka_int ((congrFun ezh10 _).symm.trans ((up_ne (by simp)).trans ((congrFun ezh9 _).symm.trans ((up_ne (by simp)).trans ((congrFun ezh8 _).symm.trans ((up_ne (by simp)).trans ((congrFun ezh7 _).symm.trans ((up_ne (by simp)).trans ((congrFun ezh6 _).symm.trans ((up_ne (by simp)).trans ((congrFun ezh5 _).symm.trans ((up_ne (by simp)).trans ((congrFun ezh4 _).symm.trans ((up_ne (by simp)).trans ((congrFun ezh3 _).symm.trans ((up_ne (by simp)).trans ((congrFun ezh2 _).symm.trans ((up_ne (by simp)).trans ((congrFun ezh1 _).symm.trans ((up_ne (by simp)).trans q55)))))))))))))))))))) (by omega) (by omega) (by omega) (by omega) ?_
      generalize ezh11 : up _ _ _ = zh11
      have zzland_zh11 := LandAt.mv ezh11 (by simp) zzland_zh10
      have zP_zh11 := (congrFun ezh11 _).symm.trans ((up_ne (by simp)).trans zP_zh10)
      have zP51_zh11 := (congrFun ezh11 _).symm.trans ((up_ne (by simp)).trans zP51_zh10)
      have zP52_zh11 := (congrFun ezh11 _).symm.trans ((up_ne (by simp)).trans zP52_zh10)
      have zP54_zh11 := (congrFun ezh11 _).symm.trans ((up_ne (by simp)).trans zP54_zh10)
      have zP55_zh11 := (congrFun ezh11 _).symm.trans (up_same _ _ _)
      refine j_putF (fs' := [_, _, _, _, _, _, _, _, _, _]) hc dX2_init_92 pX2_48 rfl zP_zh11 rfl rfl ?_
      generalize ezh12 : up _ _ _ = zh12
      have zzland_zh12 := LandAt.mv ezh12 (by simp) zzland_zh11
      have zP_zh12 := (congrFun ezh12 _).symm.trans (up_same _ _ _)
      have zP51_zh12 := (congrFun ezh12 _).symm.trans ((up_ne (by simp)).trans zP51_zh11)
      have zP52_zh12 := (congrFun ezh12 _).symm.trans ((up_ne (by simp)).trans zP52_zh11)
      have zP54_zh12 := (congrFun ezh12 _).symm.trans ((up_ne (by simp)).trans zP54_zh11)
      have zP55_zh12 := (congrFun ezh12 _).symm.trans ((up_ne (by simp)).trans zP55_zh11)
      refine j_aload_n hc dX2_init_95 rfl ?_
      refine j_bipush hc dX2_init_96 (by decide) ?_
      refine j_newL (nm := (56, i)) hc dX2_init_98 ka_long ((congrFun ezh12 _).symm.trans ((up_ne (by simp)).trans ((congrFun ezh11 _).symm.trans ((up_ne (by simp)).trans ((congrFun ezh10 _).symm.trans ((up_ne (by simp)).trans ((congrFun ezh9 _).symm.trans ((up_ne (by simp)).trans ((congrFun ezh8 _).symm.trans ((up_ne (by simp)).trans ((congrFun ezh7 _).symm.trans ((up_ne (by simp)).trans ((congrFun ezh6 _).symm.trans ((up_ne (by simp)).trans ((congrFun ezh5 _).symm.trans ((up_ne (by simp)).trans ((congrFun ezh4 _).symm.trans ((up_ne (by simp)).trans ((congrFun ezh3 _).symm.trans ((up_ne (by simp)).trans ((congrFun ezh2 _).symm.trans ((up_ne (by simp)).trans ((congrFun ezh1 _).symm.trans ((up_ne (by simp)).trans q56)))))))))))))))))))))))) (by omega) (by omega) (by omega) (by omega) ?_
      generalize ezh13 : up _ _ _ = zh13
      have zzland_zh13 := LandAt.mv ezh13 (by simp) zzland_zh12
      have zP_zh13 := (congrFun ezh13 _).symm.trans ((up_ne (by simp)).trans zP_zh12)
      have zP51_zh13 := (congrFun ezh13 _).symm.trans ((up_ne (by simp)).trans zP51_zh12)
      have zP52_zh13 := (congrFun ezh13 _).symm.trans ((up_ne (by simp)).trans zP52_zh12)
      have zP54_zh13 := (congrFun ezh13 _).symm.trans ((up_ne (by simp)).trans zP54_zh12)
      have zP55_zh13 := (congrFun ezh13 _).symm.trans ((up_ne (by simp)).trans zP55_zh12)
      have zP56_zh13 := (congrFun ezh13 _).symm.trans (up_same _ _ _)
      refine j_putF (fs' := [_, _, _, _, _, _, _, _, _, _]) hc dX2_init_100 pX2_51 rfl zP_zh13 rfl rfl ?_
      generalize ezh14 : up _ _ _ = zh14
      have zzland_zh14 := LandAt.mv ezh14 (by simp) zzland_zh13
      have zP_zh14 := (congrFun ezh14 _).symm.trans (up_same _ _ _)
      have zP51_zh14 := (congrFun ezh14 _).symm.trans ((up_ne (by simp)).trans zP51_zh13)
      have zP52_zh14 := (congrFun ezh14 _).symm.trans ((up_ne (by simp)).trans zP52_zh13)
      have zP54_zh14 := (congrFun ezh14 _).symm.trans ((up_ne (by simp)).trans zP54_zh13)
      have zP55_zh14 := (congrFun ezh14 _).symm.trans ((up_ne (by simp)).trans zP55_zh13)
      have zP56_zh14 := (congrFun ezh14 _).symm.trans ((up_ne (by simp)).trans zP56_zh13)
      exact j_vret hc he dX2_init_103 rfl (by omega) (by omega) (by
        first
          | (exfalso; omega)
          | exact ⟨rfl, ⟨by rw [zP_zh14]; unfold gnS pF; first | rw [if_pos (by omega)] | rw [if_neg (by omega)], zP51_zh14.trans (by congr 3; omega), zP52_zh14.trans (by unfold blS; first | (rw [if_pos (by omega)]; congr 3; omega) | rw [if_neg (by omega)]; rfl), zP54_zh14, zP55_zh14, ⟨_, zP56_zh14⟩, PlV.new _⟩, by rw [← ezh14, ← ezh13, ← ezh12, ← ezh11, ← ezh10, ← ezh9, ← ezh8, ← ezh7, ← ezh6, ← ezh5, ← ezh4, ← ezh3, ← ezh2, ← ezh1]; exact ((((((((((((((Fr.rf _ _).push ⟨by simp, by simp, by simp, rfl⟩).push ⟨by simp, by simp, by simp, rfl⟩).push ⟨by simp, by simp, by simp, rfl⟩).push ⟨by simp, by simp, by simp, rfl⟩).push ⟨by simp, by simp, by simp, rfl⟩).push ⟨by simp, by simp, by simp, rfl⟩).push ⟨by simp, by simp, by simp, rfl⟩).push ⟨by simp, by simp, by simp, rfl⟩).push ⟨by simp, by simp, by simp, rfl⟩).push ⟨by simp, by simp, by simp, rfl⟩).push ⟨by simp, by simp, by simp, rfl⟩).push ⟨by simp, by simp, by simp, rfl⟩).push ⟨by simp, by simp, by simp, rfl⟩).push ⟨by simp, by simp, by simp, rfl⟩⟩)
    · refine j_aload_n hc dX2_init_67 rfl ?_
      refine j_get hc dX2_init_68 fX2_36 zzland_zh7.1 rfl ?_
      refine j_goto (tgt := 78) hc dX2_init_71 (by decide) ?_
      refine j_putF (fs' := [_, _, _, _, _, _, _, _, _, _]) hc dX2_init_78 pX2_42 rfl zP_zh7 rfl rfl ?_
      generalize ezh15 : up _ _ _ = zh15
      have zzland_zh15 := LandAt.mv ezh15 (by simp) zzland_zh7
      have zP_zh15 := (congrFun ezh15 _).symm.trans (up_same _ _ _)
      have zP51_zh15 := (congrFun ezh15 _).symm.trans ((up_ne (by simp)).trans zP51_zh7)
      have zP52_zh15 := (congrFun ezh15 _).symm.trans ((up_ne (by simp)).trans zP52_zh7)
      refine j_aload_n hc dX2_init_81 rfl ?_
      refine j_iconst hc dX2_init_82 ?_
      refine j_newI (nm := (54, i)) hc dX2_init_83 ka_int ((congrFun ezh15 _).symm.trans ((up_ne (by simp)).trans ((congrFun ezh7 _).symm.trans ((up_ne (by simp)).trans ((congrFun ezh6 _).symm.trans ((up_ne (by simp)).trans ((congrFun ezh5 _).symm.trans ((up_ne (by simp)).trans ((congrFun ezh4 _).symm.trans ((up_ne (by simp)).trans ((congrFun ezh3 _).symm.trans ((up_ne (by simp)).trans ((congrFun ezh2 _).symm.trans ((up_ne (by simp)).trans ((congrFun ezh1 _).symm.trans ((up_ne (by simp)).trans q54)))))))))))))))) (by omega) (by omega) (by omega) (by omega) ?_
      generalize ezh16 : up _ _ _ = zh16
      have zzland_zh16 := LandAt.mv ezh16 (by simp) zzland_zh15
      have zP_zh16 := (congrFun ezh16 _).symm.trans ((up_ne (by simp)).trans zP_zh15)
      have zP51_zh16 := (congrFun ezh16 _).symm.trans ((up_ne (by simp)).trans zP51_zh15)
      have zP52_zh16 := (congrFun ezh16 _).symm.trans ((up_ne (by simp)).trans zP52_zh15)
      have zP54_zh16 := (congrFun ezh16 _).symm.trans (up_same _ _ _)
      refine j_putF (fs' := [_, _, _, _, _, _, _, _, _, _]) hc dX2_init_85 pX2_45 rfl zP_zh16 rfl rfl ?_
      generalize ezh17 : up _ _ _ = zh17
      have zzland_zh17 := LandAt.mv ezh17 (by simp) zzland_zh16
      have zP_zh17 := (congrFun ezh17 _).symm.trans (up_same _ _ _)
      have zP51_zh17 := (congrFun ezh17 _).symm.trans ((up_ne (by simp)).trans zP51_zh16)
      have zP52_zh17 := (congrFun ezh17 _).symm.trans ((up_ne (by simp)).trans zP52_zh16)
      have zP54_zh17 := (congrFun ezh17 _).symm.trans ((up_ne (by simp)).trans zP54_zh16)
      refine j_aload_n hc dX2_init_88 rfl ?_
      refine j_iconst hc dX2_init_89 ?_
      refine j_newI (nm := (55, i)) hc dX2_init_90 ka_int ((congrFun ezh17 _).symm.trans ((up_ne (by simp)).trans ((congrFun ezh16 _).symm.trans ((up_ne (by simp)).trans ((congrFun ezh15 _).symm.trans ((up_ne (by simp)).trans ((congrFun ezh7 _).symm.trans ((up_ne (by simp)).trans ((congrFun ezh6 _).symm.trans ((up_ne (by simp)).trans ((congrFun ezh5 _).symm.trans ((up_ne (by simp)).trans ((congrFun ezh4 _).symm.trans ((up_ne (by simp)).trans ((congrFun ezh3 _).symm.trans ((up_ne (by simp)).trans ((congrFun ezh2 _).symm.trans ((up_ne (by simp)).trans ((congrFun ezh1 _).symm.trans ((up_ne (by simp)).trans q55)))))))))))))))))))) (by omega) (by omega) (by omega) (by omega) ?_
      generalize ezh18 : up _ _ _ = zh18
      have zzland_zh18 := LandAt.mv ezh18 (by simp) zzland_zh17
      have zP_zh18 := (congrFun ezh18 _).symm.trans ((up_ne (by simp)).trans zP_zh17)
      have zP51_zh18 := (congrFun ezh18 _).symm.trans ((up_ne (by simp)).trans zP51_zh17)
      have zP52_zh18 := (congrFun ezh18 _).symm.trans ((up_ne (by simp)).trans zP52_zh17)
      have zP54_zh18 := (congrFun ezh18 _).symm.trans ((up_ne (by simp)).trans zP54_zh17)
      have zP55_zh18 := (congrFun ezh18 _).symm.trans (up_same _ _ _)
      refine j_putF (fs' := [_, _, _, _, _, _, _, _, _, _]) hc dX2_init_92 pX2_48 rfl zP_zh18 rfl rfl ?_
      generalize ezh19 : up _ _ _ = zh19
      have zzland_zh19 := LandAt.mv ezh19 (by simp) zzland_zh18
      have zP_zh19 := (congrFun ezh19 _).symm.trans (up_same _ _ _)
      have zP51_zh19 := (congrFun ezh19 _).symm.trans ((up_ne (by simp)).trans zP51_zh18)
      have zP52_zh19 := (congrFun ezh19 _).symm.trans ((up_ne (by simp)).trans zP52_zh18)
      have zP54_zh19 := (congrFun ezh19 _).symm.trans ((up_ne (by simp)).trans zP54_zh18)
      have zP55_zh19 := (congrFun ezh19 _).symm.trans ((up_ne (by simp)).trans zP55_zh18)
      refine j_aload_n hc dX2_init_95 rfl ?_
      refine j_bipush hc dX2_init_96 (by decide) ?_
      refine j_newL (nm := (56, i)) hc dX2_init_98 ka_long ((congrFun ezh19 _).symm.trans ((up_ne (by simp)).trans ((congrFun ezh18 _).symm.trans ((up_ne (by simp)).trans ((congrFun ezh17 _).symm.trans ((up_ne (by simp)).trans ((congrFun ezh16 _).symm.trans ((up_ne (by simp)).trans ((congrFun ezh15 _).symm.trans ((up_ne (by simp)).trans ((congrFun ezh7 _).symm.trans ((up_ne (by simp)).trans ((congrFun ezh6 _).symm.trans ((up_ne (by simp)).trans ((congrFun ezh5 _).symm.trans ((up_ne (by simp)).trans ((congrFun ezh4 _).symm.trans ((up_ne (by simp)).trans ((congrFun ezh3 _).symm.trans ((up_ne (by simp)).trans ((congrFun ezh2 _).symm.trans ((up_ne (by simp)).trans ((congrFun ezh1 _).symm.trans ((up_ne (by simp)).trans q56)))))))))))))))))))))))) (by omega) (by omega) (by omega) (by omega) ?_
      generalize ezh20 : up _ _ _ = zh20
      have zzland_zh20 := LandAt.mv ezh20 (by simp) zzland_zh19
      have zP_zh20 := (congrFun ezh20 _).symm.trans ((up_ne (by simp)).trans zP_zh19)
      have zP51_zh20 := (congrFun ezh20 _).symm.trans ((up_ne (by simp)).trans zP51_zh19)
      have zP52_zh20 := (congrFun ezh20 _).symm.trans ((up_ne (by simp)).trans zP52_zh19)
      have zP54_zh20 := (congrFun ezh20 _).symm.trans ((up_ne (by simp)).trans zP54_zh19)
      have zP55_zh20 := (congrFun ezh20 _).symm.trans ((up_ne (by simp)).trans zP55_zh19)
      have zP56_zh20 := (congrFun ezh20 _).symm.trans (up_same _ _ _)
      refine j_putF (fs' := [_, _, _, _, _, _, _, _, _, _]) hc dX2_init_100 pX2_51 rfl zP_zh20 rfl rfl ?_
      generalize ezh21 : up _ _ _ = zh21
      have zzland_zh21 := LandAt.mv ezh21 (by simp) zzland_zh20
      have zP_zh21 := (congrFun ezh21 _).symm.trans (up_same _ _ _)
      have zP51_zh21 := (congrFun ezh21 _).symm.trans ((up_ne (by simp)).trans zP51_zh20)
      have zP52_zh21 := (congrFun ezh21 _).symm.trans ((up_ne (by simp)).trans zP52_zh20)
      have zP54_zh21 := (congrFun ezh21 _).symm.trans ((up_ne (by simp)).trans zP54_zh20)
      have zP55_zh21 := (congrFun ezh21 _).symm.trans ((up_ne (by simp)).trans zP55_zh20)
      have zP56_zh21 := (congrFun ezh21 _).symm.trans ((up_ne (by simp)).trans zP56_zh20)
      exact j_vret hc he dX2_init_103 rfl (by omega) (by omega) (by
        first
          | (exfalso; omega)
          | exact ⟨rfl, ⟨by rw [zP_zh21]; unfold gnS pF; first | rw [if_pos (by omega)] | rw [if_neg (by omega)], zP51_zh21.trans (by congr 3; omega), zP52_zh21.trans (by unfold blS; first | (rw [if_pos (by omega)]; congr 3; omega) | rw [if_neg (by omega)]; rfl), zP54_zh21, zP55_zh21, ⟨_, zP56_zh21⟩, PlV.new _⟩, by rw [← ezh21, ← ezh20, ← ezh19, ← ezh18, ← ezh17, ← ezh16, ← ezh15, ← ezh7, ← ezh6, ← ezh5, ← ezh4, ← ezh3, ← ezh2, ← ezh1]; exact ((((((((((((((Fr.rf _ _).push ⟨by simp, by simp, by simp, rfl⟩).push ⟨by simp, by simp, by simp, rfl⟩).push ⟨by simp, by simp, by simp, rfl⟩).push ⟨by simp, by simp, by simp, rfl⟩).push ⟨by simp, by simp, by simp, rfl⟩).push ⟨by simp, by simp, by simp, rfl⟩).push ⟨by simp, by simp, by simp, rfl⟩).push ⟨by simp, by simp, by simp, rfl⟩).push ⟨by simp, by simp, by simp, rfl⟩).push ⟨by simp, by simp, by simp, rfl⟩).push ⟨by simp, by simp, by simp, rfl⟩).push ⟨by simp, by simp, by simp, rfl⟩).push ⟨by simp, by simp, by simp, rfl⟩).push ⟨by simp, by simp, by simp, rfl⟩⟩)
  · refine j_iload_n hc dX2_init_46 rfl ?_
    refine j_iconst hc dX2_init_47 ?_
    refine j_icmp_ne (tgt := 55) hc dX2_init_48 (by decide) ⟨by omega, by omega⟩ ⟨by omega, by omega⟩ (fun zc3 => ?_) (fun zc3 => ?_)
    · refine j_iconst hc dX2_init_55 ?_
      refine j_newL (nm := (52, i)) hc dX2_init_56 ka_long ((congrFun ezh5 _).symm.trans ((up_ne (by simp)).trans ((congrFun ezh4 _).symm.trans ((up_ne (by simp)).trans ((congrFun ezh3 _).symm.trans ((up_ne (by simp)).trans ((congrFun ezh2 _).symm.trans ((up_ne (by simp)).trans ((congrFun ezh1 _).symm.trans ((up_ne (by simp)).trans q52)))))))))) (by omega) (by omega) (by omega) (by omega) ?_
      generalize ezh22 : up _ _ _ = zh22
      have zzland_zh22 := LandAt.mv ezh22 (by simp) zzland_zh5
      have zP_zh22 := (congrFun ezh22 _).symm.trans ((up_ne (by simp)).trans zP_zh5)
      have zP51_zh22 := (congrFun ezh22 _).symm.trans ((up_ne (by simp)).trans zP51_zh5)
      have zP52_zh22 := (congrFun ezh22 _).symm.trans (up_same _ _ _)
      refine j_putF (fs' := [_, _, _, _, _, _, _, _, _, _]) hc dX2_init_58 pX2_32 rfl zP_zh22 rfl rfl ?_
      generalize ezh23 : up _ _ _ = zh23
      have zzland_zh23 := LandAt.mv ezh23 (by simp) zzland_zh22
      have zP_zh23 := (congrFun ezh23 _).symm.trans (up_same _ _ _)
      have zP51_zh23 := (congrFun ezh23 _).symm.trans ((up_ne (by simp)).trans zP51_zh22)
      have zP52_zh23 := (congrFun ezh23 _).symm.trans ((up_ne (by simp)).trans zP52_zh22)
      refine j_aload_n hc dX2_init_61 rfl ?_
      refine j_iload_n hc dX2_init_62 rfl ?_
      refine j_iconst hc dX2_init_63 ?_
      refine j_icmp_ne (tgt := 74) hc dX2_init_64 (by decide) ⟨by omega, by omega⟩ ⟨by omega, by omega⟩ (fun zc4 => ?_) (fun zc4 => ?_)
      · refine j_aload_n hc dX2_init_74 rfl ?_
        refine j_get hc dX2_init_75 fX2_39 zzland_zh23.1 rfl ?_
        refine j_putF (fs' := [_, _, _, _, _, _, _, _, _, _]) hc dX2_init_78 pX2_42 rfl zP_zh23 rfl rfl ?_
        generalize ezh24 : up _ _ _ = zh24
        have zzland_zh24 := LandAt.mv ezh24 (by simp) zzland_zh23
        have zP_zh24 := (congrFun ezh24 _).symm.trans (up_same _ _ _)
        have zP51_zh24 := (congrFun ezh24 _).symm.trans ((up_ne (by simp)).trans zP51_zh23)
        have zP52_zh24 := (congrFun ezh24 _).symm.trans ((up_ne (by simp)).trans zP52_zh23)
        refine j_aload_n hc dX2_init_81 rfl ?_
        refine j_iconst hc dX2_init_82 ?_
        refine j_newI (nm := (54, i)) hc dX2_init_83 ka_int ((congrFun ezh24 _).symm.trans ((up_ne (by simp)).trans ((congrFun ezh23 _).symm.trans ((up_ne (by simp)).trans ((congrFun ezh22 _).symm.trans ((up_ne (by simp)).trans ((congrFun ezh5 _).symm.trans ((up_ne (by simp)).trans ((congrFun ezh4 _).symm.trans ((up_ne (by simp)).trans ((congrFun ezh3 _).symm.trans ((up_ne (by simp)).trans ((congrFun ezh2 _).symm.trans ((up_ne (by simp)).trans ((congrFun ezh1 _).symm.trans ((up_ne (by simp)).trans q54)))))))))))))))) (by omega) (by omega) (by omega) (by omega) ?_
        generalize ezh25 : up _ _ _ = zh25
        have zzland_zh25 := LandAt.mv ezh25 (by simp) zzland_zh24
        have zP_zh25 := (congrFun ezh25 _).symm.trans ((up_ne (by simp)).trans zP_zh24)
        have zP51_zh25 := (congrFun ezh25 _).symm.trans ((up_ne (by simp)).trans zP51_zh24)
        have zP52_zh25 := (congrFun ezh25 _).symm.trans ((up_ne (by simp)).trans zP52_zh24)
        have zP54_zh25 := (congrFun ezh25 _).symm.trans (up_same _ _ _)
        refine j_putF (fs' := [_, _, _, _, _, _, _, _, _, _]) hc dX2_init_85 pX2_45 rfl zP_zh25 rfl rfl ?_
        generalize ezh26 : up _ _ _ = zh26
        have zzland_zh26 := LandAt.mv ezh26 (by simp) zzland_zh25
        have zP_zh26 := (congrFun ezh26 _).symm.trans (up_same _ _ _)
        have zP51_zh26 := (congrFun ezh26 _).symm.trans ((up_ne (by simp)).trans zP51_zh25)
        have zP52_zh26 := (congrFun ezh26 _).symm.trans ((up_ne (by simp)).trans zP52_zh25)
        have zP54_zh26 := (congrFun ezh26 _).symm.trans ((up_ne (by simp)).trans zP54_zh25)
        refine j_aload_n hc dX2_init_88 rfl ?_
        refine j_iconst hc dX2_init_89 ?_
        refine j_newI (nm := (55, i)) hc dX2_init_90 ka_int ((congrFun ezh26 _).symm.trans ((up_ne (by simp)).trans ((congrFun ezh25 _).symm.trans ((up_ne (by simp)).trans ((congrFun ezh24 _).symm.trans ((up_ne (by simp)).trans ((congrFun ezh23 _).symm.trans ((up_ne (by simp)).trans ((congrFun ezh22 _).symm.trans ((up_ne (by simp)).trans ((congrFun ezh5 _).symm.trans ((up_ne (by simp)).trans ((congrFun ezh4 _).symm.trans ((up_ne (by simp)).trans ((congrFun ezh3 _).symm.trans ((up_ne (by simp)).trans ((congrFun ezh2 _).symm.trans ((up_ne (by simp)).trans ((congrFun ezh1 _).symm.trans ((up_ne (by simp)).trans q55)))))))))))))))))))) (by omega) (by omega) (by omega) (by omega) ?_
        generalize ezh27 : up _ _ _ = zh27
        have zzland_zh27 := LandAt.mv ezh27 (by simp) zzland_zh26
        have zP_zh27 := (congrFun ezh27 _).symm.trans ((up_ne (by simp)).trans zP_zh26)
        have zP51_zh27 := (congrFun ezh27 _).symm.trans ((up_ne (by simp)).trans zP51_zh26)
        have zP52_zh27 := (congrFun ezh27 _).symm.trans ((up_ne (by simp)).trans zP52_zh26)
        have zP54_zh27 := (congrFun ezh27 _).symm.trans ((up_ne (by simp)).trans zP54_zh26)
        have zP55_zh27 := (congrFun ezh27 _).symm.trans (up_same _ _ _)
        refine j_putF (fs' := [_, _, _, _, _, _, _, _, _, _]) hc dX2_init_92 pX2_48 rfl zP_zh27 rfl rfl ?_
        generalize ezh28 : up _ _ _ = zh28
        have zzland_zh28 := LandAt.mv ezh28 (by simp) zzland_zh27
        have zP_zh28 := (congrFun ezh28 _).symm.trans (up_same _ _ _)
        have zP51_zh28 := (congrFun ezh28 _).symm.trans ((up_ne (by simp)).trans zP51_zh27)
        have zP52_zh28 := (congrFun ezh28 _).symm.trans ((up_ne (by simp)).trans zP52_zh27)
        have zP54_zh28 := (congrFun ezh28 _).symm.trans ((up_ne (by simp)).trans zP54_zh27)
        have zP55_zh28 := (congrFun ezh28 _).symm.trans ((up_ne (by simp)).trans zP55_zh27)
        refine j_aload_n hc dX2_init_95 rfl ?_
        refine j_bipush hc dX2_init_96 (by decide) ?_
        refine j_newL (nm := (56, i)) hc dX2_init_98 ka_long ((congrFun ezh28 _).symm.trans ((up_ne (by simp)).trans ((congrFun ezh27 _).symm.trans ((up_ne (by simp)).trans ((congrFun ezh26 _).symm.trans ((up_ne (by simp)).trans ((congrFun ezh25 _).symm.trans ((up_ne (by simp)).trans ((congrFun ezh24 _).symm.trans ((up_ne (by simp)).trans ((congrFun ezh23 _).symm.trans ((up_ne (by simp)).trans ((congrFun ezh22 _).symm.trans ((up_ne (by simp)).trans ((congrFun ezh5 _).symm.trans ((up_ne (by simp)).trans ((congrFun ezh4 _).symm.trans ((up_ne (by simp)).trans ((congrFun ezh3 _).symm.trans ((up_ne (by simp)).trans ((congrFun ezh2 _).symm.trans ((up_ne (by simp)).trans ((congrFun ezh1 _).symm.trans ((up_ne (by simp)).trans q56)))))))))))))))))))))))) (by omega) (by omega) (by omega) (by omega) ?_
        generalize ezh29 : up _ _ _ = zh29
        have zzland_zh29 := LandAt.mv ezh29 (by simp) zzland_zh28
        have zP_zh29 := (congrFun ezh29 _).symm.trans ((up_ne (by simp)).trans zP_zh28)
        have zP51_zh29 := (congrFun ezh29 _).symm.trans ((up_ne (by simp)).trans zP51_zh28)
        have zP52_zh29 := (congrFun ezh29 _).symm.trans ((up_ne (by simp)).trans zP52_zh28)
        have zP54_zh29 := (congrFun ezh29 _).symm.trans ((up_ne (by simp)).trans zP54_zh28)
        have zP55_zh29 := (congrFun ezh29 _).symm.trans ((up_ne (by simp)).trans zP55_zh28)
        have zP56_zh29 := (congrFun ezh29 _).symm.trans (up_same _ _ _)
        refine j_putF (fs' := [_, _, _, _, _, _, _, _, _, _]) hc dX2_init_100 pX2_51 rfl zP_zh29 rfl rfl ?_
        generalize ezh30 : up _ _ _ = zh30
        have zzland_zh30 := LandAt.mv ezh30 (by simp) zzland_zh29
        have zP_zh30 := (congrFun ezh30 _).symm.trans (up_same _ _ _)
        have zP51_zh30 := (congrFun ezh30 _).symm.trans ((up_ne (by simp)).trans zP51_zh29)
        have zP52_zh30 := (congrFun ezh30 _).symm.trans ((up_ne (by simp)).trans zP52_zh29)
        have zP54_zh30 := (congrFun ezh30 _).symm.trans ((up_ne (by simp)).trans zP54_zh29)
        have zP55_zh30 := (congrFun ezh30 _).symm.trans ((up_ne (by simp)).trans zP55_zh29)
        have zP56_zh30 := (congrFun ezh30 _).symm.trans ((up_ne (by simp)).trans zP56_zh29)
        exact j_vret hc he dX2_init_103 rfl (by omega) (by omega) (by
          first
            | (exfalso; omega)
            | exact ⟨rfl, ⟨by rw [zP_zh30]; unfold gnS pF; first | rw [if_pos (by omega)] | rw [if_neg (by omega)], zP51_zh30.trans (by congr 3; omega), zP52_zh30.trans (by unfold blS; first | (rw [if_pos (by omega)]; congr 3; omega) | rw [if_neg (by omega)]; rfl), zP54_zh30, zP55_zh30, ⟨_, zP56_zh30⟩, PlV.new _⟩, by rw [← ezh30, ← ezh29, ← ezh28, ← ezh27, ← ezh26, ← ezh25, ← ezh24, ← ezh23, ← ezh22, ← ezh5, ← ezh4, ← ezh3, ← ezh2, ← ezh1]; exact ((((((((((((((Fr.rf _ _).push ⟨by simp, by simp, by simp, rfl⟩).push ⟨by simp, by simp, by simp, rfl⟩).push ⟨by simp, by simp, by simp, rfl⟩).push ⟨by simp, by simp, by simp, rfl⟩).push ⟨by simp, by simp, by simp, rfl⟩).push ⟨by simp, by simp, by simp, rfl⟩).push ⟨by simp, by simp, by simp, rfl⟩).push ⟨by simp, by simp, by simp, rfl⟩).push ⟨by simp, by simp, by simp, rfl⟩).push ⟨by simp, by simp, by simp, rfl⟩).push ⟨by simp, by simp, by simp, rfl⟩).push ⟨by simp, by simp, by simp, rfl⟩).push ⟨by simp, by simp, by simp, rfl⟩).push ⟨by simp, by simp, by simp, rfl⟩⟩)
      · refine j_aload_n hc dX2_init_67 rfl ?_
        refine j_get hc dX2_init_68 fX2_36 zzland_zh23.1 rfl ?_
        refine j_goto (tgt := 78) hc dX2_init_71 (by decide) ?_
        refine j_putF (fs' := [_, _, _, _, _, _, _, _, _, _]) hc dX2_init_78 pX2_42 rfl zP_zh23 rfl rfl ?_
        generalize ezh31 : up _ _ _ = zh31
        have zzland_zh31 := LandAt.mv ezh31 (by simp) zzland_zh23
        have zP_zh31 := (congrFun ezh31 _).symm.trans (up_same _ _ _)
        have zP51_zh31 := (congrFun ezh31 _).symm.trans ((up_ne (by simp)).trans zP51_zh23)
        have zP52_zh31 := (congrFun ezh31 _).symm.trans ((up_ne (by simp)).trans zP52_zh23)
        refine j_aload_n hc dX2_init_81 rfl ?_
        refine j_iconst hc dX2_init_82 ?_
        refine j_newI (nm := (54, i)) hc dX2_init_83 ka_int ((congrFun ezh31 _).symm.trans ((up_ne (by simp)).trans ((congrFun ezh23 _).symm.trans ((up_ne (by simp)).trans ((congrFun ezh22 _).symm.trans ((up_ne (by simp)).trans ((congrFun ezh5 _).symm.trans ((up_ne (by simp)).trans ((congrFun ezh4 _).symm.trans ((up_ne (by simp)).trans ((congrFun ezh3 _).symm.trans ((up_ne (by simp)).trans ((congrFun ezh2 _).symm.trans ((up_ne (by simp)).trans ((congrFun ezh1 _).symm.trans ((up_ne (by simp)).trans q54)))))))))))))))) (by omega) (by omega) (by omega) (by omega) ?_
        generalize ezh32 : up _ _ _ = zh32
        have zzland_zh32 := LandAt.mv ezh32 (by simp) zzland_zh31
        have zP_zh32 := (congrFun ezh32 _).symm.trans ((up_ne (by simp)).trans zP_zh31)
        have zP51_zh32 := (congrFun ezh32 _).symm.trans ((up_ne (by simp)).trans zP51_zh31)
        have zP52_zh32 := (congrFun ezh32 _).symm.trans ((up_ne (by simp)).trans zP52_zh31)
        have zP54_zh32 := (congrFun ezh32 _).symm.trans (up_same _ _ _)
        refine j_putF (fs' := [_, _, _, _, _, _, _, _, _, _]) hc dX2_init_85 pX2_45 rfl zP_zh32 rfl rfl ?_
        generalize ezh33 : up _ _ _ = zh33
        have zzland_zh33 := LandAt.mv ezh33 (by simp) zzland_zh32
        have zP_zh33 := (congrFun ezh33 _).symm.trans (up_same _ _ _)
        have zP51_zh33 := (congrFun ezh33 _).symm.trans ((up_ne (by simp)).trans zP51_zh32)
        have zP52_zh33 := (congrFun ezh33 _).symm.trans ((up_ne (by simp)).trans zP52_zh32)
        have zP54_zh33 := (congrFun ezh33 _).symm.trans ((up_ne (by simp)).trans zP54_zh32)
        refine j_aload_n hc dX2_init_88 rfl ?_
        refine j_iconst hc dX2_init_89 ?_
        refine j_newI (nm := (55, i)) hc dX2_init_90 ka_int ((congrFun ezh33 _).symm.trans ((up_ne (by simp)).trans ((congrFun ezh32 _).symm.trans ((up_ne (by simp)).trans ((congrFun ezh31 _).symm.trans ((up_ne (by simp)).trans ((congrFun ezh23 _).symm.trans ((up_ne (by simp)).trans ((congrFun ezh22 _).symm.trans ((up_ne (by simp)).trans ((congrFun ezh5 _).symm.trans ((up_ne (by simp)).trans ((congrFun ezh4 _).symm.trans ((up_ne (by simp)).trans ((congrFun ezh3 _).symm.trans ((up_ne (by simp)).trans ((congrFun ezh2 _).symm.trans ((up_ne (by simp)).trans ((congrFun ezh1 _).symm.trans ((up_ne (by simp)).trans q55)))))))))))))))))))) (by omega) (by omega) (by omega) (by omega) ?_
        generalize ezh34 : up _ _ _ = zh34
        have zzland_zh34 := LandAt.mv ezh34 (by simp) zzland_zh33
        have zP_zh34 := (congrFun ezh34 _).symm.trans ((up_ne (by simp)).trans zP_zh33)
        have zP51_zh34 := (congrFun ezh34 _).symm.trans ((up_ne (by simp)).trans zP51_zh33)
        have zP52_zh34 := (congrFun ezh34 _).symm.trans ((up_ne (by simp)).trans zP52_zh33)
        have zP54_zh34 := (congrFun ezh34 _).symm.trans ((up_ne (by simp)).trans zP54_zh33)
        have zP55_zh34 := (congrFun ezh34 _).symm.trans (up_same _ _ _)
        refine j_putF (fs' := [_, _, _, _, _, _, _, _, _, _]) hc dX2_init_92 pX2_48 rfl zP_zh34 rfl rfl ?_
        generalize ezh35 : up _ _ _ = zh35
        have zzland_zh35 := LandAt.mv ezh35 (by simp) zzland_zh34
        have zP_zh35 := (congrFun ezh35 _).symm.trans (up_same _ _ _)
        have zP51_zh35 := (congrFun ezh35 _).symm.trans ((up_ne (by simp)).trans zP51_zh34)
        have zP52_zh35 := (congrFun ezh35 _).symm.trans ((up_ne (by simp)).trans zP52_zh34)
        have zP54_zh35 := (congrFun ezh35 _).symm.trans ((up_ne (by simp)).trans zP54_zh34)
        have zP55_zh35 := (congrFun ezh35 _).symm.trans ((up_ne (by simp)).trans zP55_zh34)
        refine j_aload_n hc dX2_init_95 rfl ?_
        refine j_bipush hc dX2_init_96 (by decide) ?_
        refine j_newL (nm := (56, i)) hc dX2_init_98 ka_long ((congrFun ezh35 _).symm.trans ((up_ne (by simp)).trans ((congrFun ezh34 _).symm.trans ((up_ne (by simp)).trans ((congrFun ezh33 _).symm.trans ((up_ne (by simp)).trans ((congrFun ezh32 _).symm.trans ((up_ne (by simp)).trans ((congrFun ezh31 _).symm.trans ((up_ne (by simp)).trans ((congrFun ezh23 _).symm.trans ((up_ne (by simp)).trans ((congrFun ezh22 _).symm.trans ((up_ne (by simp)).trans ((congrFun ezh5 _).symm.trans ((up_ne (by simp)).trans ((congrFun ezh4 _).symm.trans ((up_ne (by simp)).trans ((congrFun ezh3 _).symm.trans ((up_ne (by simp)).trans ((congrFun ezh2 _).symm.trans ((up_ne (by simp)).trans ((congrFun ezh1 _).symm.trans ((up_ne (by simp)).trans q56)))))))))))))))))))))))) (by omega) (by omega) (by omega) (by omega) ?_
        generalize ezh36 : up _ _ _ = zh36
        have zzland_zh36 := LandAt.mv ezh36 (by simp) zzland_zh35
        have zP_zh36 := (congrFun ezh36 _).symm.trans ((up_ne (by simp)).trans zP_zh35)
        have zP51_zh36 := (congrFun ezh36 _).symm.trans ((up_ne (by simp)).trans zP51_zh35)
        have zP52_zh36 := (congrFun ezh36 _).symm.trans ((up_ne (by simp)).trans zP52_zh35)
        have zP54_zh36 := (congrFun ezh36 _).symm.trans ((up_ne (by simp)).trans zP54_zh35)
        have zP55_zh36 := (congrFun ezh36 _).symm.trans ((up_ne (by simp)).trans zP55_zh35)
        have zP56_zh36 := (congrFun ezh36 _).symm.trans (up_same _ _ _)
        refine j_putF (fs' := [_, _, _, _, _, _, _, _, _, _]) hc dX2_init_100 pX2_51 rfl zP_zh36 rfl rfl ?_
        generalize ezh37 : up _ _ _ = zh37
        have zzland_zh37 := LandAt.mv ezh37 (by simp) zzland_zh36
        have zP_zh37 := (congrFun ezh37 _).symm.trans (up_same _ _ _)
        have zP51_zh37 := (congrFun ezh37 _).symm.trans ((up_ne (by simp)).trans zP51_zh36)
        have zP52_zh37 := (congrFun ezh37 _).symm.trans ((up_ne (by simp)).trans zP52_zh36)
        have zP54_zh37 := (congrFun ezh37 _).symm.trans ((up_ne (by simp)).trans zP54_zh36)
        have zP55_zh37 := (congrFun ezh37 _).symm.trans ((up_ne (by simp)).trans zP55_zh36)
        have zP56_zh37 := (congrFun ezh37 _).symm.trans ((up_ne (by simp)).trans zP56_zh36)
        exact j_vret hc he dX2_init_103 rfl (by omega) (by omega) (by
          first
            | (exfalso; omega)
            | exact ⟨rfl, ⟨by rw [zP_zh37]; unfold gnS pF; first | rw [if_pos (by omega)] | rw [if_neg (by omega)], zP51_zh37.trans (by congr 3; omega), zP52_zh37.trans (by unfold blS; first | (rw [if_pos (by omega)]; congr 3; omega) | rw [if_neg (by omega)]; rfl), zP54_zh37, zP55_zh37, ⟨_, zP56_zh37⟩, PlV.new _⟩, by rw [← ezh37, ← ezh36, ← ezh35, ← ezh34, ← ezh33, ← ezh32, ← ezh31, ← ezh23, ← ezh22, ← ezh5, ← ezh4, ← ezh3, ← ezh2, ← ezh1]; exact ((((((((((((((Fr.rf _ _).push ⟨by simp, by simp, by simp, rfl⟩).push ⟨by simp, by simp, by simp, rfl⟩).push ⟨by simp, by simp, by simp, rfl⟩).push ⟨by simp, by simp, by simp, rfl⟩).push ⟨by simp, by simp, by simp, rfl⟩).push ⟨by simp, by simp, by simp, rfl⟩).push ⟨by simp, by simp, by simp, rfl⟩).push ⟨by simp, by simp, by simp, rfl⟩).push ⟨by simp, by simp, by simp, rfl⟩).push ⟨by simp, by simp, by simp, rfl⟩).push ⟨by simp, by simp, by simp, rfl⟩).push ⟨by simp, by simp, by simp, rfl⟩).push ⟨by simp, by simp, by simp, rfl⟩).push ⟨by simp, by simp, by simp, rfl⟩⟩)
    · refine j_iload_n hc dX2_init_51 rfl ?_
      refine j_goto (tgt := 56) hc dX2_init_52 (by decide) ?_
      refine j_newL (nm := (52, i)) hc dX2_init_56 ka_long ((congrFun ezh5 _).symm.trans ((up_ne (by simp)).trans ((congrFun ezh4 _).symm.trans ((up_ne (by simp)).trans ((congrFun ezh3 _).symm.trans ((up_ne (by simp)).trans ((congrFun ezh2 _).symm.trans ((up_ne (by simp)).trans ((congrFun ezh1 _).symm.trans ((up_ne (by simp)).trans q52)))))))))) (by omega) (by omega) (by omega) (by omega) ?_
      generalize ezh38 : up _ _ _ = zh38
      have zzland_zh38 := LandAt.mv ezh38 (by simp) zzland_zh5
      have zP_zh38 := (congrFun ezh38 _).symm.trans ((up_ne (by simp)).trans zP_zh5)
      have zP51_zh38 := (congrFun ezh38 _).symm.trans ((up_ne (by simp)).trans zP51_zh5)
      have zP52_zh38 := (congrFun ezh38 _).symm.trans (up_same _ _ _)
      refine j_putF (fs' := [_, _, _, _, _, _, _, _, _, _]) hc dX2_init_58 pX2_32 rfl zP_zh38 rfl rfl ?_
      generalize ezh39 : up _ _ _ = zh39
      have zzland_zh39 := LandAt.mv ezh39 (by simp) zzland_zh38
      have zP_zh39 := (congrFun ezh39 _).symm.trans (up_same _ _ _)
      have zP51_zh39 := (congrFun ezh39 _).symm.trans ((up_ne (by simp)).trans zP51_zh38)
      have zP52_zh39 := (congrFun ezh39 _).symm.trans ((up_ne (by simp)).trans zP52_zh38)
      refine j_aload_n hc dX2_init_61 rfl ?_
      refine j_iload_n hc dX2_init_62 rfl ?_
      refine j_iconst hc dX2_init_63 ?_
      refine j_icmp_ne (tgt := 74) hc dX2_init_64 (by decide) ⟨by omega, by omega⟩ ⟨by omega, by omega⟩ (fun zc5 => ?_) (fun zc5 => ?_)
      · refine j_aload_n hc dX2_init_74 rfl ?_
        refine j_get hc dX2_init_75 fX2_39 zzland_zh39.1 rfl ?_
        refine j_putF (fs' := [_, _, _, _, _, _, _, _, _, _]) hc dX2_init_78 pX2_42 rfl zP_zh39 rfl rfl ?_
        generalize ezh40 : up _ _ _ = zh40
        have zzland_zh40 := LandAt.mv ezh40 (by simp) zzland_zh39
        have zP_zh40 := (congrFun ezh40 _).symm.trans (up_same _ _ _)
        have zP51_zh40 := (congrFun ezh40 _).symm.trans ((up_ne (by simp)).trans zP51_zh39)
        have zP52_zh40 := (congrFun ezh40 _).symm.trans ((up_ne (by simp)).trans zP52_zh39)
        refine j_aload_n hc dX2_init_81 rfl ?_
        refine j_iconst hc dX2_init_82 ?_
        refine j_newI (nm := (54, i)) hc dX2_init_83 ka_int ((congrFun ezh40 _).symm.trans ((up_ne (by simp)).trans ((congrFun ezh39 _).symm.trans ((up_ne (by simp)).trans ((congrFun ezh38 _).symm.trans ((up_ne (by simp)).trans ((congrFun ezh5 _).symm.trans ((up_ne (by simp)).trans ((congrFun ezh4 _).symm.trans ((up_ne (by simp)).trans ((congrFun ezh3 _).symm.trans ((up_ne (by simp)).trans ((congrFun ezh2 _).symm.trans ((up_ne (by simp)).trans ((congrFun ezh1 _).symm.trans ((up_ne (by simp)).trans q54)))))))))))))))) (by omega) (by omega) (by omega) (by omega) ?_
        generalize ezh41 : up _ _ _ = zh41
        have zzland_zh41 := LandAt.mv ezh41 (by simp) zzland_zh40
        have zP_zh41 := (congrFun ezh41 _).symm.trans ((up_ne (by simp)).trans zP_zh40)
        have zP51_zh41 := (congrFun ezh41 _).symm.trans ((up_ne (by simp)).trans zP51_zh40)
        have zP52_zh41 := (congrFun ezh41 _).symm.trans ((up_ne (by simp)).trans zP52_zh40)
        have zP54_zh41 := (congrFun ezh41 _).symm.trans (up_same _ _ _)
        refine j_putF (fs' := [_, _, _, _, _, _, _, _, _, _]) hc dX2_init_85 pX2_45 rfl zP_zh41 rfl rfl ?_
        generalize ezh42 : up _ _ _ = zh42
        have zzland_zh42 := LandAt.mv ezh42 (by simp) zzland_zh41
        have zP_zh42 := (congrFun ezh42 _).symm.trans (up_same _ _ _)
        have zP51_zh42 := (congrFun ezh42 _).symm.trans ((up_ne (by simp)).trans zP51_zh41)
        have zP52_zh42 := (congrFun ezh42 _).symm.trans ((up_ne (by simp)).trans zP52_zh41)
        have zP54_zh42 := (congrFun ezh42 _).symm.trans ((up_ne (by simp)).trans zP54_zh41)
        refine j_aload_n hc dX2_init_88 rfl ?_
        refine j_iconst hc dX2_init_89 ?_
        refine j_newI (nm := (55, i)) hc dX2_init_90 ka_int ((congrFun ezh42 _).symm.trans ((up_ne (by simp)).trans ((congrFun ezh41 _).symm.trans ((up_ne (by simp)).trans ((congrFun ezh40 _).symm.trans ((up_ne (by simp)).trans ((congrFun ezh39 _).symm.trans ((up_ne (by simp)).trans ((congrFun ezh38 _).symm.trans ((up_ne (by simp)).trans ((congrFun ezh5 _).symm.trans ((up_ne (by simp)).trans ((congrFun ezh4 _).symm.trans ((up_ne (by simp)).trans ((congrFun ezh3 _).symm.trans ((up_ne (by simp)).trans ((congrFun ezh2 _).symm.trans ((up_ne (by simp)).trans ((congrFun ezh1 _).symm.trans ((up_ne (by simp)).trans q55)))))))))))))))))))) (by omega) (by omega) (by omega) (by omega) ?_
        generalize ezh43 : up _ _ _ = zh43
        have zzland_zh43 := LandAt.mv ezh43 (by simp) zzland_zh42
        have zP_zh43 := (congrFun ezh43 _).symm.trans ((up_ne (by simp)).trans zP_zh42)
        have zP51_zh43 := (congrFun ezh43 _).symm.trans ((up_ne (by simp)).trans zP51_zh42)
        have zP52_zh43 := (congrFun ezh43 _).symm.trans ((up_ne (by simp)).trans zP52_zh42)
        have zP54_zh43 := (congrFun ezh43 _).symm.trans ((up_ne (by simp)).trans zP54_zh42)
        have zP55_zh43 := (congrFun ezh43 _).symm.trans (up_same _ _ _)
        refine j_putF (fs' := [_, _, _, _, _, _, _, _, _, _]) hc dX2_init_92 pX2_48 rfl zP_zh43 rfl rfl ?_
        generalize ezh44 : up _ _ _ = zh44
        have zzland_zh44 := LandAt.mv ezh44 (by simp) zzland_zh43
        have zP_zh44 := (congrFun ezh44 _).symm.trans (up_same _ _ _)
        have zP51_zh44 := (congrFun ezh44 _).symm.trans ((up_ne (by simp)).trans zP51_zh43)
        have zP52_zh44 := (congrFun ezh44 _).symm.trans ((up_ne (by simp)).trans zP52_zh43)
        have zP54_zh44 := (congrFun ezh44 _).symm.trans ((up_ne (by simp)).trans zP54_zh43)
        have zP55_zh44 := (congrFun ezh44 _).symm.trans ((up_ne (by simp)).trans zP55_zh43)
        refine j_aload_n hc dX2_init_95 rfl ?_
        refine j_bipush hc dX2_init_96 (by decide) ?_
        refine j_newL (nm := (56, i)) hc dX2_init_98 ka_long ((congrFun ezh44 _).symm.trans ((up_ne (by simp)).trans ((congrFun ezh43 _).symm.trans ((up_ne (by simp)).trans ((congrFun ezh42 _).symm.trans ((up_ne (by simp)).trans ((congrFun ezh41 _).symm.trans ((up_ne (by simp)).trans ((congrFun ezh40 _).symm.trans ((up_ne (by simp)).trans ((congrFun ezh39 _).symm.trans ((up_ne (by simp)).trans ((congrFun ezh38 _).symm.trans ((up_ne (by simp)).trans ((congrFun ezh5 _).symm.trans ((up_ne (by simp)).trans ((congrFun ezh4 _).symm.trans ((up_ne (by simp)).trans ((congrFun ezh3 _).symm.trans ((up_ne (by simp)).trans ((congrFun ezh2 _).symm.trans ((up_ne (by simp)).trans ((congrFun ezh1 _).symm.trans ((up_ne (by simp)).trans q56)))))))))))))))))))))))) (by omega) (by omega) (by omega) (by omega) ?_
        generalize ezh45 : up _ _ _ = zh45
        have zzland_zh45 := LandAt.mv ezh45 (by simp) zzland_zh44
        have zP_zh45 := (congrFun ezh45 _).symm.trans ((up_ne (by simp)).trans zP_zh44)
        have zP51_zh45 := (congrFun ezh45 _).symm.trans ((up_ne (by simp)).trans zP51_zh44)
        have zP52_zh45 := (congrFun ezh45 _).symm.trans ((up_ne (by simp)).trans zP52_zh44)
        have zP54_zh45 := (congrFun ezh45 _).symm.trans ((up_ne (by simp)).trans zP54_zh44)
        have zP55_zh45 := (congrFun ezh45 _).symm.trans ((up_ne (by simp)).trans zP55_zh44)
        have zP56_zh45 := (congrFun ezh45 _).symm.trans (up_same _ _ _)
        refine j_putF (fs' := [_, _, _, _, _, _, _, _, _, _]) hc dX2_init_100 pX2_51 rfl zP_zh45 rfl rfl ?_
        generalize ezh46 : up _ _ _ = zh46
        have zzland_zh46 := LandAt.mv ezh46 (by simp) zzland_zh45
        have zP_zh46 := (congrFun ezh46 _).symm.trans (up_same _ _ _)
        have zP51_zh46 := (congrFun ezh46 _).symm.trans ((up_ne (by simp)).trans zP51_zh45)
        have zP52_zh46 := (congrFun ezh46 _).symm.trans ((up_ne (by simp)).trans zP52_zh45)
        have zP54_zh46 := (congrFun ezh46 _).symm.trans ((up_ne (by simp)).trans zP54_zh45)
        have zP55_zh46 := (congrFun ezh46 _).symm.trans ((up_ne (by simp)).trans zP55_zh45)
        have zP56_zh46 := (congrFun ezh46 _).symm.trans ((up_ne (by simp)).trans zP56_zh45)
        exact j_vret hc he dX2_init_103 rfl (by omega) (by omega) (by
          first
            | (exfalso; omega)
            | exact ⟨rfl, ⟨by rw [zP_zh46]; unfold gnS pF; first | rw [if_pos (by omega)] | rw [if_neg (by omega)], zP51_zh46.trans (by congr 3; omega), zP52_zh46.trans (by unfold blS; first | (rw [if_pos (by omega)]; congr 3; omega) | rw [if_neg (by omega)]; rfl), zP54_zh46, zP55_zh46, ⟨_, zP56_zh46⟩, PlV.new _⟩, by rw [← ezh46, ← ezh45, ← ezh44, ← ezh43, ← ezh42, ← ezh41, ← ezh40, ← ezh39, ← ezh38, ← ezh5, ← ezh4, ← ezh3, ← ezh2, ← ezh1]; exact ((((((((((((((Fr.rf _ _).push ⟨by simp, by simp, by simp, rfl⟩).push ⟨by simp, by simp, by simp, rfl⟩).push ⟨by simp, by simp, by simp, rfl⟩).push ⟨by simp, by simp, by simp, rfl⟩).push ⟨by simp, by simp, by simp, rfl⟩).push ⟨by simp, by simp, by simp, rfl⟩).push ⟨by simp, by simp, by simp, rfl⟩).push ⟨by simp, by simp, by simp, rfl⟩).push ⟨by simp, by simp, by simp, rfl⟩).push ⟨by simp, by simp, by simp, rfl⟩).push ⟨by simp, by simp, by simp, rfl⟩).push ⟨by simp, by simp, by simp, rfl⟩).push ⟨by simp, by simp, by simp, rfl⟩).push ⟨by simp, by simp, by simp, rfl⟩⟩)
      · refine j_aload_n hc dX2_init_67 rfl ?_
        refine j_get hc dX2_init_68 fX2_36 zzland_zh39.1 rfl ?_
        refine j_goto (tgt := 78) hc dX2_init_71 (by decide) ?_
        refine j_putF (fs' := [_, _, _, _, _, _, _, _, _, _]) hc dX2_init_78 pX2_42 rfl zP_zh39 rfl rfl ?_
        generalize ezh47 : up _ _ _ = zh47
        have zzland_zh47 := LandAt.mv ezh47 (by simp) zzland_zh39
        have zP_zh47 := (congrFun ezh47 _).symm.trans (up_same _ _ _)
        have zP51_zh47 := (congrFun ezh47 _).symm.trans ((up_ne (by simp)).trans zP51_zh39)
        have zP52_zh47 := (congrFun ezh47 _).symm.trans ((up_ne (by simp)).trans zP52_zh39)
        refine j_aload_n hc dX2_init_81 rfl ?_
        refine j_iconst hc dX2_init_82 ?_
        refine j_newI (nm := (54, i)) hc dX2_init_83 ka_int ((congrFun ezh47 _).symm.trans ((up_ne (by simp)).trans ((congrFun ezh39 _).symm.trans ((up_ne (by simp)).trans ((congrFun ezh38 _).symm.trans ((up_ne (by simp)).trans ((congrFun ezh5 _).symm.trans ((up_ne (by simp)).trans ((congrFun ezh4 _).symm.trans ((up_ne (by simp)).trans ((congrFun ezh3 _).symm.trans ((up_ne (by simp)).trans ((congrFun ezh2 _).symm.trans ((up_ne (by simp)).trans ((congrFun ezh1 _).symm.trans ((up_ne (by simp)).trans q54)))))))))))))))) (by omega) (by omega) (by omega) (by omega) ?_
        generalize ezh48 : up _ _ _ = zh48
        have zzland_zh48 := LandAt.mv ezh48 (by simp) zzland_zh47
        have zP_zh48 := (congrFun ezh48 _).symm.trans ((up_ne (by simp)).trans zP_zh47)
        have zP51_zh48 := (congrFun ezh48 _).symm.trans ((up_ne (by simp)).trans zP51_zh47)
        have zP52_zh48 := (congrFun ezh48 _).symm.trans ((up_ne (by simp)).trans zP52_zh47)
        have zP54_zh48 := (congrFun ezh48 _).symm.trans (up_same _ _ _)
        refine j_putF (fs' := [_, _, _, _, _, _, _, _, _, _]) hc dX2_init_85 pX2_45 rfl zP_zh48 rfl rfl ?_
        generalize ezh49 : up _ _ _ = zh49
        have zzland_zh49 := LandAt.mv ezh49 (by simp) zzland_zh48
        have zP_zh49 := (congrFun ezh49 _).symm.trans (up_same _ _ _)
        have zP51_zh49 := (congrFun ezh49 _).symm.trans ((up_ne (by simp)).trans zP51_zh48)
        have zP52_zh49 := (congrFun ezh49 _).symm.trans ((up_ne (by simp)).trans zP52_zh48)
        have zP54_zh49 := (congrFun ezh49 _).symm.trans ((up_ne (by simp)).trans zP54_zh48)
        refine j_aload_n hc dX2_init_88 rfl ?_
        refine j_iconst hc dX2_init_89 ?_
        refine j_newI (nm := (55, i)) hc dX2_init_90 ka_int ((congrFun ezh49 _).symm.trans ((up_ne (by simp)).trans ((congrFun ezh48 _).symm.trans ((up_ne (by simp)).trans ((congrFun ezh47 _).symm.trans ((up_ne (by simp)).trans ((congrFun ezh39 _).symm.trans ((up_ne (by simp)).trans ((congrFun ezh38 _).symm.trans ((up_ne (by simp)).trans ((congrFun ezh5 _).symm.trans ((up_ne (by simp)).trans ((congrFun ezh4 _).symm.trans ((up_ne (by simp)).trans ((congrFun ezh3 _).symm.trans ((up_ne (by simp)).trans ((congrFun ezh2 _).symm.trans ((up_ne (by simp)).trans ((congrFun ezh1 _).symm.trans ((up_ne (by simp)).trans q55)))))))))))))))))))) (by omega) (by omega) (by omega) (by omega) ?_
        generalize ezh50 : up _ _ _ = zh50
        have zzland_zh50 := LandAt.mv ezh50 (by simp) zzland_zh49
        have zP_zh50 := (congrFun ezh50 _).symm.trans ((up_ne (by simp)).trans zP_zh49)
        have zP51_zh50 := (congrFun ezh50 _).symm.trans ((up_ne (by simp)).trans zP51_zh49)
        have zP52_zh50 := (congrFun ezh50 _).symm.trans ((up_ne (by simp)).trans zP52_zh49)
        have zP54_zh50 := (congrFun ezh50 _).symm.trans ((up_ne (by simp)).trans zP54_zh49)
        have zP55_zh50 := (congrFun ezh50 _).symm.trans (up_same _ _ _)
        refine j_putF (fs' := [_, _, _, _, _, _, _, _, _, _]) hc dX2_init_92 pX2_48 rfl zP_zh50 rfl rfl ?_
        generalize ezh51 : up _ _ _ = zh51
        have zzland_zh51 := LandAt.mv ezh51 (by simp) zzland_zh50
        have zP_zh51 := (congrFun ezh51 _).symm.trans (up_same _ _ _)
        have zP51_zh51 := (congrFun ezh51 _).symm.trans ((up_ne (by simp)).trans zP51_zh50)
        have zP52_zh51 := (congrFun ezh51 _).symm.trans ((up_ne (by simp)).trans zP52_zh50)
        have zP54_zh51 := (congrFun ezh51 _).symm.trans ((up_ne (by simp)).trans zP54_zh50)
        have zP55_zh51 := (congrFun ezh51 _).symm.trans ((up_ne (by simp)).trans zP55_zh50)
        refine j_aload_n hc dX2_init_95 rfl ?_
        refine j_bipush hc dX2_init_96 (by decide) ?_
        refine j_newL (nm := (56, i)) hc dX2_init_98 ka_long ((congrFun ezh51 _).symm.trans ((up_ne (by simp)).trans ((congrFun ezh50 _).symm.trans ((up_ne (by simp)).trans ((congrFun ezh49 _).symm.trans ((up_ne (by simp)).trans ((congrFun ezh48 _).symm.trans ((up_ne (by simp)).trans ((congrFun ezh47 _).symm.trans ((up_ne (by simp)).trans ((congrFun ezh39 _).symm.trans ((up_ne (by simp)).trans ((congrFun ezh38 _).symm.trans ((up_ne (by simp)).trans ((congrFun ezh5 _).symm.trans ((up_ne (by simp)).trans ((congrFun ezh4 _).symm.trans ((up_ne (by simp)).trans ((congrFun ezh3 _).symm.trans ((up_ne (by simp)).trans ((congrFun ezh2 _).symm.trans ((up_ne (by simp)).trans ((congrFun ezh1 _).symm.trans ((up_ne (by simp)).trans q56)))))))))))))))))))))))) (by omega) (by omega) (by omega) (by omega) ?_
        generalize ezh52 : up _ _ _ = zh52
        have zzland_zh52 := LandAt.mv ezh52 (by simp) zzland_zh51
        have zP_zh52 := (congrFun ezh52 _).symm.trans ((up_ne (by simp)).trans zP_zh51)
        have zP51_zh52 := (congrFun ezh52 _).symm.trans ((up_ne (by simp)).trans zP51_zh51)
        have zP52_zh52 := (congrFun ezh52 _).symm.trans ((up_ne (by simp)).trans zP52_zh51)
        have zP54_zh52 := (congrFun ezh52 _).symm.trans ((up_ne (by simp)).trans zP54_zh51)
        have zP55_zh52 := (congrFun ezh52 _).symm.trans ((up_ne (by simp)).trans zP55_zh51)
        have zP56_zh52 := (congrFun ezh52 _).symm.trans (up_same _ _ _)
        refine j_putF (fs' := [_, _, _, _, _, _, _, _, _, _]) hc dX2_init_100 pX2_51 rfl zP_zh52 rfl rfl ?_
        generalize ezh53 : up _ _ _ = zh53
        have zzland_zh53 := LandAt.mv ezh53 (by simp) zzland_zh52
        have zP_zh53 := (congrFun ezh53 _).symm.trans (up_same _ _ _)
        have zP51_zh53 := (congrFun ezh53 _).symm.trans ((up_ne (by simp)).trans zP51_zh52)
        have zP52_zh53 := (congrFun ezh53 _).symm.trans ((up_ne (by simp)).trans zP52_zh52)
        have zP54_zh53 := (congrFun ezh53 _).symm.trans ((up_ne (by simp)).trans zP54_zh52)
        have zP55_zh53 := (congrFun ezh53 _).symm.trans ((up_ne (by simp)).trans zP55_zh52)
        have zP56_zh53 := (congrFun ezh53 _).symm.trans ((up_ne (by simp)).trans zP56_zh52)
        exact j_vret hc he dX2_init_103 rfl (by omega) (by omega) (by
          first
            | (exfalso; omega)
            | exact ⟨rfl, ⟨by rw [zP_zh53]; unfold gnS pF; first | rw [if_pos (by omega)] | rw [if_neg (by omega)], zP51_zh53.trans (by congr 3; omega), zP52_zh53.trans (by unfold blS; first | (rw [if_pos (by omega)]; congr 3; omega) | rw [if_neg (by omega)]; rfl), zP54_zh53, zP55_zh53, ⟨_, zP56_zh53⟩, PlV.new _⟩, by rw [← ezh53, ← ezh52, ← ezh51, ← ezh50, ← ezh49, ← ezh48, ← ezh47, ← ezh39, ← ezh38, ← ezh5, ← ezh4, ← ezh3, ← ezh2, ← ezh1]; exact ((((((((((((((Fr.rf _ _).push ⟨by simp, by simp, by simp, rfl⟩).push ⟨by simp, by simp, by simp, rfl⟩).push ⟨by simp, by simp, by simp, rfl⟩).push ⟨by simp, by simp, by simp, rfl⟩).push ⟨by simp, by simp, by simp, rfl⟩).push ⟨by simp, by simp, by simp, rfl⟩).push ⟨by simp, by simp, by simp, rfl⟩).push ⟨by simp, by simp, by simp, rfl⟩).push ⟨by simp, by simp, by simp, rfl⟩).push ⟨by simp, by simp, by simp, rfl⟩).push ⟨by simp, by simp, by simp, rfl⟩).push ⟨by simp, by simp, by simp, rfl⟩).push ⟨by simp, by simp, by simp, rfl⟩).push ⟨by simp, by simp, by simp, rfl⟩⟩)
