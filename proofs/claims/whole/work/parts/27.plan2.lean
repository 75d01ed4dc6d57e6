/-! ===== forget, changeCost, fillRule, reckonTo ===== -/
set_option maxRecDepth 100000 in
set_option maxHeartbeats 4000000 in
theorem ev_X2_forget {k : WC} {d : Nat} {h : AH} {i l sr cs : Int} {wf : Option Nm} {gn : Nm} {lf wl : Int → Int} (hd : 2 ≤ d) (zp50 : h (50, i) = some (oO 2 (pF i l sr cs wf gn))) (zp54 : h (54, i) = some (oI 4 lf)) (zp55 : h (55, i) = some (oI 4 wl)) : Ev k d mdX2_forget h [vR (50, i)] 0 0 (pn fun h' => h' (50, i) = some (oO 2 (pF i l sr cs wf gn)) ∧ (∃ lf', h' (54, i) = some (oI 4 lf') ∧ ∀ j : Int, 0 ≤ j → j < 4 → lf' j = 0) ∧ (∃ wl', h' (55, i) = some (oI 4 wl') ∧ ∀ j : Int, 0 ≤ j → j < 4 → wl' j = 0) ∧ Fr (fun z => z = (54, i) ∨ z = (55, i)) h h') := by
  refine Ev.mk (by decide +kernel) [_] rfl (Nat.le_of_ble_eq_true rfl) (fun w hc he => ?_)
  refine j_aload_n hc dX2_forget_0 rfl ?_
  refine j_get hc dX2_forget_1 fX2_45 zp50 rfl ?_
  refine j_iconst hc dX2_forget_4 ?_
  refine j_callS (d' := d - 1) hc dX2_forget_5 sX2_54 (ev_J7_fill_53178 (by omega) (by omega) zp54) rfl (by omega) (by omega) (by omega) rfl rfl (Nat.le_of_ble_eq_true rfl) (retN fun zq5 zp5 => ?_)
  obtain ⟨⟨zl1, zl2, zl3⟩, zfr1⟩ := zp5
  have zf50 := (zfr1 (50, i) (by simp)).trans zp50
  have zf55 := (zfr1 (55, i) (by simp)).trans zp55
  refine j_aload_n hc dX2_forget_8 rfl ?_
  refine j_get hc dX2_forget_9 fX2_48 zf50 rfl ?_
  refine j_iconst hc dX2_forget_12 ?_
  refine j_callS (d' := d - 1) hc dX2_forget_13 sX2_54 (ev_J7_fill_53178 (by omega) (by omega) zf55) rfl (by omega) (by omega) (by omega) rfl rfl (Nat.le_of_ble_eq_true rfl) (retN fun zq13 zp13 => ?_)
  obtain ⟨⟨zm1, zm2, zm3⟩, zfr2⟩ := zp13
  exact j_vret hc he dX2_forget_16 rfl (by omega) (by omega) ⟨rfl, (zfr2 (50, i) (by simp)).trans zf50, ⟨zl1, (zfr2 (54, i) (by simp)).trans zl2, zl3⟩, ⟨zm1, zm2, zm3⟩, (zfr1.mono fun _ z => Or.inl z).tr (zfr2.mono fun _ z => Or.inr z)⟩
set_option maxRecDepth 100000 in
set_option maxHeartbeats 4000000 in
theorem ev_X2_changeCost {k : WC} {d : Nat} {h : AH} {i l sr cs c9 : Int} {wf : Option Nm} {gn : Nm} {lf wl : Int → Int} (hd : 3 ≤ d) (zp50 : h (50, i) = some (oO 2 (pF i l sr cs wf gn))) (zp54 : h (54, i) = some (oI 4 lf)) (zp55 : h (55, i) = some (oI 4 wl)) : Ev k d mdX2_changeCost h [vR (50, i), vI c9] 0 0 (pn fun h' => h' (50, i) = some (oO 2 (pF i l sr c9 wf gn)) ∧ (∃ lf', h' (54, i) = some (oI 4 lf') ∧ ∀ j : Int, 0 ≤ j → j < 4 → lf' j = 0) ∧ (∃ wl', h' (55, i) = some (oI 4 wl') ∧ ∀ j : Int, 0 ≤ j → j < 4 → wl' j = 0) ∧ Fr (fun z => z = (50, i) ∨ z = (54, i) ∨ z = (55, i)) h h') := by
  refine Ev.mk (by decide +kernel) [_, _] rfl (Nat.le_of_ble_eq_true rfl) (fun w hc he => ?_)
  refine j_aload_n hc dX2_changeCost_0 rfl ?_
  refine j_iload_n hc dX2_changeCost_1 rfl ?_
  refine j_put (fs' := pF i l sr c9 wf gn) hc dX2_changeCost_2 pX2_24 zp50 rfl rfl ?_
  generalize ezh1 : up _ _ _ = zh1
  have zP_zh1 := (congrFun ezh1 _).symm.trans (up_same _ _ _)
  have zP54_zh1 := (congrFun ezh1 _).symm.trans ((up_ne (by simp)).trans zp54)
  have zP55_zh1 := (congrFun ezh1 _).symm.trans ((up_ne (by simp)).trans zp55)
  refine j_aload_n hc dX2_changeCost_5 rfl ?_
  refine j_callV (d' := d - 1) hc dX2_changeCost_6 vX2_60 zP_zh1 (ev_X2_forget (by omega) zP_zh1 zP54_zh1 zP55_zh1) rfl (by omega) (by omega) (by omega) rfl rfl (Nat.le_of_ble_eq_true rfl) (retN fun zq6 zp6 => ?_)
  obtain ⟨zc1_, zc2_, zc3_, zc4_⟩ := zp6
  exact j_vret hc he dX2_changeCost_9 rfl (by omega) (by omega) ⟨rfl, zc1_, zc2_, zc3_, by rw [← ezh1] at zc4_; exact (Fr.up (P := fun z => z = (50, i) ∨ z = (54, i) ∨ z = (55, i)) (Or.inl rfl)).tr (zc4_.mono fun _ z => Or.inr z)⟩
set_option maxRecDepth 100000 in
set_option maxHeartbeats 4000000 in
theorem lp_X2_fillRule {k : WC} {d : Nat} {w : MC} {h : AH} {l : Int} {D : LaS} {E : LaY} {pl : Int → Option Nm} {i sr cs : Int} {ru : RU} {wf : Option Nm} {gn : Nm} {kf : Int → Int} {n s : Int} (hd : 4 ≤ d) (hD : LOK D) (hE : YOK E) (hn1 : 1 ≤ n) (hn : n ≤ 12) (hs0 : 0 ≤ s) (hs1 : s < lSe D)  (hc : Cx w k d 0 0 mdX2_fillRule) (he : Ends w 0 0 (pn fun h' => ∃ kf', h' (51, i) = some (oI ((lSe D).toNat * 492) kf') ∧ (∀ a : Int, 0 ≤ a → a ≤ 40 → kf' (ceS n s + a) = kuS D E ru n s a) ∧ (∀ x : Int, x < ceS n s ∨ ceS n s + 40 < x → kf' x = kf x) ∧ RuOK h' E ru ∧ Fr (fun z => z = (51, i) ∨ isOwn E z) h h')) : ∀ (zm : Nat) (a : Int) (h' : AH) (kf' : Int → Int) (z5 z6 : Option AV), (41 - a).toNat = zm → 0 ≤ a → a ≤ 41 → LandAt h' l D E pl → h' (50, i) = some (oO 2 (pF i l sr cs wf gn)) → h' (51, i) = some (oI ((lSe D).toNat * 492) kf') → RuOK h' E ru → (∀ b : Int, 0 ≤ b → b < a → kf' (ceS n s + b) = kuS D E ru n s b) → (∀ x : Int, x < ceS n s ∨ ceS n s + 40 < x → kf' x = kf x) → Fr (fun z => z = (51, i) ∨ isOwn E z) h h' → J w 0 0 9 [some (vR (50, i)), some (vI n), some (vI s), some (vI (ceS n s)), some (vI a), z5, z6] [] h' := by
  have zmo := moS_b hD hE
  have zce : ceS n s = (s * 12 + n - 1) * 41 := rfl
  have d2 := hD.2.1
  intro zm
  induction zm using Nat.strongRecOn with
  | _ zm ih =>
    intro a h' kf' z5 z6 hm ha0 ha1 hL zp50 zp51 hR hq1 hq2 hfr
    have zpr := prS_lo hD a
    refine j_iload hc dX2_fillRule_9 rfl ?_
    refine j_bipush hc dX2_fillRule_11 (by decide) ?_
    refine j_icmp_gt (tgt := 101) hc dX2_fillRule_13 (by decide) ⟨by omega, by omega⟩ ⟨by omega, by omega⟩ (fun zc1 => ?_) (fun zc1 => ?_)
    · exact j_vret hc he dX2_fillRule_101 rfl (by omega) (by omega) ⟨rfl, kf', zp51, fun b z0 z1 => hq1 b z0 (by omega), hq2, hR, hfr⟩
    · refine j_iload hc dX2_fillRule_16 rfl ?_
      refine j_aload_n hc dX2_fillRule_18 rfl ?_
      refine j_get hc dX2_fillRule_19 fX2_9 zp50 rfl ?_
      refine j_callV (d' := d - 1) hc dX2_fillRule_22 vX2_112 hL.1 (ev_X0_mostKept (by omega) hL hD hE) rfl (by omega) (by omega) (by omega) rfl rfl (Nat.le_of_ble_eq_true rfl) (ret1 ?_)
      refine j_mmin hc dX2_fillRule_25 mX2_116 mo_min ⟨by omega, by omega⟩ ⟨by omega, by omega⟩ (by omega) (by omega) rfl (by omega) (Nat.le_of_ble_eq_true rfl) ?_
      refine j_istore (L' := [_, _, _, _, _, _, _]) hc dX2_fillRule_28 (Nat.le_of_ble_eq_true rfl) rfl ?_
      refine j_iconst hc dX2_fillRule_30 ?_
      refine j_istore (L' := [_, _, _, _, _, _, _]) hc dX2_fillRule_31 (Nat.le_of_ble_eq_true rfl) rfl ?_
      refine j_iload_n hc dX2_fillRule_33 rfl ?_
      refine j_iconst hc dX2_fillRule_34 ?_
      refine j_icmp_le (tgt := 75) hc dX2_fillRule_35 (by decide) ⟨by omega, by omega⟩ ⟨by omega, by omega⟩ (fun zc2 => ?_) (fun zc2 => ?_)
      · refine j_aload_n hc dX2_fillRule_75 rfl ?_
        refine j_get hc dX2_fillRule_76 fX2_28 zp50 rfl ?_
        refine j_iload_n hc dX2_fillRule_79 rfl ?_
        refine j_iload hc dX2_fillRule_80 rfl ?_
        refine j_iadd hc dX2_fillRule_82 ?_
        refine j_iconst hc dX2_fillRule_83 ?_
        refine j_iload hc dX2_fillRule_84 rfl ?_
        refine j_iload hc dX2_fillRule_86 rfl ?_
        refine j_mmin hc dX2_fillRule_88 mX2_116 mo_min ⟨by omega, by omega⟩ ⟨by omega, by omega⟩ (by omega) (by omega) rfl (by omega) (Nat.le_of_ble_eq_true rfl) ?_
        refine j_mmax hc dX2_fillRule_91 mX2_161 mo_max ⟨by omega, by omega⟩ ⟨by omega, by omega⟩ (by omega) (by omega) rfl (by omega) (Nat.le_of_ble_eq_true rfl) ?_
        refine j_iast hc dX2_fillRule_94 zp51 (by omega) (by omega) ?_
        generalize ezh1 : up _ _ _ = zh1
        have zzland_zh1 := LandAt.mv ezh1 (by simp) hL
        have zP_zh1 := (congrFun ezh1 _).symm.trans ((up_ne (by simp)).trans zp50)
        have zP51_zh1 := (congrFun ezh1 _).symm.trans (up_same _ _ _)
        have zzru_zh1 := RuOK.mv ezh1 (by simp) hR
        refine j_iinc (L' := [_, _, _, _, _, _, _]) hc dX2_fillRule_95 rfl (Nat.le_of_ble_eq_true rfl) rfl ?_
        refine j_goto (tgt := 9) hc dX2_fillRule_98 (by decide) ?_
        exact ih _ (by omega) (a + 1) zh1 (fu kf' (ceS n s + a) _) _ _ rfl (by omega) (by omega) zzland_zh1 zP_zh1 zP51_zh1 zzru_zh1 (fun b z0 z1 => by
          by_cases ze : b = a
          · rw [ze, fu_same]; unfold kuS; first | (rw [if_neg (by omega)]; omega) | (rw [if_pos (by omega), zrn]; show _ = (0 : Int); omega) | rw [if_pos (by omega), zru]
          · rw [fu_ne (by omega)]; exact hq1 b z0 (by omega)) (fun x zx => by rw [fu_ne (by omega)]; exact hq2 x zx) (by rw [← ezh1]; exact Fr.push hfr (Or.inl rfl))
      · refine j_aload_n hc dX2_fillRule_38 rfl ?_
        refine j_get hc dX2_fillRule_39 fX2_9 zp50 rfl ?_
        refine j_get hc dX2_fillRule_42 fX2_151 hL.1 rfl ?_
        refine j_ifnull (tgt := 75) hc dX2_fillRule_45 (by decide) (fun zc3 => ?_) (fun zc3 => ?_)
        · have zrn : ru = none := by
            rcases hR with zz | ⟨_, _, zz, _⟩
            · exact zz.2
            · rw [zc3] at zz; cases zz
          refine j_aload_n hc dX2_fillRule_75 rfl ?_
          refine j_get hc dX2_fillRule_76 fX2_28 zp50 rfl ?_
          refine j_iload_n hc dX2_fillRule_79 rfl ?_
          refine j_iload hc dX2_fillRule_80 rfl ?_
          refine j_iadd hc dX2_fillRule_82 ?_
          refine j_iconst hc dX2_fillRule_83 ?_
          refine j_iload hc dX2_fillRule_84 rfl ?_
          refine j_iload hc dX2_fillRule_86 rfl ?_
          refine j_mmin hc dX2_fillRule_88 mX2_116 mo_min ⟨by omega, by omega⟩ ⟨by omega, by omega⟩ (by omega) (by omega) rfl (by omega) (Nat.le_of_ble_eq_true rfl) ?_
          refine j_mmax hc dX2_fillRule_91 mX2_161 mo_max ⟨by omega, by omega⟩ ⟨by omega, by omega⟩ (by omega) (by omega) rfl (by omega) (Nat.le_of_ble_eq_true rfl) ?_
          refine j_iast hc dX2_fillRule_94 zp51 (by omega) (by omega) ?_
          generalize ezh2 : up _ _ _ = zh2
          have zzland_zh2 := LandAt.mv ezh2 (by simp) hL
          have zP_zh2 := (congrFun ezh2 _).symm.trans ((up_ne (by simp)).trans zp50)
          have zP51_zh2 := (congrFun ezh2 _).symm.trans (up_same _ _ _)
          have zzru_zh2 := RuOK.mv ezh2 (by simp) hR
          refine j_iinc (L' := [_, _, _, _, _, _, _]) hc dX2_fillRule_95 rfl (Nat.le_of_ble_eq_true rfl) rfl ?_
          refine j_goto (tgt := 9) hc dX2_fillRule_98 (by decide) ?_
          exact ih _ (by omega) (a + 1) zh2 (fu kf' (ceS n s + a) _) _ _ rfl (by omega) (by omega) zzland_zh2 zP_zh2 zP51_zh2 zzru_zh2 (fun b z0 z1 => by
            by_cases ze : b = a
            · rw [ze, fu_same]; unfold kuS; first | (rw [if_neg (by omega)]; omega) | (rw [if_pos (by omega), zrn]; show _ = (0 : Int); omega) | rw [if_pos (by omega), zru]
            · rw [fu_ne (by omega)]; exact hq1 b z0 (by omega)) (fun x zx => by rw [fu_ne (by omega)]; exact hq2 x zx) (by rw [← ezh2]; exact Fr.push hfr (Or.inl rfl))
        · obtain ⟨zrr, zqq, zown, zru, zq1, zq2, zt, zlt, zU, zln⟩ : ∃ (rr : Int) (q : Nat × (Int → Int)), yOwn E = some (60, rr) ∧ ru = some q ∧ q.1 < 536870912 ∧ (∀ j : Int, 0 ≤ j → j < q.1 → inI (q.2 j)) ∧ ∃ (t : List Int) (lt : Int → Int), RuleAt h' rr q.1 q.2 t lt ∧ t.length ≤ 64 := by
            rcases hR with zz | zz
            · exact absurd zz.1 zc3
            · exact zz
          refine j_aload_n hc dX2_fillRule_48 rfl ?_
          refine j_get hc dX2_fillRule_49 fX2_9 zp50 rfl ?_
          refine j_get hc dX2_fillRule_52 fX2_151 hL.1 rfl ?_
          rw [zown]
          refine j_iload hc dX2_fillRule_55 rfl ?_
          refine j_iload_n hc dX2_fillRule_57 rfl ?_
          refine j_iload_n hc dX2_fillRule_58 rfl ?_
          refine j_aload_n hc dX2_fillRule_59 rfl ?_
          refine j_get hc dX2_fillRule_60 fX2_9 zp50 rfl ?_
          refine j_iload hc dX2_fillRule_63 rfl ?_
          refine j_callV (d' := d - 1) hc dX2_fillRule_65 vX2_93 hL.1 (ev_X0_priceAfter (by omega) hL hD ⟨by omega, by omega⟩) rfl (by omega) (by omega) (by omega) rfl rfl (Nat.le_of_ble_eq_true rfl) (ret1 ?_)
          refine j_iload hc dX2_fillRule_68 rfl ?_
          refine j_callV (d' := d - 1) hc dX2_fillRule_70 vX2_155 zU.1 (ev_X4_worthOf (by omega) zU zln zq2 zq1 ⟨by omega, by omega⟩ ⟨by omega, by omega⟩ ⟨by omega, by omega⟩ ⟨by omega, by omega⟩ ⟨by omega, by omega⟩) rfl (by omega) (by omega) (by omega) rfl rfl (Nat.le_of_ble_eq_true rfl) (retE fun zv70 zq70 zp70 => ?_)
          obtain ⟨rfl, ⟨zt9, zl9, zU9, zn9⟩, zF9⟩ := zp70
          have zne : ∀ z : Nm, z.1 < 60 → ¬ isRule zrr z := fun z z1 z2 => by rcases z2 with rfl | rfl | rfl <;> simp at z1
          have zL70 := LandAt.fr (fun j z0 z1 => zF9 (j, l) (zne _ (by show j < 60; omega))) hL
          have zp50_70 := (zF9 (50, i) (zne _ (by simp))).trans zp50
          have zp51_70 := (zF9 (51, i) (zne _ (by simp))).trans zp51
          have zR70 : RuOK zq70 E ru := Or.inr ⟨zrr, zqq, zown, zru, zq1, zq2, zt9, zl9, zU9, zn9⟩
          have zwb := woS_b (cf := zqq.2) (cl := zqq.1) (a := a) (s := s) (n := n) (p := prS D a) (q := min a (moS D E)) zq2 ⟨by omega, by omega⟩ ⟨by omega, by omega⟩ ⟨by omega, by omega⟩ ⟨by omega, by omega⟩ ⟨by omega, by omega⟩
          refine j_istore (L' := [_, _, _, _, _, _, _]) hc dX2_fillRule_73 (Nat.le_of_ble_eq_true rfl) rfl ?_
          refine j_aload_n hc dX2_fillRule_75 rfl ?_
          refine j_get hc dX2_fillRule_76 fX2_28 zp50_70 rfl ?_
          refine j_iload_n hc dX2_fillRule_79 rfl ?_
          refine j_iload hc dX2_fillRule_80 rfl ?_
          refine j_iadd hc dX2_fillRule_82 ?_
          refine j_iconst hc dX2_fillRule_83 ?_
          refine j_iload hc dX2_fillRule_84 rfl ?_
          refine j_iload hc dX2_fillRule_86 rfl ?_
          refine j_mmin hc dX2_fillRule_88 mX2_116 mo_min ⟨by omega, by omega⟩ ⟨by omega, by omega⟩ (by omega) (by omega) rfl (by omega) (Nat.le_of_ble_eq_true rfl) ?_
          refine j_mmax hc dX2_fillRule_91 mX2_161 mo_max ⟨by omega, by omega⟩ ⟨by omega, by omega⟩ (by omega) (by omega) rfl (by omega) (Nat.le_of_ble_eq_true rfl) ?_
          refine j_iast hc dX2_fillRule_94 zp51_70 (by omega) (by omega) ?_
          generalize ezh3 : up _ _ _ = zh3
          have zzland_zh3 := LandAt.mv ezh3 (by simp) zL70
          have zP_zh3 := (congrFun ezh3 _).symm.trans ((up_ne (by simp)).trans zp50_70)
          have zP51_zh3 := (congrFun ezh3 _).symm.trans (up_same _ _ _)
          have zzru_zh3 := RuOK.mv ezh3 (by simp) zR70
          refine j_iinc (L' := [_, _, _, _, _, _, _]) hc dX2_fillRule_95 rfl (Nat.le_of_ble_eq_true rfl) rfl ?_
          refine j_goto (tgt := 9) hc dX2_fillRule_98 (by decide) ?_
          exact ih _ (by omega) (a + 1) zh3 (fu kf' (ceS n s + a) _) _ _ rfl (by omega) (by omega) zzland_zh3 zP_zh3 zP51_zh3 zzru_zh3 (fun b z0 z1 => by
            by_cases ze : b = a
            · rw [ze, fu_same]; unfold kuS; first | (rw [if_neg (by omega)]; omega) | (rw [if_pos (by omega), zrn]; show _ = (0 : Int); omega) | rw [if_pos (by omega), zru]
            · rw [fu_ne (by omega)]; exact hq1 b z0 (by omega)) (fun x zx => by rw [fu_ne (by omega)]; exact hq2 x zx) (by rw [← ezh3]; exact Fr.push (hfr.tr (zF9.mono fun _ z => Or.inr ⟨zrr, zown, z⟩)) (Or.inl rfl))
set_option maxRecDepth 100000 in
set_option maxHeartbeats 4000000 in
theorem ev_X2_fillRule {k : WC} {d : Nat} {h : AH} {l : Int} {D : LaS} {E : LaY} {pl : Int → Option Nm} {i sr cs : Int} {wf : Option Nm} {gn : Nm} {ru : RU} {kf : Int → Int} {n s : Int} (hd : 4 ≤ d) (hL : LandAt h l D E pl) (hD : LOK D) (hE : YOK E) (zp50 : h (50, i) = some (oO 2 (pF i l sr cs wf gn))) (zp51 : h (51, i) = some (oI ((lSe D).toNat * 492) kf)) (hR : RuOK h E ru) (hn1 : 1 ≤ n) (hn : n ≤ 12) (hs0 : 0 ≤ s) (hs1 : s < lSe D)  : Ev k d mdX2_fillRule h [vR (50, i), vI n, vI s] 0 0 (pn fun h' => ∃ kf', h' (51, i) = some (oI ((lSe D).toNat * 492) kf') ∧ (∀ a : Int, 0 ≤ a → a ≤ 40 → kf' (ceS n s + a) = kuS D E ru n s a) ∧ (∀ x : Int, x < ceS n s ∨ ceS n s + 40 < x → kf' x = kf x) ∧ RuOK h' E ru ∧ Fr (fun z => z = (51, i) ∨ isOwn E z) h h') := by
  refine Ev.mk (by decide +kernel) [_, _, _, _, _, _, _] rfl (Nat.le_of_ble_eq_true rfl) (fun w hc he => ?_)
  refine j_iload_n hc dX2_fillRule_0 rfl ?_
  refine j_iload_n hc dX2_fillRule_1 rfl ?_
  refine j_callS (d' := d - 1) hc dX2_fillRule_2 sX2_81 (ev_X2_cellOf (by omega)) rfl (by omega) (by omega) (by omega) rfl rfl (Nat.le_of_ble_eq_true rfl) (ret1 ?_)
  refine j_istore_n (L' := [_, _, _, _, _, _, _]) hc dX2_fillRule_5 (Nat.le_of_ble_eq_true rfl) rfl ?_
  refine j_iconst hc dX2_fillRule_6 ?_
  refine j_istore (L' := [_, _, _, _, _, _, _]) hc dX2_fillRule_7 (Nat.le_of_ble_eq_true rfl) rfl ?_
  exact lp_X2_fillRule hd hD hE hn1 hn hs0 hs1 hc he _ 0 h kf _ _ rfl (by omega) (by omega) hL zp50 zp51 hR (fun b z0 z1 => by omega) (fun x _ => rfl) (Fr.rf _ _)
abbrev isPl (i : Int) : Nm → Prop := fun z => z = (51, i) ∨ z = (52, i) ∨ z = (54, i) ∨ z = (56, i)
theorem gnS_ne (l sr : Int) : (gnS l sr).1 = 37 ∨ (gnS l sr).1 = 38 := by unfold gnS; split <;> simp
/-- the gains that a plan looks at -/
theorem gains_at {h : AH} {l : Int} {D : LaS} {E : LaY} {pl : Int → Option Nm} (hL : LandAt h l D E pl) (sr : Int) : ∃ (gl : Nat) (gf : Int → Int), h (gnS l sr) = some (oI gl gf) ∧ 41 ≤ gl ∧ gl ≤ 201 ∧ ∀ b : Int, 0 ≤ b → b ≤ 40 → gf b = gaS D sr b := by
  obtain ⟨g30, g31, g32, g33, g34, g35, g36, ⟨f37, g37, q37⟩, ⟨f38, g38, q38⟩, ⟨f39, g39, q39⟩, g40⟩ := id hL
  by_cases e : sr = 3
  · refine ⟨41, f38, by unfold gnS; rw [if_pos e]; exact g38, by omega, by omega, fun b z0 z1 => ?_⟩
    unfold gaS; rw [if_pos e]; exact q38 b z0 z1
  · refine ⟨201, f37, by unfold gnS; rw [if_neg e]; exact g37, by omega, by omega, fun b z0 z1 => ?_⟩
    unfold gaS; rw [if_neg e]; exact q37 b z0 (by omega)
theorem RuOK.fr {h h' : AH} {E : LaY} {ru : RU} (hr : RuOK h E ru) (q : ∀ z : Nm, 60 ≤ z.1 → z.1 ≤ 63 → h' z = h z) : RuOK h' E ru := by
  rcases hr with hr | ⟨rr, p, h1, h2, h3, h4, t, lt, h5, h6⟩
  · exact Or.inl hr
  · exact Or.inr ⟨rr, p, h1, h2, h3, h4, t, lt, h5.fr (fun j a b => q (j, rr) a b), h6⟩
theorem ceS_in {D : LaS} {n s a : Int} (hs0 : 0 ≤ s) (hs1 : s < lSe D) (hn1 : 1 ≤ n) (hn : n ≤ 12) (ha0 : 0 ≤ a) (ha1 : a ≤ 40) : 0 ≤ ceS n s + a ∧ ceS n s + a < (lSe D).toNat * 492 := by
  unfold ceS
  omega
set_option maxRecDepth 100000 in
set_option maxHeartbeats 4000000 in
theorem lp_X2_reckonTo {k : WC} {d : Nat} {w : MC} {h : AH} {l : Int} {D : LaS} {E : LaY} {pl : Int → Option Nm} {i sr cs : Int} {ru : RU} {wf : Option Nm} {wl lf : Int → Int} {n s la : Int} (hd : 5 ≤ d) (hD : LOK D) (hE : YOK E) (hn1 : 1 ≤ n) (hn : n ≤ 12) (hs0 : 0 ≤ s) (hs1 : s < lSe D) (hcs0 : 0 ≤ cs) (hcs1 : cs ≤ 30) (hsr0 : 0 ≤ sr) (hsr1 : sr ≤ 4) (hla : la = laN D (n - 1).toNat s) (hla0 : 0 ≤ la) (hla1 : la < lSe D) (hc : Cx w k d 0 0 mdX2_reckonTo) (he : Ends w 0 0 (pn fun h' => ∃ kf' bf' lf' : Int → Int, PlanAt h' i l D E ru sr cs wf kf' bf' lf' wl ∧ n ≤ lf' (laN D (n - 1).toNat s) ∧ (∀ t : Int, 0 ≤ t → t < lSe D → lf t ≤ lf' t) ∧ RuOK h' E ru ∧ Fr (fun z => isPl i z ∨ isOwn E z) h h')) : ∀ (zm : Nat) (lv : Int) (h' : AH) (kf' bf' lf' : Int → Int) {th : Int}, (13 - lv).toNat = zm → 1 ≤ lv → lv ≤ n + 1 → LandAt h' l D E pl → PlanAt h' i l D E ru sr cs wf kf' bf' lf' wl → RuOK h' E ru → lv - 1 ≤ lf' la → (∀ t : Int, 0 ≤ t → t < lSe D → lf t ≤ lf' t) → Fr (fun z => isPl i z ∨ isOwn E z) h h' → th = bkN D (lv - 1).toNat la → J w 0 0 13 [some (vR (50, i)), some (vI n), some (vI s), some (vI la), some (vI th), some (vI lv)] [] h' := by
  intro zm
  induction zm using Nat.strongRecOn with
  | _ zm ih =>
    intro lv h' kf' bf' lf' th hm hl0 hl1 hL hP hR hlv hmo hfr hth
    subst hth
    obtain ⟨zp50, zp51, zp52, zp54, zp55, ⟨zaf, zp56⟩, zV⟩ := id hP
    have zbk := bkN_b hD (lv - 1).toNat hla0 hla1
    have zlf := zV.2 la hla0 hla1
    have d2 := hD.2.1
    have zkr : ∀ x : Int, 0 ≤ x → x < (lSe D).toNat * 492 → 0 ≤ kf' x ∧ kf' x ≤ 20 := fun x z0 z1 => ⟨(zV.1 x z0 z1).1, (zV.1 x z0 z1).2.1⟩
    have zbk2 : pvS D (bkN D (lv - 1).toNat la) = bkN D (lv + 1 - 1).toNat la := by rw [show (lv + 1 - 1).toNat = (lv - 1).toNat + 1 by omega]; rfl
    refine j_iload hc dX2_reckonTo_13 rfl ?_
    refine j_iload_n hc dX2_reckonTo_15 rfl ?_
    refine j_icmp_gt (tgt := 117) hc dX2_reckonTo_16 (by decide) ⟨by omega, by omega⟩ ⟨by omega, by omega⟩ (fun zc1 => ?_) (fun zc1 => ?_)
    · exact j_vret hc he dX2_reckonTo_117 rfl (by omega) (by omega) ⟨rfl, kf', bf', lf', hP, by rw [← hla]; omega, hmo, hR, hfr⟩
    · refine j_iload hc dX2_reckonTo_19 rfl ?_
      refine j_aload_n hc dX2_reckonTo_21 rfl ?_
      refine j_get hc dX2_reckonTo_22 fX2_45 zp50 rfl ?_
      refine j_iload_n hc dX2_reckonTo_25 rfl ?_
      refine j_iald hc dX2_reckonTo_26 zp54 hla0 (by omega) ?_
      refine j_icmp_le (tgt := 100) hc dX2_reckonTo_27 (by decide) ⟨by omega, by omega⟩ ⟨by omega, by omega⟩ (fun zc2 => ?_) (fun zc2 => ?_)
      · refine j_aload_n hc dX2_reckonTo_100 rfl ?_
        refine j_get hc dX2_reckonTo_101 fX2_9 zp50 rfl ?_
        refine j_iload hc dX2_reckonTo_104 rfl ?_
        refine j_callV (d' := d - 1) hc dX2_reckonTo_106 vX2_77 hL.1 (ev_X0_seasonAhead (by omega) hL hD (by omega) (by omega)) rfl (by omega) (by omega) (by omega) rfl rfl (Nat.le_of_ble_eq_true rfl) (ret1 ?_)
        refine j_istore (L' := [_, _, _, _, _, _]) hc dX2_reckonTo_109 (Nat.le_of_ble_eq_true rfl) rfl ?_
        refine j_iinc (L' := [_, _, _, _, _, _]) hc dX2_reckonTo_111 rfl (Nat.le_of_ble_eq_true rfl) rfl ?_
        refine j_goto (tgt := 13) hc dX2_reckonTo_114 (by decide) ?_
        exact ih _ (by omega) (lv + 1) h' kf' bf' lf' rfl (by omega) (by omega) hL hP hR (by omega) hmo hfr zbk2
      · refine j_aload_n hc dX2_reckonTo_30 rfl ?_
        refine j_get hc dX2_reckonTo_31 fX2_15 zp50 rfl ?_
        refine j_iconst hc dX2_reckonTo_34 ?_
        refine j_icmp_ne (tgt := 49) hc dX2_reckonTo_35 (by decide) ⟨by omega, by omega⟩ ⟨by omega, by omega⟩ (fun zc3 => ?_) (fun zc3 => ?_)
        · refine j_aload_n hc dX2_reckonTo_49 rfl ?_
          refine j_get hc dX2_reckonTo_50 fX2_15 zp50 rfl ?_
          refine j_iconst hc dX2_reckonTo_53 ?_
          refine j_icmp_eq (tgt := 65) hc dX2_reckonTo_54 (by decide) ⟨by omega, by omega⟩ ⟨by omega, by omega⟩ (fun zc4 => ?_) (fun zc4 => ?_)
          · obtain ⟨zgl, zgf, zgn, zg1, zg2, zg3⟩ := gains_at hL sr
            have zbl : blS D sr = (lSe D).toNat * 492 := by unfold blS; rw [if_pos (by omega)]
            have zp52b : h' (52, i) = some (oL ((lSe D).toNat * 492) bf') := by rw [← zbl]; exact zp52
            have zbb : lv > 1 → ∀ b : Int, 0 ≤ b → b ≤ 40 → 0 ≤ bf' (ceS (lv - 1) (nxS D (bkN D (lv - 1).toNat la)) + b) ∧ bf' (ceS (lv - 1) (nxS D (bkN D (lv - 1).toNat la)) + b) ≤ bbS D (lv - 1) (nxS D (bkN D (lv - 1).toNat la)) := fun z b b0 b1 => by
              have zz := (zV.2 la hla0 hla1).2.2 (lv - 1) (by omega) (by omega) b b0 b1
              have zb3 := bkN_b hD (lv - 1 - 1).toNat hla0 hla1
              rw [show (lv - 1).toNat = (lv - 1 - 1).toNat + 1 by omega, nx_bk hD _ hla0 hla1, zz.2 (by omega)]
              have zv := bvN_b hD hE hcs0 hcs1 (fun b b0 b1 => gaS_b hD (sr := sr) b b0 b1) (lv - 1 - 1).toNat (s := bkN D (lv - 1 - 1).toNat la) (a := b) (by omega) zb3.1 zb3.2 b0 b1
              rw [show (((lv - 1 - 1).toNat : Int) + 1) = lv - 1 by omega] at zv
              exact zv
            refine j_aload_n hc dX2_reckonTo_65 rfl ?_
            refine j_iload hc dX2_reckonTo_66 rfl ?_
            refine j_iload hc dX2_reckonTo_68 rfl ?_
            refine j_callV (d' := d - 1) hc dX2_reckonTo_70 vX2_71 zp50 (ev_X2_fillBest (by omega) hL hD hE zp50 zp51 zp52b zp56 zgn (gnS_ne l sr) zg1 (fun b b0 b1 => by rw [zg3 b b0 b1]; exact gaS_b hD b b0 b1) zbb (by omega) (by omega) zbk.1 zbk.2 hcs0 hcs1) rfl (by omega) (by omega) (by omega) rfl rfl (Nat.le_of_ble_eq_true rfl) (retN fun zq70 zp70 => ?_)
            obtain ⟨zkf2, zbf2, zaf2, z51, z52, z56, zrw, zot, zF2⟩ := zp70
            have z50 := (zF2 (50, i) (by simp)).trans zp50
            have z54 := (zF2 (54, i) (by simp)).trans zp54
            have z55 := (zF2 (55, i) (by simp)).trans zp55
            have zL2 := LandAt.fr (fun j z0 z1 => zF2 (j, l) (by simp; omega)) hL
            have zR2 := RuOK.fr hR (fun z z0 z1 => zF2 z (fun zz => by rcases zz with rfl | rfl | rfl <;> simp at z0))
            have zrow : ∀ a : Int, 0 ≤ a → a ≤ 40 → zkf2 (ceS lv (bkN D (lv - 1).toNat la) + a) = kpS D E ru cs sr lv (bkN D (lv - 1).toNat la) a ∧ (sr = 2 ∨ sr = 3 → zbf2 (ceS lv (bkN D (lv - 1).toNat la) + a) = bpS D E cs sr lv (bkN D (lv - 1).toNat la) a) := fun a z0 z1 => by
              have zmx := mx_bv hD hE (cs := cs) (g := gaS D sr) (gf := zgf) (bf := bf') (n := lv) (s := bkN D (lv - 1).toNat la) (a := a) (by omega) zbk.1 z0 z1 zg3 (fun z b b0 b1 => by
                have zz := (zV.2 la hla0 hla1).2.2 (lv - 1) (by omega) (by omega) b b0 b1
                rw [show (lv - 1).toNat = (lv - 1 - 1).toNat + 1 by omega, nx_bk hD _ hla0 hla1, zz.2 (by omega)]
                unfold bpS
                rw [show (lv - 1 - 1).toNat = (lv - 2).toNat by omega])
              refine ⟨?_, fun z => ?_⟩
              · rw [(zrw a z0 z1).1]
                try dsimp only
                unfold kpS
                rw [if_neg (by omega), if_pos (by omega), zmx]
              · rw [(zrw a z0 z1).2]
                try dsimp only
                unfold bpS
                rw [zmx]
            have zoth := zot
            have zF3 : Fr (fun z => isPl i z ∨ isOwn E z) h' zq70 := zF2.mono fun z zz => by rcases zz with zz | zz | zz; exact Or.inl (Or.inl zz); exact Or.inl (Or.inr (Or.inl zz)); exact Or.inl (Or.inr (Or.inr (Or.inr zz)))
            have z56e : ∃ af, zq70 (56, i) = some (oL 21 af) := ⟨_, z56⟩
            have z52e : zq70 (52, i) = some (oL (blS D sr) zbf2) := by rw [zbl]; exact z52
            refine j_goto (tgt := 92) hc dX2_reckonTo_73 (by decide) ?_
            refine j_aload_n hc dX2_reckonTo_92 rfl ?_
            refine j_get hc dX2_reckonTo_93 fX2_45 z50 rfl ?_
            refine j_iload_n hc dX2_reckonTo_96 rfl ?_
            refine j_iload hc dX2_reckonTo_97 rfl ?_
            refine j_iast hc dX2_reckonTo_99 z54 hla0 (by omega) ?_
            generalize ezh1 : up _ _ _ = zh1
            have zzland_zh1 := LandAt.mv ezh1 (by simp) zL2
            have zP_zh1 := (congrFun ezh1 _).symm.trans ((up_ne (by simp)).trans z50)
            have zP54_zh1 := (congrFun ezh1 _).symm.trans (up_same _ _ _)
            refine j_aload_n hc dX2_reckonTo_100 rfl ?_
            refine j_get hc dX2_reckonTo_101 fX2_9 zP_zh1 rfl ?_
            refine j_iload hc dX2_reckonTo_104 rfl ?_
            refine j_callV (d' := d - 1) hc dX2_reckonTo_106 vX2_77 zzland_zh1.1 (ev_X0_seasonAhead (by omega) zzland_zh1 hD (by omega) (by omega)) rfl (by omega) (by omega) (by omega) rfl rfl (Nat.le_of_ble_eq_true rfl) (ret1 ?_)
            refine j_istore (L' := [_, _, _, _, _, _]) hc dX2_reckonTo_109 (Nat.le_of_ble_eq_true rfl) rfl ?_
            refine j_iinc (L' := [_, _, _, _, _, _]) hc dX2_reckonTo_111 rfl (Nat.le_of_ble_eq_true rfl) rfl ?_
            refine j_goto (tgt := 13) hc dX2_reckonTo_114 (by decide) ?_
            exact ih _ (by omega) (lv + 1) zh1 zkf2 zbf2 (fu lf' la lv) rfl (by omega) (by omega) zzland_zh1 ⟨zP_zh1, (congrFun ezh1 _).symm.trans ((up_ne (by simp)).trans z51), (congrFun ezh1 _).symm.trans ((up_ne (by simp)).trans z52e), zP54_zh1, (congrFun ezh1 _).symm.trans ((up_ne (by simp)).trans z55), (by obtain ⟨zaf9, z569⟩ := z56e; exact ⟨zaf9, (congrFun ezh1 _).symm.trans ((up_ne (by simp)).trans z569)⟩), PlV.step hD hE zV hla0 hla1 (by omega) (by omega) (by omega) zrow zoth⟩ (RuOK.mv ezh1 (by simp) zR2) (by rw [fu_same]; omega) (fun t z0 z1 => by
              by_cases ze : t = la
              · rw [ze, fu_same]; have := hmo la hla0 hla1; omega
              · rw [fu_ne ze]; exact hmo t z0 z1) (by rw [← ezh1]; exact (hfr.tr zF3).push (Or.inl (Or.inr (Or.inr (Or.inl rfl))))) zbk2
          · refine j_aload_n hc dX2_reckonTo_57 rfl ?_
            refine j_get hc dX2_reckonTo_58 fX2_15 zp50 rfl ?_
            refine j_iconst hc dX2_reckonTo_61 ?_
            refine j_icmp_ne (tgt := 76) hc dX2_reckonTo_62 (by decide) ⟨by omega, by omega⟩ ⟨by omega, by omega⟩ (fun zc5 => ?_) (fun zc5 => ?_)
            · refine j_aload_n hc dX2_reckonTo_76 rfl ?_
              refine j_get hc dX2_reckonTo_77 fX2_15 zp50 rfl ?_
              refine j_iconst hc dX2_reckonTo_80 ?_
              refine j_icmp_ne (tgt := 92) hc dX2_reckonTo_81 (by decide) ⟨by omega, by omega⟩ ⟨by omega, by omega⟩ (fun zc6 => ?_) (fun zc6 => ?_)
              · refine j_aload_n hc dX2_reckonTo_92 rfl ?_
                refine j_get hc dX2_reckonTo_93 fX2_45 zp50 rfl ?_
                refine j_iload_n hc dX2_reckonTo_96 rfl ?_
                refine j_iload hc dX2_reckonTo_97 rfl ?_
                refine j_iast hc dX2_reckonTo_99 zp54 hla0 (by omega) ?_
                generalize ezh2 : up _ _ _ = zh2
                have zzland_zh2 := LandAt.mv ezh2 (by simp) hL
                have zP_zh2 := (congrFun ezh2 _).symm.trans ((up_ne (by simp)).trans zp50)
                have zP51_zh2 := (congrFun ezh2 _).symm.trans ((up_ne (by simp)).trans zp51)
                have zP52_zh2 := (congrFun ezh2 _).symm.trans ((up_ne (by simp)).trans zp52)
                have zP54_zh2 := (congrFun ezh2 _).symm.trans (up_same _ _ _)
                have zP55_zh2 := (congrFun ezh2 _).symm.trans ((up_ne (by simp)).trans zp55)
                have zP56_zh2 := (congrFun ezh2 _).symm.trans ((up_ne (by simp)).trans zp56)
                have zzru_zh2 := RuOK.mv ezh2 (by simp) hR
                refine j_aload_n hc dX2_reckonTo_100 rfl ?_
                refine j_get hc dX2_reckonTo_101 fX2_9 zP_zh2 rfl ?_
                refine j_iload hc dX2_reckonTo_104 rfl ?_
                refine j_callV (d' := d - 1) hc dX2_reckonTo_106 vX2_77 zzland_zh2.1 (ev_X0_seasonAhead (by omega) zzland_zh2 hD (by omega) (by omega)) rfl (by omega) (by omega) (by omega) rfl rfl (Nat.le_of_ble_eq_true rfl) (ret1 ?_)
                refine j_istore (L' := [_, _, _, _, _, _]) hc dX2_reckonTo_109 (Nat.le_of_ble_eq_true rfl) rfl ?_
                refine j_iinc (L' := [_, _, _, _, _, _]) hc dX2_reckonTo_111 rfl (Nat.le_of_ble_eq_true rfl) rfl ?_
                refine j_goto (tgt := 13) hc dX2_reckonTo_114 (by decide) ?_
                exact ih _ (by omega) (lv + 1) zh2 kf' bf' (fu lf' la lv) rfl (by omega) (by omega) zzland_zh2 ⟨zP_zh2, zP51_zh2, zP52_zh2, zP54_zh2, zP55_zh2, ⟨zaf, zP56_zh2⟩, PlV.step hD hE zV hla0 hla1 (by omega) (by omega) (by omega) (fun a z0 z1 => by
                  have zin := ceS_in (n := lv) (s := bkN D (lv - 1).toNat la) (a := a) zbk.1 zbk.2 (by omega) (by omega) z0 z1
                  refine ⟨?_, fun z => by omega⟩
                  rw [(zV.1 _ zin.1 zin.2).2.2 (by omega)]
                  unfold kpS
                  rw [if_neg (by omega), if_neg (by omega), if_neg (by omega)]) (fun x _ => ⟨rfl, rfl⟩)⟩ zzru_zh2 (by rw [fu_same]; omega) (fun t z0 z1 => by
                  by_cases ze : t = la
                  · rw [ze, fu_same]; have := hmo la hla0 hla1; omega
                  · rw [fu_ne ze]; exact hmo t z0 z1) (by rw [← ezh2]; exact hfr.push (Or.inl (Or.inr (Or.inr (Or.inl rfl))))) zbk2
              · refine j_aload_n hc dX2_reckonTo_84 rfl ?_
                refine j_iload hc dX2_reckonTo_85 rfl ?_
                refine j_iload hc dX2_reckonTo_87 rfl ?_
                refine j_callV (d' := d - 1) hc dX2_reckonTo_89 vX2_74 zp50 (ev_X2_fillRule (by omega) hL hD hE zp50 zp51 hR (by omega) (by omega) zbk.1 zbk.2) rfl (by omega) (by omega) (by omega) rfl rfl (Nat.le_of_ble_eq_true rfl) (retN fun zq89 zp89 => ?_)
                obtain ⟨zkf2, z51, zrw, zot, zR2, zF2⟩ := zp89
                have zno : ∀ z : Nm, z.1 < 60 → z ≠ (51, i) → ¬ (z = (51, i) ∨ isOwn E z) := fun z z1 z2 z3 => by
                  rcases z3 with z3 | z3
                  · exact z2 z3
                  · have := isOwn_lo z3; omega
                have z50 := (zF2 (50, i) (zno _ (by simp) (by simp))).trans zp50
                have z52 := (zF2 (52, i) (zno _ (by simp) (by simp))).trans zp52
                have z54 := (zF2 (54, i) (zno _ (by simp) (by simp))).trans zp54
                have z55 := (zF2 (55, i) (zno _ (by simp) (by simp))).trans zp55
                have zL2 := LandAt.fr (fun j z0 z1 => zF2 (j, l) (zno _ (by show j < 60; omega) (by simp; omega))) hL
                have zrow : ∀ a : Int, 0 ≤ a → a ≤ 40 → zkf2 (ceS lv (bkN D (lv - 1).toNat la) + a) = kpS D E ru cs sr lv (bkN D (lv - 1).toNat la) a ∧ (sr = 2 ∨ sr = 3 → bf' (ceS lv (bkN D (lv - 1).toNat la) + a) = bpS D E cs sr lv (bkN D (lv - 1).toNat la) a) := fun a z0 z1 => by
                  refine ⟨?_, fun z => by omega⟩
                  rw [zrw a z0 z1]
                  unfold kpS
                  rw [if_neg (by omega), if_neg (by omega), if_pos (by omega)]
                have zoth : ∀ x : Int, x < ceS lv (bkN D (lv - 1).toNat la) ∨ ceS lv (bkN D (lv - 1).toNat la) + 40 < x → zkf2 x = kf' x ∧ bf' x = bf' x := fun x zx => ⟨zot x zx, rfl⟩
                have zF3 : Fr (fun z => isPl i z ∨ isOwn E z) h' zq89 := zF2.mono fun z zz => by rcases zz with zz | zz; exact Or.inl (Or.inl zz); exact Or.inr zz
                have z56e : ∃ af, zq89 (56, i) = some (oL 21 af) := ⟨zaf, (zF2 (56, i) (zno _ (by simp) (by simp))).trans zp56⟩
                have z52e : zq89 (52, i) = some (oL (blS D sr) bf') := z52
                refine j_aload_n hc dX2_reckonTo_92 rfl ?_
                refine j_get hc dX2_reckonTo_93 fX2_45 z50 rfl ?_
                refine j_iload_n hc dX2_reckonTo_96 rfl ?_
                refine j_iload hc dX2_reckonTo_97 rfl ?_
                refine j_iast hc dX2_reckonTo_99 z54 hla0 (by omega) ?_
                generalize ezh3 : up _ _ _ = zh3
                have zzland_zh3 := LandAt.mv ezh3 (by simp) zL2
                have zP_zh3 := (congrFun ezh3 _).symm.trans ((up_ne (by simp)).trans z50)
                have zP54_zh3 := (congrFun ezh3 _).symm.trans (up_same _ _ _)
                refine j_aload_n hc dX2_reckonTo_100 rfl ?_
                refine j_get hc dX2_reckonTo_101 fX2_9 zP_zh3 rfl ?_
                refine j_iload hc dX2_reckonTo_104 rfl ?_
                refine j_callV (d' := d - 1) hc dX2_reckonTo_106 vX2_77 zzland_zh3.1 (ev_X0_seasonAhead (by omega) zzland_zh3 hD (by omega) (by omega)) rfl (by omega) (by omega) (by omega) rfl rfl (Nat.le_of_ble_eq_true rfl) (ret1 ?_)
                refine j_istore (L' := [_, _, _, _, _, _]) hc dX2_reckonTo_109 (Nat.le_of_ble_eq_true rfl) rfl ?_
                refine j_iinc (L' := [_, _, _, _, _, _]) hc dX2_reckonTo_111 rfl (Nat.le_of_ble_eq_true rfl) rfl ?_
                refine j_goto (tgt := 13) hc dX2_reckonTo_114 (by decide) ?_
                exact ih _ (by omega) (lv + 1) zh3 zkf2 bf' (fu lf' la lv) rfl (by omega) (by omega) zzland_zh3 ⟨zP_zh3, (congrFun ezh3 _).symm.trans ((up_ne (by simp)).trans z51), (congrFun ezh3 _).symm.trans ((up_ne (by simp)).trans z52e), zP54_zh3, (congrFun ezh3 _).symm.trans ((up_ne (by simp)).trans z55), (by obtain ⟨zaf9, z569⟩ := z56e; exact ⟨zaf9, (congrFun ezh3 _).symm.trans ((up_ne (by simp)).trans z569)⟩), PlV.step hD hE zV hla0 hla1 (by omega) (by omega) (by omega) zrow zoth⟩ (RuOK.mv ezh3 (by simp) zR2) (by rw [fu_same]; omega) (fun t z0 z1 => by
                  by_cases ze : t = la
                  · rw [ze, fu_same]; have := hmo la hla0 hla1; omega
                  · rw [fu_ne ze]; exact hmo t z0 z1) (by rw [← ezh3]; exact (hfr.tr zF3).push (Or.inl (Or.inr (Or.inr (Or.inl rfl))))) zbk2
            · obtain ⟨zgl, zgf, zgn, zg1, zg2, zg3⟩ := gains_at hL sr
              have zbl : blS D sr = (lSe D).toNat * 492 := by unfold blS; rw [if_pos (by omega)]
              have zp52b : h' (52, i) = some (oL ((lSe D).toNat * 492) bf') := by rw [← zbl]; exact zp52
              have zbb : lv > 1 → ∀ b : Int, 0 ≤ b → b ≤ 40 → 0 ≤ bf' (ceS (lv - 1) (nxS D (bkN D (lv - 1).toNat la)) + b) ∧ bf' (ceS (lv - 1) (nxS D (bkN D (lv - 1).toNat la)) + b) ≤ bbS D (lv - 1) (nxS D (bkN D (lv - 1).toNat la)) := fun z b b0 b1 => by
                have zz := (zV.2 la hla0 hla1).2.2 (lv - 1) (by omega) (by omega) b b0 b1
                have zb3 := bkN_b hD (lv - 1 - 1).toNat hla0 hla1
                rw [show (lv - 1).toNat = (lv - 1 - 1).toNat + 1 by omega, nx_bk hD _ hla0 hla1, zz.2 (by omega)]
                have zv := bvN_b hD hE hcs0 hcs1 (fun b b0 b1 => gaS_b hD (sr := sr) b b0 b1) (lv - 1 - 1).toNat (s := bkN D (lv - 1 - 1).toNat la) (a := b) (by omega) zb3.1 zb3.2 b0 b1
                rw [show (((lv - 1 - 1).toNat : Int) + 1) = lv - 1 by omega] at zv
                exact zv
              refine j_aload_n hc dX2_reckonTo_65 rfl ?_
              refine j_iload hc dX2_reckonTo_66 rfl ?_
              refine j_iload hc dX2_reckonTo_68 rfl ?_
              refine j_callV (d' := d - 1) hc dX2_reckonTo_70 vX2_71 zp50 (ev_X2_fillBest (by omega) hL hD hE zp50 zp51 zp52b zp56 zgn (gnS_ne l sr) zg1 (fun b b0 b1 => by rw [zg3 b b0 b1]; exact gaS_b hD b b0 b1) zbb (by omega) (by omega) zbk.1 zbk.2 hcs0 hcs1) rfl (by omega) (by omega) (by omega) rfl rfl (Nat.le_of_ble_eq_true rfl) (retN fun zq70 zp70 => ?_)
              obtain ⟨zkf2, zbf2, zaf2, z51, z52, z56, zrw, zot, zF2⟩ := zp70
              have z50 := (zF2 (50, i) (by simp)).trans zp50
              have z54 := (zF2 (54, i) (by simp)).trans zp54
              have z55 := (zF2 (55, i) (by simp)).trans zp55
              have zL2 := LandAt.fr (fun j z0 z1 => zF2 (j, l) (by simp; omega)) hL
              have zR2 := RuOK.fr hR (fun z z0 z1 => zF2 z (fun zz => by rcases zz with rfl | rfl | rfl <;> simp at z0))
              have zrow : ∀ a : Int, 0 ≤ a → a ≤ 40 → zkf2 (ceS lv (bkN D (lv - 1).toNat la) + a) = kpS D E ru cs sr lv (bkN D (lv - 1).toNat la) a ∧ (sr = 2 ∨ sr = 3 → zbf2 (ceS lv (bkN D (lv - 1).toNat la) + a) = bpS D E cs sr lv (bkN D (lv - 1).toNat la) a) := fun a z0 z1 => by
                have zmx := mx_bv hD hE (cs := cs) (g := gaS D sr) (gf := zgf) (bf := bf') (n := lv) (s := bkN D (lv - 1).toNat la) (a := a) (by omega) zbk.1 z0 z1 zg3 (fun z b b0 b1 => by
                  have zz := (zV.2 la hla0 hla1).2.2 (lv - 1) (by omega) (by omega) b b0 b1
                  rw [show (lv - 1).toNat = (lv - 1 - 1).toNat + 1 by omega, nx_bk hD _ hla0 hla1, zz.2 (by omega)]
                  unfold bpS
                  rw [show (lv - 1 - 1).toNat = (lv - 2).toNat by omega])
                refine ⟨?_, fun z => ?_⟩
                · rw [(zrw a z0 z1).1]
                  try dsimp only
                  unfold kpS
                  rw [if_neg (by omega), if_pos (by omega), zmx]
                · rw [(zrw a z0 z1).2]
                  try dsimp only
                  unfold bpS
                  rw [zmx]
              have zoth := zot
              have zF3 : Fr (fun z => isPl i z ∨ isOwn E z) h' zq70 := zF2.mono fun z zz => by rcases zz with zz | zz | zz; exact Or.inl (Or.inl zz); exact Or.inl (Or.inr (Or.inl zz)); exact Or.inl (Or.inr (Or.inr (Or.inr zz)))
              have z56e : ∃ af, zq70 (56, i) = some (oL 21 af) := ⟨_, z56⟩
              have z52e : zq70 (52, i) = some (oL (blS D sr) zbf2) := by rw [zbl]; exact z52
              refine j_goto (tgt := 92) hc dX2_reckonTo_73 (by decide) ?_
              refine j_aload_n hc dX2_reckonTo_92 rfl ?_
              refine j_get hc dX2_reckonTo_93 fX2_45 z50 rfl ?_
              refine j_iload_n hc dX2_reckonTo_96 rfl ?_
              refine j_iload hc dX2_reckonTo_97 rfl ?_
              refine j_iast hc dX2_reckonTo_99 z54 hla0 (by omega) ?_
              generalize ezh4 : up _ _ _ = zh4
              have zzland_zh4 := LandAt.mv ezh4 (by simp) zL2
              have zP_zh4 := (congrFun ezh4 _).symm.trans ((up_ne (by simp)).trans z50)
              have zP54_zh4 := (congrFun ezh4 _).symm.trans (up_same _ _ _)
              refine j_aload_n hc dX2_reckonTo_100 rfl ?_
              refine j_get hc dX2_reckonTo_101 fX2_9 zP_zh4 rfl ?_
              refine j_iload hc dX2_reckonTo_104 rfl ?_
              refine j_callV (d' := d - 1) hc dX2_reckonTo_106 vX2_77 zzland_zh4.1 (ev_X0_seasonAhead (by omega) zzland_zh4 hD (by omega) (by omega)) rfl (by omega) (by omega) (by omega) rfl rfl (Nat.le_of_ble_eq_true rfl) (ret1 ?_)
              refine j_istore (L' := [_, _, _, _, _, _]) hc dX2_reckonTo_109 (Nat.le_of_ble_eq_true rfl) rfl ?_
              refine j_iinc (L' := [_, _, _, _, _, _]) hc dX2_reckonTo_111 rfl (Nat.le_of_ble_eq_true rfl) rfl ?_
              refine j_goto (tgt := 13) hc dX2_reckonTo_114 (by decide) ?_
              exact ih _ (by omega) (lv + 1) zh4 zkf2 zbf2 (fu lf' la lv) rfl (by omega) (by omega) zzland_zh4 ⟨zP_zh4, (congrFun ezh4 _).symm.trans ((up_ne (by simp)).trans z51), (congrFun ezh4 _).symm.trans ((up_ne (by simp)).trans z52e), zP54_zh4, (congrFun ezh4 _).symm.trans ((up_ne (by simp)).trans z55), (by obtain ⟨zaf9, z569⟩ := z56e; exact ⟨zaf9, (congrFun ezh4 _).symm.trans ((up_ne (by simp)).trans z569)⟩), PlV.step hD hE zV hla0 hla1 (by omega) (by omega) (by omega) zrow zoth⟩ (RuOK.mv ezh4 (by simp) zR2) (by rw [fu_same]; omega) (fun t z0 z1 => by
                by_cases ze : t = la
                · rw [ze, fu_same]; have := hmo la hla0 hla1; omega
                · rw [fu_ne ze]; exact hmo t z0 z1) (by rw [← ezh4]; exact (hfr.tr zF3).push (Or.inl (Or.inr (Or.inr (Or.inl rfl))))) zbk2
        · refine j_aload_n hc dX2_reckonTo_38 rfl ?_
          refine j_iload hc dX2_reckonTo_39 rfl ?_
          refine j_iload hc dX2_reckonTo_41 rfl ?_
          refine j_callV (d' := d - 1) hc dX2_reckonTo_43 vX2_67 zp50 (ev_X2_fillAll (by omega) hL hD hE zp50 zp51 zp56 zkr (by omega) (by omega) zbk.1 zbk.2 hcs0 hcs1) rfl (by omega) (by omega) (by omega) rfl rfl (Nat.le_of_ble_eq_true rfl) (retN fun zq43 zp43 => ?_)
          obtain ⟨zkf2, zaf2, z51, z56, zrw, zot, zF2⟩ := zp43
          have zbf2 : Int → Int := bf'
          have z50 := (zF2 (50, i) (by simp)).trans zp50
          have z52 := (zF2 (52, i) (by simp)).trans zp52
          have z54 := (zF2 (54, i) (by simp)).trans zp54
          have z55 := (zF2 (55, i) (by simp)).trans zp55
          have zL2 := LandAt.fr (fun j z0 z1 => zF2 (j, l) (by simp; omega)) hL
          have zR2 := RuOK.fr hR (fun z z0 z1 => zF2 z (fun zz => by rcases zz with rfl | rfl <;> simp at z0))
          have zrow : ∀ a : Int, 0 ≤ a → a ≤ 40 → zkf2 (ceS lv (bkN D (lv - 1).toNat la) + a) = kpS D E ru cs sr lv (bkN D (lv - 1).toNat la) a ∧ (sr = 2 ∨ sr = 3 → bf' (ceS lv (bkN D (lv - 1).toNat la) + a) = bpS D E cs sr lv (bkN D (lv - 1).toNat la) a) := fun a z0 z1 => by
            refine ⟨?_, fun z => by omega⟩
            rw [zrw a z0 z1]
            try dsimp only
            unfold kpS
            rw [if_pos (by omega)]
            rw [faR_ka hD hE (by omega) zbk.1 (fun z b b0 b1 => by
              have zz := (zV.2 la hla0 hla1).2.2 (lv - 1) (by omega) (by omega) b b0 b1
              rw [show (lv - 1).toNat = (lv - 1 - 1).toNat + 1 by omega, nx_bk hD _ hla0 hla1, zz.1]
              unfold kpS
              rw [if_pos (by omega), show (lv - 1 - 1).toNat = (lv - 2).toNat by omega])]
          have zoth : ∀ x : Int, x < ceS lv (bkN D (lv - 1).toNat la) ∨ ceS lv (bkN D (lv - 1).toNat la) + 40 < x → zkf2 x = kf' x ∧ bf' x = bf' x := fun x zx => ⟨zot x zx, rfl⟩
          have zF3 : Fr (fun z => isPl i z ∨ isOwn E z) h' zq43 := zF2.mono fun z zz => by rcases zz with zz | zz; exact Or.inl (Or.inl zz); exact Or.inl (Or.inr (Or.inr (Or.inr zz)))
          have z56e : ∃ af, zq43 (56, i) = some (oL 21 af) := ⟨_, z56⟩
          have z52e : zq43 (52, i) = some (oL (blS D sr) bf') := z52
          refine j_goto (tgt := 92) hc dX2_reckonTo_46 (by decide) ?_
          refine j_aload_n hc dX2_reckonTo_92 rfl ?_
          refine j_get hc dX2_reckonTo_93 fX2_45 z50 rfl ?_
          refine j_iload_n hc dX2_reckonTo_96 rfl ?_
          refine j_iload hc dX2_reckonTo_97 rfl ?_
          refine j_iast hc dX2_reckonTo_99 z54 hla0 (by omega) ?_
          generalize ezh5 : up _ _ _ = zh5
          have zzland_zh5 := LandAt.mv ezh5 (by simp) zL2
          have zP_zh5 := (congrFun ezh5 _).symm.trans ((up_ne (by simp)).trans z50)
          have zP54_zh5 := (congrFun ezh5 _).symm.trans (up_same _ _ _)
          refine j_aload_n hc dX2_reckonTo_100 rfl ?_
          refine j_get hc dX2_reckonTo_101 fX2_9 zP_zh5 rfl ?_
          refine j_iload hc dX2_reckonTo_104 rfl ?_
          refine j_callV (d' := d - 1) hc dX2_reckonTo_106 vX2_77 zzland_zh5.1 (ev_X0_seasonAhead (by omega) zzland_zh5 hD (by omega) (by omega)) rfl (by omega) (by omega) (by omega) rfl rfl (Nat.le_of_ble_eq_true rfl) (ret1 ?_)
          refine j_istore (L' := [_, _, _, _, _, _]) hc dX2_reckonTo_109 (Nat.le_of_ble_eq_true rfl) rfl ?_
          refine j_iinc (L' := [_, _, _, _, _, _]) hc dX2_reckonTo_111 rfl (Nat.le_of_ble_eq_true rfl) rfl ?_
          refine j_goto (tgt := 13) hc dX2_reckonTo_114 (by decide) ?_
          exact ih _ (by omega) (lv + 1) zh5 zkf2 bf' (fu lf' la lv) rfl (by omega) (by omega) zzland_zh5 ⟨zP_zh5, (congrFun ezh5 _).symm.trans ((up_ne (by simp)).trans z51), (congrFun ezh5 _).symm.trans ((up_ne (by simp)).trans z52e), zP54_zh5, (congrFun ezh5 _).symm.trans ((up_ne (by simp)).trans z55), (by obtain ⟨zaf9, z569⟩ := z56e; exact ⟨zaf9, (congrFun ezh5 _).symm.trans ((up_ne (by simp)).trans z569)⟩), PlV.step hD hE zV hla0 hla1 (by omega) (by omega) (by omega) zrow zoth⟩ (RuOK.mv ezh5 (by simp) zR2) (by rw [fu_same]; omega) (fun t z0 z1 => by
            by_cases ze : t = la
            · rw [ze, fu_same]; have := hmo la hla0 hla1; omega
            · rw [fu_ne ze]; exact hmo t z0 z1) (by rw [← ezh5]; exact (hfr.tr zF3).push (Or.inl (Or.inr (Or.inr (Or.inl rfl))))) zbk2
set_option maxRecDepth 100000 in
set_option maxHeartbeats 4000000 in
theorem ev_X2_reckonTo {k : WC} {d : Nat} {h : AH} {l : Int} {D : LaS} {E : LaY} {pl : Int → Option Nm} {i sr cs : Int} {ru : RU} {wf : Option Nm} {kf bf lf wl : Int → Int} {n s : Int} (hd : 5 ≤ d) (hL : LandAt h l D E pl) (hD : LOK D) (hE : YOK E) (hP : PlanAt h i l D E ru sr cs wf kf bf lf wl) (hR : RuOK h E ru) (hn1 : 1 ≤ n) (hn : n ≤ 12) (hs0 : 0 ≤ s) (hs1 : s < lSe D) (hcs0 : 0 ≤ cs) (hcs1 : cs ≤ 30) (hsr0 : 0 ≤ sr) (hsr1 : sr ≤ 4) : Ev k d mdX2_reckonTo h [vR (50, i), vI n, vI s] 0 0 (pn fun h' => ∃ kf' bf' lf' : Int → Int, PlanAt h' i l D E ru sr cs wf kf' bf' lf' wl ∧ n ≤ lf' (laN D (n - 1).toNat s) ∧ (∀ t : Int, 0 ≤ t → t < lSe D → lf t ≤ lf' t) ∧ RuOK h' E ru ∧ Fr (fun z => isPl i z ∨ isOwn E z) h h') := by
  have zp50 := hP.1
  have zla := laN_b hD (n - 1).toNat hs0 hs1
  have d2 := hD.2.1
  refine Ev.mk (by decide +kernel) [_, _, _, _, _, _] rfl (Nat.le_of_ble_eq_true rfl) (fun w hc he => ?_)
  refine j_aload_n hc dX2_reckonTo_0 rfl ?_
  refine j_iload_n hc dX2_reckonTo_1 rfl ?_
  refine j_iload_n hc dX2_reckonTo_2 rfl ?_
  refine j_callV (d' := d - 1) hc dX2_reckonTo_3 vX2_63 zp50 (ev_X2_lastSeason (by omega) hL hD zp50 (by omega) (by omega) (by omega) (by omega)) rfl (by omega) (by omega) (by omega) rfl rfl (Nat.le_of_ble_eq_true rfl) (ret1 ?_)
  refine j_istore_n (L' := [_, _, _, _, _, _]) hc dX2_reckonTo_6 (Nat.le_of_ble_eq_true rfl) rfl ?_
  refine j_iload_n hc dX2_reckonTo_7 rfl ?_
  refine j_istore (L' := [_, _, _, _, _, _]) hc dX2_reckonTo_8 (Nat.le_of_ble_eq_true rfl) rfl ?_
  refine j_iconst hc dX2_reckonTo_10 ?_
  refine j_istore (L' := [_, _, _, _, _, _]) hc dX2_reckonTo_11 (Nat.le_of_ble_eq_true rfl) rfl ?_
  exact lp_X2_reckonTo hd hD hE hn1 hn hs0 hs1 hcs0 hcs1 hsr0 hsr1 rfl zla.1 zla.2 hc he _ 1 h kf bf lf rfl (by omega) (by omega) hL hP hR (by have := (hP.2.2.2.2.2.2.2 _ zla.1 zla.2).1; omega) (fun t _ _ => Int.le_refl _) (Fr.rf _ _) rfl
