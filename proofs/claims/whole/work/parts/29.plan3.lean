/-! ===== welfare ===== -/
set_option maxRecDepth 100000 in
set_option maxHeartbeats 4000000 in
theorem lp_X2_fillWelfare {k : WC} {d : Nat} {w : MC} {h : AH} {l : Int} {D : LaS} {E : LaY} {pl : Int → Option Nm} {i sr cs : Int} {gn : Nm} {kf vf : Int → Int} {n s : Int} (hd : 4 ≤ d) (hD : LOK D) (hkr : ∀ a : Int, 0 ≤ a → a ≤ 40 → 0 ≤ kf (ceS n s + a) ∧ kf (ceS n s + a) ≤ 20 ∧ kf (ceS n s + a) ≤ a) (hn1 : 1 ≤ n) (hn : n ≤ 12) (hs0 : 0 ≤ s) (hs1 : s < lSe D) (hcs0 : 0 ≤ cs) (hcs1 : cs ≤ 30) (hsr0 : 0 ≤ sr) (hsr1 : sr ≤ 4)  (hc : Cx w k d 0 0 mdX2_fillWelfare) (he : Ends w 0 0 (pn fun h' => ∃ vf', h' (53, i) = some (oL ((lSe D).toNat * 492) vf') ∧ (∀ a : Int, 0 ≤ a → a ≤ 40 → vf' (ceS n s + a) = weV D cs sr (kf (ceS n s + a)) vf n s a) ∧ (∀ x : Int, x < ceS n s ∨ ceS n s + 40 < x → vf' x = vf x) ∧ Fr (fun z => z = (53, i)) h h')) : ∀ (zm : Nat) (a : Int) (h' : AH) (vf' : Int → Int) (z8 z9 z10 : Option AV), (41 - a).toNat = zm → 0 ≤ a → a ≤ 41 → LandAt h' l D E pl → h' (50, i) = some (oO 2 (pF i l sr cs (some (53, i)) gn)) → h' (51, i) = some (oI ((lSe D).toNat * 492) kf) → h' (53, i) = some (oL ((lSe D).toNat * 492) vf') → (∀ b : Int, 0 ≤ b → b < a → vf' (ceS n s + b) = weV D cs sr (kf (ceS n s + b)) vf n s b) → (∀ x : Int, x < ceS n s ∨ ceS n s + 40 < x → vf' x = vf x) → Fr (fun z => z = (53, i)) h h' → J w 0 0 30 [some (vR (50, i)), some (vI n), some (vI s), some (vI (nxS D s)), some (vI (ceS n s)), some (vL (beN D (n - 1).toNat s)), none, some (vI a), z8, z9, z10] [] h' := by
  have zce : ceS n s = (s * 12 + n - 1) * 41 := rfl
  have zn := nxS_b hD hs0
  have d2 := hD.2.1
  intro zm
  induction zm using Nat.strongRecOn with
  | _ zm ih =>
    intro a h' vf' z8 z9 z10 hm ha0 ha1 hL zp50 zp51 zp53 hq1 hq2 hfr
    refine j_iload hc dX2_fillWelfare_30 rfl ?_
    refine j_bipush hc dX2_fillWelfare_32 (by decide) ?_
    refine j_icmp_gt (tgt := 129) hc dX2_fillWelfare_34 (by decide) ⟨by omega, by omega⟩ ⟨by omega, by omega⟩ (fun zc1 => ?_) (fun zc1 => ?_)
    · exact j_vret hc he dX2_fillWelfare_129 rfl (by omega) (by omega) ⟨rfl, vf', zp53, fun b z0 z1 => hq1 b z0 (by omega), hq2, hfr⟩
    · obtain ⟨zk0, zk1, zk2⟩ := hkr a ha0 (by omega)
      have zea := eaS_b hD (sr := sr) (e := a - kf (ceS n s + a)) (by omega)
      have zgo := goS_b hD (e := eaS D sr (a - kf (ceS n s + a))) (by omega)
      have zlk := leS_b hD (k := kf (ceS n s + a)) zk0
      have zcm := mul_b hcs0 hcs1 zk0 zk1
      have zsum : n > 1 → suF (stG D vf' (n - 1) (nxS D s) (leS D (kf (ceS n s + a)))) (lHv D (nxS D s)).toNat = suF (stG D vf (n - 1) (nxS D s) (leS D (kf (ceS n s + a)))) (lHv D (nxS D s)).toNat := fun zz => suF_congr _ fun j hj => by
        obtain ⟨hv1, hv2, -, -, -, hv3⟩ := hD.2.2.2.2.2.2.2.2.2.2.2.2 (nxS D s) zn.1 zn.2
        obtain ⟨zj1, zj2, -, -⟩ := hv3 j (by omega) (by omega)
        rw [show 4 * nxS D s + (j : Int) = nxS D s * 4 + j by omega] at zj1 zj2
        unfold stG
        have zce2 : ceS (n - 1) (nxS D s) = (nxS D s * 12 + (n - 1) - 1) * 41 := rfl
        rw [hq2 _ (by omega)]
      have zwv : weV D cs sr (kf (ceS n s + a)) vf n s a = weV D cs sr (kf (ceS n s + a)) vf n s a := rfl
      refine j_aload_n hc dX2_fillWelfare_37 rfl ?_
      refine j_get hc dX2_fillWelfare_38 fX2_28 zp50 rfl ?_
      refine j_iload hc dX2_fillWelfare_41 rfl ?_
      refine j_iload hc dX2_fillWelfare_43 rfl ?_
      refine j_iadd hc dX2_fillWelfare_45 ?_
      refine j_iald hc dX2_fillWelfare_46 zp51 (by omega) (by omega) ?_
      refine j_istore (L' := [_, _, _, _, _, _, _, _, _, _, _]) hc dX2_fillWelfare_47 (Nat.le_of_ble_eq_true rfl) rfl ?_
      refine j_lload hc dX2_fillWelfare_49 rfl ?_
      refine j_aload_n hc dX2_fillWelfare_51 rfl ?_
      refine j_get hc dX2_fillWelfare_52 fX2_9 zp50 rfl ?_
      refine j_aload_n hc dX2_fillWelfare_55 rfl ?_
      refine j_iload hc dX2_fillWelfare_56 rfl ?_
      refine j_iload hc dX2_fillWelfare_58 rfl ?_
      refine j_isub hc dX2_fillWelfare_60 ?_
      refine j_callV (d' := d - 1) hc dX2_fillWelfare_61 vX2_166 zp50 (ev_X2_eatenOf (by omega) hL hD zp50 ⟨by omega, by omega⟩ (by omega) (by omega)) rfl (by omega) (by omega) (by omega) rfl rfl (Nat.le_of_ble_eq_true rfl) (ret1 ?_)
      refine j_callV (d' := d - 1) hc dX2_fillWelfare_64 vX2_169 hL.1 (ev_X0_goodsOf (by omega) hL hD ⟨by omega, by omega⟩) rfl (by omega) (by omega) (by omega) rfl rfl (Nat.le_of_ble_eq_true rfl) (ret1 ?_)
      rw [if_pos ⟨by omega, by omega⟩]
      refine j_aload_n hc dX2_fillWelfare_67 rfl ?_
      refine j_get hc dX2_fillWelfare_68 fX2_24 zp50 rfl ?_
      refine j_iload hc dX2_fillWelfare_71 rfl ?_
      refine j_imul hc dX2_fillWelfare_73 ?_
      refine j_isub hc dX2_fillWelfare_74 ?_
      refine j_i2l hc dX2_fillWelfare_75 ⟨by omega, by omega⟩ ?_
      refine j_lmul hc dX2_fillWelfare_76 ?_
      refine j_lstore (L' := [_, _, _, _, _, _, _, _, _, _, _]) hc dX2_fillWelfare_77 (Nat.le_of_ble_eq_true rfl) rfl ?_
      refine j_aload_n hc dX2_fillWelfare_79 rfl ?_
      refine j_get hc dX2_fillWelfare_80 fX2_99 zp50 rfl ?_
      refine j_iload hc dX2_fillWelfare_83 rfl ?_
      refine j_iload hc dX2_fillWelfare_85 rfl ?_
      refine j_iadd hc dX2_fillWelfare_87 ?_
      refine j_iload_n hc dX2_fillWelfare_88 rfl ?_
      refine j_iconst hc dX2_fillWelfare_89 ?_
      refine j_icmp_le (tgt := 120) hc dX2_fillWelfare_90 (by decide) ⟨by omega, by omega⟩ ⟨by omega, by omega⟩ (fun zc2 => ?_) (fun zc2 => ?_)
      · refine j_lload hc dX2_fillWelfare_120 rfl ?_
        refine j_last hc dX2_fillWelfare_122 zp53 (by omega) (by omega) ?_
        generalize ezh1 : up _ _ _ = zh1
        have zzland_zh1 := LandAt.mv ezh1 (by simp) hL
        have zP_zh1 := (congrFun ezh1 _).symm.trans ((up_ne (by simp)).trans zp50)
        have zP51_zh1 := (congrFun ezh1 _).symm.trans ((up_ne (by simp)).trans zp51)
        have zP53_zh1 := (congrFun ezh1 _).symm.trans (up_same _ _ _)
        refine j_iinc (L' := [_, _, _, _, _, _, _, _, _, _, _]) hc dX2_fillWelfare_123 rfl (Nat.le_of_ble_eq_true rfl) rfl ?_
        refine j_goto (tgt := 30) hc dX2_fillWelfare_126 (by decide) ?_
        exact ih _ (by omega) (a + 1) zh1 (fu vf' (ceS n s + a) _) _ _ _ rfl (by omega) (by omega) zzland_zh1 zP_zh1 zP51_zh1 zP53_zh1 (fun b z0 z1 => by
          by_cases ze : b = a
          · rw [ze, fu_same]; rw [← zwv]; unfold weV; first | rw [if_pos (by omega)] | (rw [if_neg (by omega)]; omega)
          · rw [fu_ne (by omega)]; exact hq1 b z0 (by omega)) (fun x zx => by rw [fu_ne (by omega)]; exact hq2 x zx) (by rw [← ezh1]; exact hfr.push rfl)
      · refine j_lload hc dX2_fillWelfare_93 rfl ?_
        refine j_aload_n hc dX2_fillWelfare_95 rfl ?_
        refine j_aload_n hc dX2_fillWelfare_96 rfl ?_
        refine j_get hc dX2_fillWelfare_97 fX2_99 zp50 rfl ?_
        refine j_iload_n hc dX2_fillWelfare_100 rfl ?_
        refine j_iconst hc dX2_fillWelfare_101 ?_
        refine j_isub hc dX2_fillWelfare_102 ?_
        refine j_iload_n hc dX2_fillWelfare_103 rfl ?_
        refine j_aload_n hc dX2_fillWelfare_104 rfl ?_
        refine j_get hc dX2_fillWelfare_105 fX2_9 zp50 rfl ?_
        refine j_iload hc dX2_fillWelfare_108 rfl ?_
        refine j_callV (d' := d - 1) hc dX2_fillWelfare_110 vX2_127 hL.1 (ev_X0_leftOf (by omega) hL hD (by omega) (by omega)) rfl (by omega) (by omega) (by omega) rfl rfl (Nat.le_of_ble_eq_true rfl) (ret1 ?_)
        refine j_callV (d' := d - 1) hc dX2_fillWelfare_113 vX2_147 zp50 (ev_X2_sumThen (by omega) hL hD zp50 zp53 (by omega) (by omega) zn.1 zn.2 zlk.1 (by omega)) rfl (by omega) (by omega) (by omega) rfl rfl (Nat.le_of_ble_eq_true rfl) (ret1 ?_)
        rw [zsum (by omega)]
        refine j_ladd hc dX2_fillWelfare_116 ?_
        refine j_goto (tgt := 122) hc dX2_fillWelfare_117 (by decide) ?_
        refine j_last hc dX2_fillWelfare_122 zp53 (by omega) (by omega) ?_
        generalize ezh2 : up _ _ _ = zh2
        have zzland_zh2 := LandAt.mv ezh2 (by simp) hL
        have zP_zh2 := (congrFun ezh2 _).symm.trans ((up_ne (by simp)).trans zp50)
        have zP51_zh2 := (congrFun ezh2 _).symm.trans ((up_ne (by simp)).trans zp51)
        have zP53_zh2 := (congrFun ezh2 _).symm.trans (up_same _ _ _)
        refine j_iinc (L' := [_, _, _, _, _, _, _, _, _, _, _]) hc dX2_fillWelfare_123 rfl (Nat.le_of_ble_eq_true rfl) rfl ?_
        refine j_goto (tgt := 30) hc dX2_fillWelfare_126 (by decide) ?_
        exact ih _ (by omega) (a + 1) zh2 (fu vf' (ceS n s + a) _) _ _ _ rfl (by omega) (by omega) zzland_zh2 zP_zh2 zP51_zh2 zP53_zh2 (fun b z0 z1 => by
          by_cases ze : b = a
          · rw [ze, fu_same]; rw [← zwv]; unfold weV; first | rw [if_pos (by omega)] | (rw [if_neg (by omega)]; omega)
          · rw [fu_ne (by omega)]; exact hq1 b z0 (by omega)) (fun x zx => by rw [fu_ne (by omega)]; exact hq2 x zx) (by rw [← ezh2]; exact hfr.push rfl)
set_option maxRecDepth 100000 in
set_option maxHeartbeats 4000000 in
theorem ev_X2_fillWelfare {k : WC} {d : Nat} {h : AH} {l : Int} {D : LaS} {E : LaY} {pl : Int → Option Nm} {i sr cs : Int} {gn : Nm} {kf vf : Int → Int} {n s : Int} (hd : 4 ≤ d) (hL : LandAt h l D E pl) (hD : LOK D) (zp50 : h (50, i) = some (oO 2 (pF i l sr cs (some (53, i)) gn))) (zp51 : h (51, i) = some (oI ((lSe D).toNat * 492) kf)) (zp53 : h (53, i) = some (oL ((lSe D).toNat * 492) vf)) (hkr : ∀ a : Int, 0 ≤ a → a ≤ 40 → 0 ≤ kf (ceS n s + a) ∧ kf (ceS n s + a) ≤ 20 ∧ kf (ceS n s + a) ≤ a) (hn1 : 1 ≤ n) (hn : n ≤ 12) (hs0 : 0 ≤ s) (hs1 : s < lSe D) (hcs0 : 0 ≤ cs) (hcs1 : cs ≤ 30) (hsr0 : 0 ≤ sr) (hsr1 : sr ≤ 4)  : Ev k d mdX2_fillWelfare h [vR (50, i), vI n, vI s] 0 0 (pn fun h' => ∃ vf', h' (53, i) = some (oL ((lSe D).toNat * 492) vf') ∧ (∀ a : Int, 0 ≤ a → a ≤ 40 → vf' (ceS n s + a) = weV D cs sr (kf (ceS n s + a)) vf n s a) ∧ (∀ x : Int, x < ceS n s ∨ ceS n s + 40 < x → vf' x = vf x) ∧ Fr (fun z => z = (53, i)) h h') := by
  have d2 := hD.2.1
  refine Ev.mk (by decide +kernel) [_, _, _, _, _, _, _, _, _, _, _] rfl (Nat.le_of_ble_eq_true rfl) (fun w hc he => ?_)
  refine j_aload_n hc dX2_fillWelfare_0 rfl ?_
  refine j_get hc dX2_fillWelfare_1 fX2_9 zp50 rfl ?_
  refine j_iload_n hc dX2_fillWelfare_4 rfl ?_
  refine j_callV (d' := d - 1) hc dX2_fillWelfare_5 vX2_105 hL.1 (ev_X0_seasonBehind (by omega) hL hD (by omega) (by omega)) rfl (by omega) (by omega) (by omega) rfl rfl (Nat.le_of_ble_eq_true rfl) (ret1 ?_)
  refine j_istore_n (L' := [_, _, _, _, _, _, _, _, _, _, _]) hc dX2_fillWelfare_8 (Nat.le_of_ble_eq_true rfl) rfl ?_
  refine j_iload_n hc dX2_fillWelfare_9 rfl ?_
  refine j_iload_n hc dX2_fillWelfare_10 rfl ?_
  refine j_callS (d' := d - 1) hc dX2_fillWelfare_11 sX2_81 (ev_X2_cellOf (by omega)) rfl (by omega) (by omega) (by omega) rfl rfl (Nat.le_of_ble_eq_true rfl) (ret1 ?_)
  refine j_istore (L' := [_, _, _, _, _, _, _, _, _, _, _]) hc dX2_fillWelfare_14 (Nat.le_of_ble_eq_true rfl) rfl ?_
  refine j_aload_n hc dX2_fillWelfare_16 rfl ?_
  refine j_get hc dX2_fillWelfare_17 fX2_9 zp50 rfl ?_
  refine j_iload_n hc dX2_fillWelfare_20 rfl ?_
  refine j_iload_n hc dX2_fillWelfare_21 rfl ?_
  refine j_callV (d' := d - 1) hc dX2_fillWelfare_22 vX2_108 hL.1 (ev_X0_belowOf (by omega) hL hD (by omega) (by omega) (by omega) (by omega)) rfl (by omega) (by omega) (by omega) rfl rfl (Nat.le_of_ble_eq_true rfl) (ret1 ?_)
  refine j_lstore (L' := [_, _, _, _, _, _, _, _, _, _, _]) hc dX2_fillWelfare_25 (Nat.le_of_ble_eq_true rfl) rfl ?_
  refine j_iconst hc dX2_fillWelfare_27 ?_
  refine j_istore (L' := [_, _, _, _, _, _, _, _, _, _, _]) hc dX2_fillWelfare_28 (Nat.le_of_ble_eq_true rfl) rfl ?_
  exact lp_X2_fillWelfare hd hD hkr hn1 hn hs0 hs1 hcs0 hcs1 hsr0 hsr1 hc he _ 0 h vf _ _ _ rfl (by omega) (by omega) hL zp50 zp51 zp53 (fun b z0 z1 => by omega) (fun x _ => rfl) (Fr.rf _ _)
set_option maxRecDepth 100000 in
set_option maxHeartbeats 4000000 in
theorem lp_X2_fillWelfareTo {k : WC} {d : Nat} {w : MC} {m1 m2 : Nat} {h : AH} {l : Int} {D : LaS} {E : LaY} {pl : Int → Option Nm} {i sr cs : Int} {ru : RU} {gn : Nm} {kf lf : Int → Int} {n s la : Int} (hd : 5 ≤ d) (hm1 : m1 ≤ 1) (hm2 : m2 ≤ 1968) (hD : LOK D) (hE : YOK E) (hkl : ∀ n' : Int, 1 ≤ n' → n' ≤ n → ∀ a : Int, 0 ≤ a → a ≤ 40 → kf (ceS n' (bkN D (n' - 1).toNat la) + a) = kpS D E ru cs sr n' (bkN D (n' - 1).toNat la) a) (hkb : ∀ n' : Int, 1 ≤ n' → n' ≤ n → ∀ a : Int, 0 ≤ a → a ≤ 40 → kpS D E ru cs sr n' (bkN D (n' - 1).toNat la) a ≤ a) (hl12 : ∀ t : Int, 0 ≤ t → t < lSe D → lf t ≤ 12) (hnl : n ≤ lf la) (hn1 : 1 ≤ n) (hn : n ≤ 12) (hs0 : 0 ≤ s) (hs1 : s < lSe D) (hcs0 : 0 ≤ cs) (hcs1 : cs ≤ 30) (hsr0 : 0 ≤ sr) (hsr1 : sr ≤ 4) (hla0 : 0 ≤ la) (hla1 : la < lSe D) (hc : Cx w k d 1 1968 mdX2_fillWelfareTo) (he : Ends w 1 1968 (pn fun h' => ∃ vf' wl' : Int → Int, h' (50, i) = some (oO 2 (pF i l sr cs (some (53, i)) gn)) ∧ h' (53, i) = some (oL ((lSe D).toNat * 492) vf') ∧ h' (55, i) = some (oI 4 wl') ∧ WlV D E ru cs sr vf' wl' lf ∧ n ≤ wl' la ∧ Fr (fun z => z = (50, i) ∨ z = (53, i) ∨ z = (55, i)) h h')) : ∀ (zm : Nat) (lv : Int) (h' : AH) (vf' wl' : Int → Int) {th : Int}, (13 - lv).toNat = zm → 1 ≤ lv → lv ≤ n + 1 → LandAt h' l D E pl → h' (50, i) = some (oO 2 (pF i l sr cs (some (53, i)) gn)) → h' (51, i) = some (oI ((lSe D).toNat * 492) kf) → h' (53, i) = some (oL ((lSe D).toNat * 492) vf') → h' (55, i) = some (oI 4 wl') → WlV D E ru cs sr vf' wl' lf → lv - 1 ≤ wl' la → Fr (fun z => z = (50, i) ∨ z = (53, i) ∨ z = (55, i)) h h' → th = bkN D (lv - 1).toNat la → J w m1 m2 31 [some (vR (50, i)), some (vI n), some (vI s), some (vI la), some (vI th), some (vI lv)] [] h' := by
  intro zm
  induction zm using Nat.strongRecOn with
  | _ zm ih =>
    intro lv h' vf' wl' th hm hl0 hl1 hL zp50 zp51 zp53 zp55 hV hlv hfr hth
    subst hth
    have zbk := bkN_b hD (lv - 1).toNat hla0 hla1
    have zwl := hV la hla0 hla1
    have zl12 := hl12 la hla0 hla1
    have d2 := hD.2.1
    have zbk2 : pvS D (bkN D (lv - 1).toNat la) = bkN D (lv + 1 - 1).toNat la := by rw [show (lv + 1 - 1).toNat = (lv - 1).toNat + 1 by omega]; rfl
    refine j_iload hc dX2_fillWelfareTo_31 rfl ?_
    refine j_iload_n hc dX2_fillWelfareTo_33 rfl ?_
    refine j_icmp_gt (tgt := 81) hc dX2_fillWelfareTo_34 (by decide) ⟨by omega, by omega⟩ ⟨by omega, by omega⟩ (fun zc1 => ?_) (fun zc1 => ?_)
    · exact j_vret hc he dX2_fillWelfareTo_81 rfl (by omega) (by omega) ⟨rfl, vf', wl', zp50, zp53, zp55, hV, by omega, hfr⟩
    · refine j_iload hc dX2_fillWelfareTo_37 rfl ?_
      refine j_aload_n hc dX2_fillWelfareTo_39 rfl ?_
      refine j_get hc dX2_fillWelfareTo_40 fX2_48 zp50 rfl ?_
      refine j_iload_n hc dX2_fillWelfareTo_43 rfl ?_
      refine j_iald hc dX2_fillWelfareTo_44 zp55 hla0 (by omega) ?_
      refine j_icmp_le (tgt := 64) hc dX2_fillWelfareTo_45 (by decide) ⟨by omega, by omega⟩ ⟨by omega, by omega⟩ (fun zc2 => ?_) (fun zc2 => ?_)
      · refine j_aload_n hc dX2_fillWelfareTo_64 rfl ?_
        refine j_get hc dX2_fillWelfareTo_65 fX2_9 zp50 rfl ?_
        refine j_iload hc dX2_fillWelfareTo_68 rfl ?_
        refine j_callV (d' := d - 1) hc dX2_fillWelfareTo_70 vX2_77 hL.1 (ev_X0_seasonAhead (by omega) hL hD (by omega) (by omega)) rfl (by omega) (by omega) (by omega) rfl rfl (Nat.le_of_ble_eq_true rfl) (ret1 ?_)
        refine j_istore (L' := [_, _, _, _, _, _]) hc dX2_fillWelfareTo_73 (Nat.le_of_ble_eq_true rfl) rfl ?_
        refine j_iinc (L' := [_, _, _, _, _, _]) hc dX2_fillWelfareTo_75 rfl (Nat.le_of_ble_eq_true rfl) rfl ?_
        refine j_goto (tgt := 31) hc dX2_fillWelfareTo_78 (by decide) ?_
        exact ih _ (by omega) (lv + 1) h' vf' wl' rfl (by omega) (by omega) hL zp50 zp51 zp53 zp55 hV (by omega) hfr zbk2
      · refine j_aload_n hc dX2_fillWelfareTo_48 rfl ?_
        refine j_iload hc dX2_fillWelfareTo_49 rfl ?_
        refine j_iload hc dX2_fillWelfareTo_51 rfl ?_
        refine j_callV (d' := d - 1) hc dX2_fillWelfareTo_53 vX2_163 zp50 (ev_X2_fillWelfare (by omega) hL hD zp50 zp51 zp53 (fun a z0 z1 => by rw [hkl lv (by omega) (by omega) a z0 z1]; have zq := kpS_b hD hE (ru := ru) (cs := cs) (sr := sr) (n := lv) (s := bkN D (lv - 1).toNat la) z0; exact ⟨zq.1, zq.2, hkb lv (by omega) (by omega) a z0 z1⟩) (by omega) (by omega) zbk.1 zbk.2 hcs0 hcs1 hsr0 hsr1) rfl (by omega) (by omega) (by omega) rfl rfl (Nat.le_of_ble_eq_true rfl) (retN fun zq53 zp53 => ?_)
        obtain ⟨zvf2, z53, zrw, zot, zF2⟩ := zp53
        have z50 := (zF2 (50, i) (by simp)).trans zp50
        have z51 := (zF2 (51, i) (by simp)).trans zp51
        have z55 := (zF2 (55, i) (by simp)).trans zp55
        have zL2 := LandAt.fr (fun j z0 z1 => zF2 (j, l) (by simp; omega)) hL
        have zrow : ∀ a : Int, 0 ≤ a → a ≤ 40 → zvf2 (ceS lv (bkN D (lv - 1).toNat la) + a) = weN D E ru cs sr (lv - 1).toNat (bkN D (lv - 1).toNat la) a := fun a z0 z1 => by
          rw [zrw a z0 z1, hkl lv (by omega) (by omega) a z0 z1]
          exact weV_we hD hE (by omega) zbk.1 z0 (fun z b b0 b1 => by
            have zz := (hV la hla0 hla1).2.2 (lv - 1) (by omega) (by omega) b b0 b1
            rw [show (lv - 1).toNat = (lv - 1 - 1).toNat + 1 by omega, nx_bk hD _ hla0 hla1, zz, show (lv - 1 - 1).toNat = (lv - 2).toNat by omega])
        refine j_aload_n hc dX2_fillWelfareTo_56 rfl ?_
        refine j_get hc dX2_fillWelfareTo_57 fX2_48 z50 rfl ?_
        refine j_iload_n hc dX2_fillWelfareTo_60 rfl ?_
        refine j_iload hc dX2_fillWelfareTo_61 rfl ?_
        refine j_iast hc dX2_fillWelfareTo_63 z55 hla0 (by omega) ?_
        generalize ezh1 : up _ _ _ = zh1
        have zzland_zh1 := LandAt.mv ezh1 (by simp) zL2
        have zP_zh1 := (congrFun ezh1 _).symm.trans ((up_ne (by simp)).trans z50)
        have zP55_zh1 := (congrFun ezh1 _).symm.trans (up_same _ _ _)
        have zP51_zh1 := (congrFun ezh1 _).symm.trans ((up_ne (by simp)).trans z51)
        have zP53_zh1 := (congrFun ezh1 _).symm.trans ((up_ne (by simp)).trans z53)
        refine j_aload_n hc dX2_fillWelfareTo_64 rfl ?_
        refine j_get hc dX2_fillWelfareTo_65 fX2_9 zP_zh1 rfl ?_
        refine j_iload hc dX2_fillWelfareTo_68 rfl ?_
        refine j_callV (d' := d - 1) hc dX2_fillWelfareTo_70 vX2_77 zzland_zh1.1 (ev_X0_seasonAhead (by omega) zzland_zh1 hD (by omega) (by omega)) rfl (by omega) (by omega) (by omega) rfl rfl (Nat.le_of_ble_eq_true rfl) (ret1 ?_)
        refine j_istore (L' := [_, _, _, _, _, _]) hc dX2_fillWelfareTo_73 (Nat.le_of_ble_eq_true rfl) rfl ?_
        refine j_iinc (L' := [_, _, _, _, _, _]) hc dX2_fillWelfareTo_75 rfl (Nat.le_of_ble_eq_true rfl) rfl ?_
        refine j_goto (tgt := 31) hc dX2_fillWelfareTo_78 (by decide) ?_
        exact ih _ (by omega) (lv + 1) zh1 zvf2 (fu wl' la lv) rfl (by omega) (by omega) zzland_zh1 zP_zh1 zP51_zh1 zP53_zh1 zP55_zh1 (hV.step hD hla0 hla1 (by omega) (by omega) (by omega) (by omega) hl12 zrow zot) (by rw [fu_same]; omega) (by rw [← ezh1]; exact (hfr.tr (zF2.mono fun z zz => Or.inr (Or.inl zz))).push (Or.inr (Or.inr rfl))) zbk2
theorem kpS_le {D : LaS} {E : LaY} (hD : LOK D) (hE : YOK E) {ru : RU} {cs sr n s a : Int} (hn : 1 ≤ n) (ha : 0 ≤ a) : kpS D E ru cs sr n s a ≤ a := by
  have h3 := moS_b hD hE
  unfold kpS
  split
  · cases hm : (n - 1).toNat with
    | zero =>
      have := fsk_le (faT D cs (fun _ => 0) 1 s a) (min a (faM D E 1)).toNat 0
      unfold kaN faR
      omega
    | succ m =>
      have := fsk_le (faT D cs (fun x => (kaN D E cs m (nxS D s) (x - ceS (m + 1) (nxS D s)) : Int)) (m + 2) s a) (min a (faM D E (m + 2))).toNat 0
      unfold kaN faR
      omega
  · split
    · cases hm : (n - 1).toNat with
      | zero =>
        have := mxN_le (v := fbV D cs (gaS D sr) (fun _ => 0) 1 s a) (min a (faM D E 1)).toNat
        unfold bvN
        omega
      | succ m =>
        have := mxN_le (v := fbV D cs (gaS D sr) (fun x => (bvN D E cs (gaS D sr) m (nxS D s) (x - ceS (m + 1) (nxS D s))).1) (m + 2) s a) (min a (faM D E (m + 2))).toNat
        unfold bvN
        omega
    · split
      · unfold kuS
        split
        · split <;> omega
        · omega
      · omega
set_option maxRecDepth 100000 in
set_option maxHeartbeats 4000000 in
theorem ev_X2_fillWelfareTo {k : WC} {d : Nat} {h : AH} {l : Int} {D : LaS} {E : LaY} {pl : Int → Option Nm} {i sr cs : Int} {ru : RU} {wf : Option Nm} {gn : Nm} {kf lf wl : Int → Int} {n s : Int} (hd : 5 ≤ d) (hL : LandAt h l D E pl) (hD : LOK D) (hE : YOK E) (zp50 : h (50, i) = some (oO 2 (pF i l sr cs wf gn))) (zp51 : h (51, i) = some (oI ((lSe D).toNat * 492) kf)) (hW : PlanW h i D E ru sr cs wf wl lf) (zp55 : h (55, i) = some (oI 4 wl)) (hkl : ∀ n' : Int, 1 ≤ n' → n' ≤ n → ∀ a : Int, 0 ≤ a → a ≤ 40 → kf (ceS n' (bkN D (n' - 1).toNat (laN D (n - 1).toNat s)) + a) = kpS D E ru cs sr n' (bkN D (n' - 1).toNat (laN D (n - 1).toNat s)) a) (hl12 : ∀ t : Int, 0 ≤ t → t < lSe D → lf t ≤ 12) (hnl : n ≤ lf (laN D (n - 1).toNat s)) (hn1 : 1 ≤ n) (hn : n ≤ 12) (hs0 : 0 ≤ s) (hs1 : s < lSe D) (hcs0 : 0 ≤ cs) (hcs1 : cs ≤ 30) (hsr0 : 0 ≤ sr) (hsr1 : sr ≤ 4)  : Ev k d mdX2_fillWelfareTo h [vR (50, i), vI n, vI s] 1 1968 (pn fun h' => ∃ vf' wl' : Int → Int, h' (50, i) = some (oO 2 (pF i l sr cs (some (53, i)) gn)) ∧ h' (53, i) = some (oL ((lSe D).toNat * 492) vf') ∧ h' (55, i) = some (oI 4 wl') ∧ WlV D E ru cs sr vf' wl' lf ∧ n ≤ wl' (laN D (n - 1).toNat s) ∧ Fr (fun z => z = (50, i) ∨ z = (53, i) ∨ z = (55, i)) h h') := by
  have d2 := hD.2.1
  have d1 := hD.1
  have zla := laN_b hD (n - 1).toNat hs0 hs1
  refine Ev.mk (by decide +kernel) [_, _, _, _, _, _] rfl (Nat.le_of_ble_eq_true rfl) (fun w hc he => ?_)
  refine j_aload_n hc dX2_fillWelfareTo_0 rfl ?_
  refine j_get hc dX2_fillWelfareTo_1 fX2_99 zp50 rfl ?_
  refine j_ifnonnull (tgt := 18) hc dX2_fillWelfareTo_4 (by decide) (fun zc1 => ?_) (fun zc1 => ?_)
  · obtain ⟨zwf, zvf, zv53, zvV⟩ : wf = some (53, i) ∧ ∃ vf, h (53, i) = some (oL ((lSe D).toNat * 492) vf) ∧ WlV D E ru cs sr vf wl lf := by
      rcases hW with zz | zz
      · exact absurd zz.1 zc1
      · exact zz
    have zp50s : h (50, i) = some (oO 2 (pF i l sr cs (some (53, i)) gn)) := by rw [← zwf]; exact zp50
    refine j_aload_n hc dX2_fillWelfareTo_18 rfl ?_
    refine j_iload_n hc dX2_fillWelfareTo_19 rfl ?_
    refine j_iload_n hc dX2_fillWelfareTo_20 rfl ?_
    refine j_callV (d' := d - 1) hc dX2_fillWelfareTo_21 vX2_63 zp50 (ev_X2_lastSeason (by omega) hL hD zp50 (by omega) (by omega) (by omega) (by omega)) rfl (by omega) (by omega) (by omega) rfl rfl (Nat.le_of_ble_eq_true rfl) (ret1 ?_)
    refine j_istore_n (L' := [_, _, _, _, _, _]) hc dX2_fillWelfareTo_24 (Nat.le_of_ble_eq_true rfl) rfl ?_
    refine j_iload_n hc dX2_fillWelfareTo_25 rfl ?_
    refine j_istore (L' := [_, _, _, _, _, _]) hc dX2_fillWelfareTo_26 (Nat.le_of_ble_eq_true rfl) rfl ?_
    refine j_iconst hc dX2_fillWelfareTo_28 ?_
    refine j_istore (L' := [_, _, _, _, _, _]) hc dX2_fillWelfareTo_29 (Nat.le_of_ble_eq_true rfl) rfl ?_
    exact lp_X2_fillWelfareTo hd (by omega) (by omega) hD hE hkl (fun n' z0 z1 a a0 a1 => kpS_le hD hE z0 a0) hl12 hnl hn1 hn hs0 hs1 hcs0 hcs1 hsr0 hsr1 zla.1 zla.2 hc he _ 1 h zvf wl rfl (by omega) (by omega) hL zp50s zp51 zv53 zp55 zvV (by have := (zvV _ zla.1 zla.2).1; omega) (Fr.rf _ _) rfl
  · obtain ⟨zwf, zw2, zw3⟩ : wf = none ∧ h (53, i) = none ∧ ∀ t : Int, 0 ≤ t → t < lSe D → wl t = 0 ∧ 0 ≤ lf t := by
      rcases hW with zz | zz
      · exact zz
      · rw [zc1] at zz; exact absurd zz.1 (by simp)
    refine j_aload_n hc dX2_fillWelfareTo_7 rfl ?_
    refine j_aload_n hc dX2_fillWelfareTo_8 rfl ?_
    refine j_get hc dX2_fillWelfareTo_9 fX2_28 zp50 rfl ?_
    refine j_alenP hc dX2_fillWelfareTo_12 zp51 (by decide) ?_
    refine j_newL (nm := (53, i)) hc dX2_fillWelfareTo_13 ka_long zw2 (by omega) (by omega) (by omega) (by omega) ?_
    generalize ezh1 : up _ _ _ = zh1
    have zzland_zh1 := LandAt.mv ezh1 (by simp) hL
    have zP_zh1 := (congrFun ezh1 _).symm.trans ((up_ne (by simp)).trans zp50)
    have zP51_zh1 := (congrFun ezh1 _).symm.trans ((up_ne (by simp)).trans zp51)
    have zP55_zh1 := (congrFun ezh1 _).symm.trans ((up_ne (by simp)).trans zp55)
    have zP53_zh1 := (congrFun ezh1 _).symm.trans (up_same _ _ _)
    refine j_put (fs' := pF i l sr cs (some (53, i)) gn) hc dX2_fillWelfareTo_15 pX2_99 zP_zh1 rfl rfl ?_
    generalize ezh2 : up _ _ _ = zh2
    have zzland_zh2 := LandAt.mv ezh2 (by simp) zzland_zh1
    have zP_zh2 := (congrFun ezh2 _).symm.trans (up_same _ _ _)
    have zP51_zh2 := (congrFun ezh2 _).symm.trans ((up_ne (by simp)).trans zP51_zh1)
    have zP55_zh2 := (congrFun ezh2 _).symm.trans ((up_ne (by simp)).trans zP55_zh1)
    have zP53_zh2 := (congrFun ezh2 _).symm.trans ((up_ne (by simp)).trans zP53_zh1)
    refine j_aload_n hc dX2_fillWelfareTo_18 rfl ?_
    refine j_iload_n hc dX2_fillWelfareTo_19 rfl ?_
    refine j_iload_n hc dX2_fillWelfareTo_20 rfl ?_
    refine j_callV (d' := d - 1) hc dX2_fillWelfareTo_21 vX2_63 zP_zh2 (ev_X2_lastSeason (by omega) zzland_zh2 hD zP_zh2 (by omega) (by omega) (by omega) (by omega)) rfl (by omega) (by omega) (by omega) rfl rfl (Nat.le_of_ble_eq_true rfl) (ret1 ?_)
    refine j_istore_n (L' := [_, _, _, _, _, _]) hc dX2_fillWelfareTo_24 (Nat.le_of_ble_eq_true rfl) rfl ?_
    refine j_iload_n hc dX2_fillWelfareTo_25 rfl ?_
    refine j_istore (L' := [_, _, _, _, _, _]) hc dX2_fillWelfareTo_26 (Nat.le_of_ble_eq_true rfl) rfl ?_
    refine j_iconst hc dX2_fillWelfareTo_28 ?_
    refine j_istore (L' := [_, _, _, _, _, _]) hc dX2_fillWelfareTo_29 (Nat.le_of_ble_eq_true rfl) rfl ?_
    exact lp_X2_fillWelfareTo hd (by omega) (by omega) hD hE hkl (fun n' z0 z1 a a0 a1 => kpS_le hD hE z0 a0) hl12 hnl hn1 hn hs0 hs1 hcs0 hcs1 hsr0 hsr1 zla.1 zla.2 hc he _ 1 zh2 _ wl rfl (by omega) (by omega) zzland_zh2 zP_zh2 zP51_zh2 zP53_zh2 zP55_zh2 (fun t z0 z1 => ⟨by rw [(zw3 t z0 z1).1]; omega, by rw [(zw3 t z0 z1).1]; exact (zw3 t z0 z1).2, fun n' n0 n1 => by rw [(zw3 t z0 z1).1] at n1; omega⟩) (by rw [(zw3 _ zla.1 zla.2).1]; omega) (by rw [← ezh2, ← ezh1]; exact (Fr.up (Or.inr (Or.inl rfl))).push (Or.inl rfl)) rfl
