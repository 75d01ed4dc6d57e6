/-! ===== a new rule; runs ===== -/
def fuC (f : Int → Cls) (i : Int) (v : Cls) : Int → Cls := fun x => if x = i then v else f x
def sRu (S : BaS) (c : Cls) : BaS := ((bB S, 0), S.2.1, (bRc S + 1, fuC (bR S) (bRc S) c), S.2.2.2)
theorem fuC_same (f : Int → Cls) (i : Int) (v : Cls) : fuC f i v i = v := if_pos rfl
theorem fuC_ne {f : Int → Cls} {i j : Int} {v : Cls} (hn : j ≠ i) : fuC f i v j = f j := if_neg hn
theorem BarnAt.newrule {h h' : AH} {S : BaS} {c : Cls} (a : BarnAt h S) (hl : bRc S < 6) (hc : csOK c) (F : Fr (fun z => z = (0, 0) ∨ z = (12, 0) ∨ z = (1, 0) ∨ (60 ≤ z.1 ∧ z.1 ≤ 63 ∧ z.2 = bRc S)) h h') (h0 : h' (0, 0) = some (oO 9 (CoF (sRu S c)))) (h1 : h' (12, 0) = some (oA 4 6 (rnF (bRc S + 1)))) (h2 : h' (1, 0) = some (oO 7 [vR (2, 0), vI 0])) (hL : RuleAt h' (bRc S) (flC c).length (cfL (flC c)) [] (fun _ => 0)) : BarnAt h' (sRu S c) ∧ Fr isBa h h' := by
  obtain ⟨⟨⟨c0, c11, c12, c13, c14, c141, c15, c18⟩, a1, a1r⟩, a2, a3, a4, ⟨b1, b2, b3, b4⟩, k1, k2, ⟨k30, k31⟩, k4, k5, k6⟩ := a
  have q : ∀ z : Nm, z.1 < 60 → z ≠ (0, 0) → z ≠ (12, 0) → z ≠ (1, 0) → h' z = h z := fun z z0 z1 z2 z3 => F z (by
    rintro (y | y | y | y)
    · exact z1 y
    · exact z2 y
    · exact z3 y
    · omega)
  have qr : ∀ (r : Int) (j : Nat), 60 ≤ j → r ≠ bRc S → h' (j, r) = h (j, r) := fun r j z0 z1 => F (j, r) (by
    rintro (y | y | y | y)
    · injection y with y1 y2; omega
    · injection y with y1 y2; omega
    · injection y with y1 y2; omega
    · exact z1 y.2.2)
  have q30 : ∀ z : Nm, 30 ≤ z.1 → z.1 < 60 → h' z = h z := fun z z0 z1 => q z z1 (fun e => by rw [e] at z0; simp at z0) (fun e => by rw [e] at z0; simp at z0) (fun e => by rw [e] at z0; simp at z0)
  refine ⟨⟨⟨⟨h0, (q _ (by decide) (by decide) (by decide) (by decide)).trans c11, h1, (q _ (by decide) (by decide) (by decide) (by decide)).trans c13, (q _ (by decide) (by decide) (by decide) (by decide)).trans c14, (q _ (by decide) (by decide) (by decide) (by decide)).trans c141, (q _ (by decide) (by decide) (by decide) (by decide)).trans c15, (q _ (by decide) (by decide) (by decide) (by decide)).trans c18⟩, ⟨h2, (q _ (by decide) (by decide) (by decide) (by decide)).trans a1.2⟩, ?_⟩, a2.fr fun z hz => q z (by omega) (fun e => by rw [e] at hz; simp at hz) (fun e => by rw [e] at hz; simp at hz) (fun e => by rw [e] at hz; simp at hz), a3.fr fun z hz => q z (by omega) (fun e => by rw [e] at hz; simp at hz) (fun e => by rw [e] at hz; simp at hz) (fun e => by rw [e] at hz; simp at hz), a4.fr fun z hz => q z (by omega) (fun e => by rw [e] at hz; simp at hz) (fun e => by rw [e] at hz; simp at hz) (fun e => by rw [e] at hz; simp at hz), ?_, ?_⟩, F.mono fun z zz => ?_⟩
  · obtain ⟨⟨i, ff, nu, X, r1, r2⟩, i2, f2, c2, g2, r3⟩ := a1r
    exact ⟨⟨i, ff, nu, X, r1.fr (q _ (by decide) (by decide) (by decide) (by decide)), r2.fr fun j j0 j1 => q _ (by show j < 60; omega) (by simp; omega) (by simp; omega) (by simp; omega)⟩, i2, f2, c2, g2, r3.fr (q _ (by decide) (by decide) (by decide) (by decide)) (q _ (by decide) (by decide) (by decide) (by decide))⟩
  · refine ⟨fun l l0 l1 => ?_, fun l l0 l1 z hz => ?_, fun r r0 r1 => ?_, fun r r0 r1 j j0 j1 => ?_⟩
    · show LandP h' l (bD S l) (bE S l) (ruQ (fuC (bR S) (bRc S) c) (bE S l))
      obtain ⟨-, -, hrn, -⟩ := k4 l l0 l1
      have e : ruQ (fuC (bR S) (bRc S) c) (bE S l) = ruC S l := by
        unfold ruC ruQ
        by_cases e : yRn (bE S l) = -1
        · rw [if_pos e, if_pos e]
        · rw [if_neg e, if_neg e, fuC_ne (by omega)]
      rw [e]
      exact (b1 l l0 l1).fr fun z hz => q30 z (by rcases hz with hz | hz <;> omega) (by rcases hz with hz | hz <;> omega)
    · exact (q30 z (by rcases hz with hz | hz <;> omega) (by rcases hz with hz | hz <;> omega)).trans (b2 l l0 l1 z hz)
    · have r1 : r < bRc S + 1 := r1
      show ∃ (t : List Int) (lt : Int → Int), RuleAt h' r (flC (fuC (bR S) (bRc S) c r)).length (cfL (flC (fuC (bR S) (bRc S) c r))) t lt ∧ t.length ≤ 64
      by_cases e : r = bRc S
      · rw [e, fuC_same]
        exact ⟨_, _, hL, by simp⟩
      · rw [fuC_ne e]
        exact (b3 r r0 (by omega)).fr fun j j0 j1 => qr r j j0 e
    · have r0 : bRc S + 1 ≤ r := r0
      exact (qr r j j0 (by omega)).trans (b4 r (by omega) r1 j j0 j1)
  · refine ⟨⟨Int.le_refl 0, by show (0 : Int) ≤ 240; omega, fun j j0 j1 => by have j1 : j < 0 := j1; omega⟩, k2, ⟨by show 0 ≤ bRc S + 1; omega, by show bRc S + 1 ≤ 6; omega⟩, fun l l0 l1 => ?_, fun r r0 r1 => ?_, k6⟩
    · obtain ⟨y1, y2, y3, y4⟩ := k4 l l0 l1
      exact ⟨y1, y2, by show yRn (bE S l) < bRc S + 1; omega, y4⟩
    · have r1 : r < bRc S + 1 := r1
      show csOK (fuC (bR S) (bRc S) c r)
      by_cases e : r = bRc S
      · rw [e, fuC_same]; exact hc
      · rw [fuC_ne e]; exact k5 r r0 (by omega)
  · show z.1 < 70
    rcases zz with y | y | y | y
    · rw [y]; decide
    · rw [y]; decide
    · rw [y]; decide
    · omega
abbrev ruV (S : BaS) : Prop := bRc S < 6 ∧ (ruR (bB S) (bN S)).1 = -1
noncomputable def aRule (S : BaS) : Int := @ite _ (ruV S) (Classical.propDecidable _) (bRc S) (-1)
noncomputable def nRule (S : BaS) : BaS := @ite _ (ruV S) (Classical.propDecidable _) (sRu S (ruR (bB S) (bN S)).2) S
set_option maxRecDepth 100000 in
set_option maxHeartbeats 4000000 in
theorem ev_X10_rule_a {k : WC} {d : Nat} {h : AH} {S : BaS} (hd : 203 ≤ d) (hB : BarnAt h S)  : Ev k d mdX10_rule h [vR (0, 0)] 8 1000 (pe fun v h' => v = vI (aRule S) ∧ BarnAt h' (nRule S) ∧ Fr isBa h h') := by
  obtain ⟨⟨⟨zb0, zb11, zb12, zb13, zb14, zb141, zb15, zb18⟩, zTp, zRd⟩, zSp, zTw, zSt, zL, zK⟩ := id hB
  obtain ⟨zT1, ⟨zlc0, zlc1⟩, ⟨zrc0, zrc1⟩, zKl, zKr, zKw, ⟨zto0, zto1⟩, zse0, zse1⟩ := id zK
  by_cases zlc : bRc S < 6
  · skip
    obtain ⟨⟨i1, ff1, nu1, X1, zLo, zLa⟩, i2, ff2, cl2_, cf2, zRo⟩ := id zRd
    refine Ev.mk (by decide +kernel) [_] rfl (Nat.le_of_ble_eq_true rfl) (fun w hc he => ?_)
    refine j_aload_n hc dX10_rule_0 rfl ?_
    refine j_get hc dX10_rule_1 fX10_105 zb0 rfl ?_
    refine j_bipush hc dX10_rule_4 (by decide) ?_
    refine j_icmp_ge (tgt := 20) hc dX10_rule_6 (by decide) ⟨by omega, by omega⟩ ⟨by omega, by omega⟩ (fun zc1 => ?_) (fun zc1 => ?_)
    · exact absurd zlc (by omega)
    · refine j_aload_n hc dX10_rule_9 rfl ?_
      refine j_get hc dX10_rule_10 fX10_28 zb0 rfl ?_
      refine j_callV (d' := d - 1) hc dX10_rule_13 vX10_98 zRo.1 (ev_X5_findFault (b := bB S) (n := bN S) (by omega) zRo zTp zT1) rfl (by omega) (by omega) (by omega) rfl rfl (Nat.le_of_ble_eq_true rfl) (retE fun zv13 zq13 zp13 => ?_)
      obtain ⟨zv, ⟨i9, ff9, cl9, cf9, zRo9, zc0, zc1, zce⟩, zF9⟩ := zp13
      subst zv
      have zB9 := hB.readers (zF9.mono fun z zz => ⟨by rcases zz with zz | zz <;> omega, by rcases zz with zz | zz <;> omega⟩) (zRd.r zRo9 zF9)
      have zB_q13 := (zF9 _ (by show ¬ (_ ∨ _); decide)).trans zb0
      have zA11_q13 := (zF9 _ (by show ¬ (_ ∨ _); decide)).trans zb11
      have zA12_q13 := (zF9 _ (by show ¬ (_ ∨ _); decide)).trans zb12
      have zA13_q13 := (zF9 _ (by show ¬ (_ ∨ _); decide)).trans zb13
      have zA15_q13 := (zF9 _ (by show ¬ (_ ∨ _); decide)).trans zb15
      have zA18_q13 := (zF9 _ (by show ¬ (_ ∨ _); decide)).trans zb18
      have zT_q13 := (zF9 _ (by show ¬ (_ ∨ _); decide)).trans zTp.1
      have zT2_q13 := (zF9 _ (by show ¬ (_ ∨ _); decide)).trans zTp.2
      have zbd := ruR_f (bB S) (bN S) zT1.1
      have zn240 := zT1.2.1
      have zfr6 : ∀ j : Nat, 60 ≤ j → j ≤ 63 → zq13 (j, bRc S) = none := fun j j0 j1 => (zF9 _ (by show ¬ (j = 9 ∨ j = 10); omega)).trans (zL.2.2.2 (bRc S) (by omega) (by omega) j j0 j1)
      have zfree := zfr6 60 (by omega) (by omega)
      refine j_iconst hc dX10_rule_16 ?_
      refine j_icmp_eq (tgt := 22) hc dX10_rule_17 (by decide) ⟨by omega, by omega⟩ ⟨by omega, by omega⟩ (fun zc2 => ?_) (fun zc2 => ?_)
      · have zl1 : (ruR (bB S) (bN S)).1 = -1 := zc2
        refine j_aload_n hc dX10_rule_22 rfl ?_
        refine j_get hc dX10_rule_23 fX10_40 zB_q13 rfl ?_
        refine j_aload_n hc dX10_rule_26 rfl ?_
        refine j_get hc dX10_rule_27 fX10_105 zB_q13 rfl ?_
        refine j_newq (nm := (60, bRc S)) (zq := 4) rfl hc dX10_rule_30 wX10_38 zfree (by omega) (by omega) ?_
        generalize ezh1 : up _ _ _ = zh1
        have zB_zh1 := (congrFun ezh1 _).symm.trans ((up_ne (by simp)).trans zB_q13)
        have zA11_zh1 := (congrFun ezh1 _).symm.trans ((up_ne (by simp)).trans zA11_q13)
        have zA12_zh1 := (congrFun ezh1 _).symm.trans ((up_ne (by simp)).trans zA12_q13)
        have zA13_zh1 := (congrFun ezh1 _).symm.trans ((up_ne (by simp)).trans zA13_q13)
        have zA15_zh1 := (congrFun ezh1 _).symm.trans ((up_ne (by simp)).trans zA15_q13)
        have zA18_zh1 := (congrFun ezh1 _).symm.trans ((up_ne (by simp)).trans zA18_q13)
        have zT_zh1 := (congrFun ezh1 _).symm.trans ((up_ne (by simp)).trans zT_q13)
        have zT2_zh1 := (congrFun ezh1 _).symm.trans ((up_ne (by simp)).trans zT2_q13)
        have zRQ_zh1 := (congrFun ezh1 _).symm.trans ((up_ne (by simp)).trans zRo9.1)
        have zQ10_zh1 := (congrFun ezh1 _).symm.trans ((up_ne (by simp)).trans zRo9.2)
        have zU_zh1 := (congrFun ezh1 _).symm.trans (up_same _ _ _)
        refine j_dup hc dX10_rule_33 rfl ?_
        refine j_aload_n hc dX10_rule_34 rfl ?_
        refine j_get hc dX10_rule_35 fX10_28 zB_zh1 rfl ?_
        refine j_callV (d' := d - 1) hc dX10_rule_38 vX10_108 zRQ_zh1 (ev_X5_written (l := bRc S) (by omega) (show RrO _ i9 ff9 cl9 cf9 from ⟨zRQ_zh1, zQ10_zh1⟩) (by rw [← ezh1, up_ne (by simp)]; exact zfr6 61 (by omega) (by omega)) zc0 zc1) rfl (by omega) (by omega) (by omega) rfl rfl (Nat.le_of_ble_eq_true rfl) (retE fun zv38 zq38 zp38 => ?_)
        obtain ⟨zv38, ⟨g8, zg8, zge⟩, zF8⟩ := zp38
        subst zv38
        have zB_q38 := (zF8 _ (by simp)).trans zB_zh1
        have zA11_q38 := (zF8 _ (by simp)).trans zA11_zh1
        have zA12_q38 := (zF8 _ (by simp)).trans zA12_zh1
        have zA13_q38 := (zF8 _ (by simp)).trans zA13_zh1
        have zA15_q38 := (zF8 _ (by simp)).trans zA15_zh1
        have zA18_q38 := (zF8 _ (by simp)).trans zA18_zh1
        have zT_q38 := (zF8 _ (by simp)).trans zT_zh1
        have zT2_q38 := (zF8 _ (by simp)).trans zT2_zh1
        have zRQ_q38 := (zF8 _ (by simp)).trans zRQ_zh1
        have zQ10_q38 := (zF8 _ (by simp)).trans zQ10_zh1
        have zU_q38 := (zF8 _ (by simp)).trans zU_zh1
        refine j_callI (d' := d - 1) hc dX10_rule_41 iX10_112 (ev_X4_init (l := bRc S) (by omega) zU_q38 zg8 ((zF8 _ (by simp)).trans (by rw [← ezh1, up_ne (by simp)]; exact zfr6 62 (by omega) (by omega))) ((zF8 _ (by simp)).trans (by rw [← ezh1, up_ne (by simp)]; exact zfr6 63 (by omega) (by omega)))) rfl (by omega) (by omega) (by omega) rfl rfl (Nat.le_of_ble_eq_true rfl) (retN fun zq41 zp41 => ?_)
        obtain ⟨zU7, zF7⟩ := zp41
        have zB_q41 := (zF7 _ (by simp [isRule])).trans zB_q38
        have zA12_q41 := (zF7 _ (by simp [isRule])).trans zA12_q38
        have zT_q41 := (zF7 _ (by simp [isRule])).trans zT_q38
        have zT2_q41 := (zF7 _ (by simp [isRule])).trans zT2_q38
        obtain ⟨zce1, zce2⟩ := zce zl1
        refine j_ext (f' := cfL (flC (ruR (bB S) (bN S)).2)) zU7.2.1 (fun j hj => by
          rw [zge j (by omega) (by omega), zce2, wrL_at _ _ _ (by omega) (by omega) (by omega)]
          unfold cfL
          congr 1
          try omega) ?_
        generalize ezh2 : up _ _ _ = zh2
        have zB_zh2 := (congrFun ezh2 _).symm.trans ((up_ne (by simp)).trans zB_q41)
        have zA12_zh2 := (congrFun ezh2 _).symm.trans ((up_ne (by simp)).trans zA12_q41)
        have zT_zh2 := (congrFun ezh2 _).symm.trans ((up_ne (by simp)).trans zT_q41)
        have zT2_zh2 := (congrFun ezh2 _).symm.trans ((up_ne (by simp)).trans zT2_q41)
        have zU_zh2 := (congrFun ezh2 _).symm.trans ((up_ne (by simp)).trans zU7.1)
        have zU61_zh2 := (congrFun ezh2 _).symm.trans (up_same _ _ _)
        have zlen : cl9.toNat = (flC (ruR (bB S) (bN S)).2).length := by omega
        have zU6 : RuleAt zh2 (bRc S) (flC (ruR (bB S) (bN S)).2).length (cfL (flC (ruR (bB S) (bN S)).2)) [] (fun _ => 0) := by
          obtain ⟨y1, y2, ⟨g, y3, y4⟩, y5⟩ := zU7
          rw [← zlen]
          exact ⟨zU_zh2, zU61_zh2, ⟨g, by rw [← ezh2, up_ne (by simp)]; exact y3, y4⟩, by rw [← ezh2, up_ne (by simp)]; exact y5⟩
        have zF5 : Fr (fun z => z = (0, 0) ∨ z = (12, 0) ∨ z = (1, 0) ∨ (60 ≤ z.1 ∧ z.1 ≤ 63 ∧ z.2 = bRc S)) zq13 zh2 := by
          refine Fr.tr (Fr.tr (Fr.tr (show Fr _ zq13 zh1 from by rw [← ezh1]; exact Fr.up (Or.inr (Or.inr (Or.inr (by simp))))) (zF8.mono fun z zz => Or.inr (Or.inr (Or.inr (by rw [zz]; simp))))) (zF7.mono fun z zz => Or.inr (Or.inr (Or.inr (by rcases zz with rfl | rfl | rfl <;> simp))))) ?_
          rw [← ezh2]
          exact Fr.up (Or.inr (Or.inr (Or.inr (by simp))))
        refine j_aast hc dX10_rule_44 zA12_zh2 (by decide) (by decide) rfl rfl zU_zh2 (by omega) (by omega) ?_
        generalize ezh3 : up _ _ _ = zh3
        have zB_zh3 := (congrFun ezh3 _).symm.trans ((up_ne (by simp)).trans zB_zh2)
        have zA12_zh3 := (congrFun ezh3 _).symm.trans (up_same _ _ _)
        have zT_zh3 := (congrFun ezh3 _).symm.trans ((up_ne (by simp)).trans zT_zh2)
        have zT2_zh3 := (congrFun ezh3 _).symm.trans ((up_ne (by simp)).trans zT2_zh2)
        have zU_zh3 := (congrFun ezh3 _).symm.trans ((up_ne (by simp)).trans zU_zh2)
        have zU61_zh3 := (congrFun ezh3 _).symm.trans ((up_ne (by simp)).trans zU61_zh2)
        refine j_aload_n hc dX10_rule_45 rfl ?_
        refine j_get hc dX10_rule_46 fX10_12 zB_zh3 rfl ?_
        refine j_iconst hc dX10_rule_49 ?_
        refine j_put (fs' := [_, _]) hc dX10_rule_50 pX10_83 zT_zh3 rfl rfl ?_
        generalize ezh4 : up _ _ _ = zh4
        have zB_zh4 := (congrFun ezh4 _).symm.trans ((up_ne (by simp)).trans zB_zh3)
        have zA12_zh4 := (congrFun ezh4 _).symm.trans ((up_ne (by simp)).trans zA12_zh3)
        have zT_zh4 := (congrFun ezh4 _).symm.trans (up_same _ _ _)
        have zT2_zh4 := (congrFun ezh4 _).symm.trans ((up_ne (by simp)).trans zT2_zh3)
        have zU_zh4 := (congrFun ezh4 _).symm.trans ((up_ne (by simp)).trans zU_zh3)
        have zU61_zh4 := (congrFun ezh4 _).symm.trans ((up_ne (by simp)).trans zU61_zh3)
        refine j_aload_n hc dX10_rule_53 rfl ?_
        refine j_dup hc dX10_rule_54 rfl ?_
        refine j_get hc dX10_rule_55 fX10_105 zB_zh4 rfl ?_
        refine j_iconst hc dX10_rule_58 ?_
        refine j_iadd hc dX10_rule_59 ?_
        refine j_put (fs' := [_, _, _, _, _, _, _, _, _, _, _, _, _]) hc dX10_rule_60 pX10_105 zB_zh4 rfl rfl ?_
        generalize ezh5 : up _ _ _ = zh5
        have zB_zh5 := (congrFun ezh5 _).symm.trans (up_same _ _ _)
        have zA12_zh5 := (congrFun ezh5 _).symm.trans ((up_ne (by simp)).trans zA12_zh4)
        have zT_zh5 := (congrFun ezh5 _).symm.trans ((up_ne (by simp)).trans zT_zh4)
        have zT2_zh5 := (congrFun ezh5 _).symm.trans ((up_ne (by simp)).trans zT2_zh4)
        have zU_zh5 := (congrFun ezh5 _).symm.trans ((up_ne (by simp)).trans zU_zh4)
        have zU61_zh5 := (congrFun ezh5 _).symm.trans ((up_ne (by simp)).trans zU61_zh4)
        refine j_aload_n hc dX10_rule_63 rfl ?_
        refine j_get hc dX10_rule_64 fX10_105 zB_zh5 rfl ?_
        refine j_iconst hc dX10_rule_67 ?_
        refine j_isub hc dX10_rule_68 ?_
        exact j_iret hc he dX10_rule_69 rfl (by omega) (by omega) (by
          have zF6 : Fr (fun z => z = (0, 0) ∨ z = (12, 0) ∨ z = (1, 0) ∨ (60 ≤ z.1 ∧ z.1 ≤ 63 ∧ z.2 = bRc S)) zq13 zh5 := by
            refine zF5.tr ?_
            rw [← ezh5, ← ezh4, ← ezh3]
            exact ((Fr.up (Or.inr (Or.inl rfl))).push (Or.inr (Or.inr (Or.inl rfl)))).push (Or.inl rfl)
          have zL6 := RuleAt.fr (h' := zh5) (fun j j0 j1 => by rw [← ezh5, up_ne (by simp; omega), ← ezh4, up_ne (by simp; omega), ← ezh3, up_ne (by simp; omega)]) zU6
          have zz := zB9.1.newrule zlc ⟨by omega, flC_in (ruR_tk _ _)⟩ zF6 zB_zh5 (zA12_zh5.trans (by rw [rnF_ru zrc0])) zT_zh5 zL6
          exact ⟨_, rfl, by unfold aRule; rw [if_pos ⟨zlc, zl1⟩, show bRc S + 1 - 1 = bRc S by omega], by unfold nRule; rw [if_pos ⟨zlc, zl1⟩]; exact zz.1, zB9.2.tr zz.2⟩)
      · have zl1 : ¬ (ruR (bB S) (bN S)).1 = -1 := zc2
        refine j_iconst hc dX10_rule_20 ?_
        exact j_iret hc he dX10_rule_21 rfl (by omega) (by omega) ⟨_, rfl, by unfold aRule; rw [if_neg (fun z => zl1 z.2)], by unfold nRule; rw [if_neg (fun z => zl1 z.2)]; exact zB9.1, zB9.2⟩
  refine Ev.mk (by decide +kernel) [_] rfl (Nat.le_of_ble_eq_true rfl) (fun w hc he => ?_)
  refine j_aload_n hc dX10_rule_0 rfl ?_
  refine j_get hc dX10_rule_1 fX10_105 zb0 rfl ?_
  refine j_bipush hc dX10_rule_4 (by decide) ?_
  refine j_icmp_ge (tgt := 20) hc dX10_rule_6 (by decide) ⟨by omega, by omega⟩ ⟨by omega, by omega⟩ (fun zc1 => ?_) (fun zc1 => ?_)
  · refine j_iconst hc dX10_rule_20 ?_
    exact j_iret hc he dX10_rule_21 rfl (by omega) (by omega) ⟨_, rfl, by unfold aRule; rw [if_neg (fun z => zlc z.1)], by unfold nRule; rw [if_neg (fun z => zlc z.1)]; exact hB, Fr.rf _ _⟩
  · exact absurd zc1 (by omega)
