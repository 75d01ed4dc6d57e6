/-! ===== tape, rows, new lands and rules ===== -/
theorem BarnAt.rows {h h' : AH} {S : BaS} {rw : Int → Int → Int} {rl : Int → Int} (a : BarnAt h S) (F : Fr (fun z => z.1 = 14 ∨ z.1 = 15) h h') (h1 : h' (14, 0) = some (oI 40 (rw 0))) (h2 : h' (14, 1) = some (oI 40 (rw 1))) (h3 : h' (15, 0) = some (oI 2 rl)) (hk : ∀ r : Int, 0 ≤ r → r ≤ 1 → 0 ≤ rl r ∧ rl r ≤ 40 ∧ ∀ x : Int, 0 ≤ x → x < 40 → 0 ≤ rw r x ∧ rw r x ≤ 20) : BarnAt h' (sRw S rw rl) ∧ Fr isBa h h' := by
  obtain ⟨⟨⟨c0, c11, c12, c13, c14, c141, c15, c18⟩, a1, a1r⟩, a2, a3, a4, a5, k1, k2, k3, k4, k5, k6, k7⟩ := a
  have q : ∀ z : Nm, z.1 ≠ 14 → z.1 ≠ 15 → h' z = h z := fun z z0 z1 => F z (by show ¬ (_ ∨ _); omega)
  refine ⟨⟨⟨⟨(q _ (by decide) (by decide)).trans c0, (q _ (by decide) (by decide)).trans c11, (q _ (by decide) (by decide)).trans c12, (q _ (by decide) (by decide)).trans c13, h1, h2, h3, (q _ (by decide) (by decide)).trans c18⟩, a1.fr (q _ (by decide) (by decide)) (q _ (by decide) (by decide)), ?_⟩, a2.fr fun z hz => q z (by omega) (by omega), a3.fr fun z hz => q z (by omega) (by omega), a4.fr fun z hz => q z (by omega) (by omega), a5.fr fun z hz => q z (by omega) (by omega), k1, k2, k3, k4, k5, hk, k7⟩, F.mono fun z zz => by show z.1 < 70; rcases zz with zz | zz <;> omega⟩
  obtain ⟨⟨i, ff, nu, X, r1, r2⟩, i2, f2, c2, g2, r3⟩ := a1r
  exact ⟨⟨i, ff, nu, X, r1.fr (q _ (by decide) (by decide)), r2.fr fun j j0 j1 => q _ (by show j ≠ 14; omega) (by show j ≠ 15; omega)⟩, i2, f2, c2, g2, r3.fr (q _ (by decide) (by decide)) (q _ (by decide) (by decide))⟩
theorem BarnAt.tape {h h' : AH} {S : BaS} {t : (Int → Int) × Int} (a : BarnAt h S) (F : Fr isTape h h') (h1 : TpA h' t.1 t.2) (hk : TpOK t.1 t.2) : BarnAt h' (sTp S t) ∧ Fr isBa h h' := by
  obtain ⟨⟨⟨c0, c11, c12, c13, c14, c141, c15, c18⟩, a1, a1r⟩, a2, a3, a4, a5, k1, k2⟩ := a
  have q : ∀ z : Nm, z.1 ≠ 1 → z.1 ≠ 2 → h' z = h z := fun z z0 z1 => F z (by show ¬ (_ ∨ _); omega)
  refine ⟨⟨⟨⟨(q _ (by decide) (by decide)).trans c0, (q _ (by decide) (by decide)).trans c11, (q _ (by decide) (by decide)).trans c12, (q _ (by decide) (by decide)).trans c13, (q _ (by decide) (by decide)).trans c14, (q _ (by decide) (by decide)).trans c141, (q _ (by decide) (by decide)).trans c15, (q _ (by decide) (by decide)).trans c18⟩, h1, ?_⟩, a2.fr fun z hz => q z (by omega) (by omega), a3.fr fun z hz => q z (by omega) (by omega), a4.fr fun z hz => q z (by omega) (by omega), a5.fr fun z hz => q z (by omega) (by omega), hk, k2⟩, F.mono fun z zz => by show z.1 < 70; rcases zz with zz | zz <;> omega⟩
  obtain ⟨⟨i, ff, nu, X, r1, r2⟩, i2, f2, c2, g2, r3⟩ := a1r
  exact ⟨⟨i, ff, nu, X, r1.fr (q _ (by decide) (by decide)), r2.fr fun j j0 j1 => q _ (by show j ≠ 1; omega) (by show j ≠ 2; omega)⟩, i2, f2, c2, g2, r3.fr (q _ (by decide) (by decide)) (q _ (by decide) (by decide))⟩
theorem BarnAt.readers {h h' : AH} {S : BaS} (a : BarnAt h S) (F : Fr (fun z => 3 ≤ z.1 ∧ z.1 ≤ 10) h h') (h1 : RdA h') : BarnAt h' S ∧ Fr isBa h h' := by
  obtain ⟨⟨⟨c0, c11, c12, c13, c14, c141, c15, c18⟩, a1, a1r⟩, a2, a3, a4, a5, k1⟩ := a
  have q : ∀ z : Nm, z.1 < 3 ∨ 10 < z.1 → h' z = h z := fun z z0 => F z (by show ¬ (_ ∧ _); omega)
  exact ⟨⟨⟨⟨(q _ (by decide)).trans c0, (q _ (by decide)).trans c11, (q _ (by decide)).trans c12, (q _ (by decide)).trans c13, (q _ (by decide)).trans c14, (q _ (by decide)).trans c141, (q _ (by decide)).trans c15, (q _ (by decide)).trans c18⟩, a1.fr (q _ (by decide)) (q _ (by decide)), h1⟩, a2.fr fun z hz => q z (by omega), a3.fr fun z hz => q z (by omega), a4.fr fun z hz => q z (by omega), a5.fr fun z hz => q z (by omega), k1⟩, F.mono fun z zz => by show z.1 < 70; omega⟩
theorem pu1_ok {t : (Int → Int) × Int} {b : Int} (h : TpOK t.1 t.2) (h0 : 0 ≤ b) (h1 : b ≤ 255) : TpOK (pu1 t b).1 (pu1 t b).2 := by
  unfold pu1
  split
  · rename_i q
    refine ⟨by show 0 ≤ t.2 + 1; have := h.1; omega, by show t.2 + 1 ≤ 240; omega, fun j j0 j1 => ?_⟩
    have j1 : j < t.2 + 1 := j1
    show 1 ≤ fu t.1 t.2 b j ∧ fu t.1 t.2 b j ≤ 255
    unfold fu
    split
    · omega
    · exact h.2.2 j j0 (by omega)
  · exact h
theorem puN_ok {x : Int} {t : (Int → Int) × Int} (h : TpOK t.1 t.2) : ∀ j : Nat, TpOK (puN x j t).1 (puN x j t).2
  | 0 => h
  | j + 1 => by
    have hb := byS_b x (24 - 8 * j)
    exact pu1_ok (puN_ok h j) hb.1 hb.2
def pu5 (S : BaS) (a b c d e : Int) : (Int → Int) × Int := puN e 4 (puN d 4 (puN c 4 (puN b 4 (puN a 4 (bB S, bN S)))))
def nb5 (a b c d e : Int) : Int := nbN a 4 + nbN b 4 + nbN c 4 + nbN d 4 + nbN e 4
theorem nbN_b (x : Int) : ∀ j : Nat, 0 ≤ nbN x j ∧ nbN x j ≤ j
  | 0 => by simp [nbN]
  | j + 1 => by
    have := nbN_b x j
    simp only [nbN]
    split <;> omega
set_option maxRecDepth 100000 in
set_option maxHeartbeats 4000000 in
theorem ev_X10_row_a {k : WC} {d : Nat} {h : AH} {S : BaS} {r x : Int} (hd : 3 ≤ d) (hB : BarnAt h S) (hir : inI r) (hix : inI x) : Ev k d mdX10_row h [vR (0, 0), vI r, vI x] 0 0 (pe fun v h' => (v = vI (if (0 ≤ r ∧ r ≤ 1) ∧ (0 ≤ x ∧ x ≤ 20) ∧ bRl S r < 40 then bRl S r + 1 else -1)) ∧ BarnAt h' (if (0 ≤ r ∧ r ≤ 1) ∧ (0 ≤ x ∧ x ≤ 20) ∧ bRl S r < 40 then sRw S (fu2 (bRw S) r (fu (bRw S r) (bRl S r) x)) (fu (bRl S) r (bRl S r + 1)) else S) ∧ Fr isBa h h') := by
  obtain ⟨⟨⟨zb0, zb11, zb12, zb13, zb14, zb141, zb15, zb18⟩, zTp, zRd⟩, zSp, zTw, zSt, zL, zK⟩ := id hB
  obtain ⟨zT1, ⟨zlc0, zlc1⟩, ⟨zrc0, zrc1⟩, zKl, zKr, zKw, ⟨zto0, zto1⟩, zse0, zse1⟩ := id zK
  by_cases hr0 : r = 0
  · skip
    subst hr0
    obtain ⟨zk1, zk2, zk3⟩ := zKw 0 (by omega) (by omega)
    refine Ev.mk (by decide +kernel) [_, _, _] rfl (Nat.le_of_ble_eq_true rfl) (fun w hc he => ?_)
    refine j_iload_n hc dX10_row_0 rfl ?_
    refine j_iconst hc dX10_row_1 ?_
    refine j_iconst hc dX10_row_2 ?_
    refine j_callS (d' := d - 1) hc dX10_row_3 sX10_90 (ev_X10_within (by omega) ⟨by omega, by omega⟩ ⟨by omega, by omega⟩ ⟨by omega, by omega⟩) rfl (by omega) (by omega) (by omega) rfl rfl (Nat.le_of_ble_eq_true rfl) (ret1 ?_)
    refine j_if_eq (b := 0) (tgt := 30) hc dX10_row_6 (by decide) (by split <;> exact ⟨by omega, by omega⟩) (fun zc1 => ?_) (fun zc1 => ?_)
    · have zw1 : ¬ (0 ≤ (0 : Int) ∧ (0 : Int) ≤ 1) := one_neg zc1
      refine j_iconst hc dX10_row_30 ?_
      exact j_iret hc he dX10_row_31 rfl (by omega) (by omega) ⟨_, rfl, by rw [if_neg (fun z => zw1 z.1)], by rw [if_neg (fun z => zw1 z.1)]; exact hB, Fr.rf _ _⟩
    · refine j_iload_n hc dX10_row_9 rfl ?_
      refine j_iconst hc dX10_row_10 ?_
      refine j_bipush hc dX10_row_11 (by decide) ?_
      refine j_callS (d' := d - 1) hc dX10_row_13 sX10_90 (ev_X10_within (by omega) hix ⟨by omega, by omega⟩ ⟨by omega, by omega⟩) rfl (by omega) (by omega) (by omega) rfl rfl (Nat.le_of_ble_eq_true rfl) (ret1 ?_)
      refine j_if_eq (b := 0) (tgt := 30) hc dX10_row_16 (by decide) (by split <;> exact ⟨by omega, by omega⟩) (fun zc2 => ?_) (fun zc2 => ?_)
      · have zw2 : ¬ (0 ≤ x ∧ x ≤ 20) := one_neg zc2
        refine j_iconst hc dX10_row_30 ?_
        exact j_iret hc he dX10_row_31 rfl (by omega) (by omega) ⟨_, rfl, by rw [if_neg (fun z => zw2 z.2.1)], by rw [if_neg (fun z => zw2 z.2.1)]; exact hB, Fr.rf _ _⟩
      · have zw2 : 0 ≤ x ∧ x ≤ 20 := one_pos zc2
        refine j_aload_n hc dX10_row_19 rfl ?_
        refine j_get hc dX10_row_20 fX10_49 zb0 rfl ?_
        refine j_iload_n hc dX10_row_23 rfl ?_
        refine j_iald hc dX10_row_24 zb15 (by omega) (by omega) ?_
        refine j_bipush hc dX10_row_25 (by decide) ?_
        refine j_icmp_lt (tgt := 32) hc dX10_row_27 (by decide) ⟨by omega, by omega⟩ ⟨by omega, by omega⟩ (fun zc3 => ?_) (fun zc3 => ?_)
        · have zw3 : bRl S 0 < 40 := by omega
          refine j_aload_n hc dX10_row_32 rfl ?_
          refine j_get hc dX10_row_33 fX10_46 zb0 rfl ?_
          refine j_iload_n hc dX10_row_36 rfl ?_
          refine j_aald hc dX10_row_37 zb13 (by decide) (by decide) (by omega) (by omega) ?_
          refine j_aload_n hc dX10_row_38 rfl ?_
          refine j_get hc dX10_row_39 fX10_49 zb0 rfl ?_
          refine j_iload_n hc dX10_row_42 rfl ?_
          refine j_iald hc dX10_row_43 zb15 (by omega) (by omega) ?_
          refine j_iload_n hc dX10_row_44 rfl ?_
          refine j_iast hc dX10_row_45 zb14 (by omega) (by omega) ?_
          generalize ezh1 : up _ _ _ = zh1
          have zB_zh1 := (congrFun ezh1 _).symm.trans ((up_ne (by simp)).trans zb0)
          have zA11_zh1 := (congrFun ezh1 _).symm.trans ((up_ne (by simp)).trans zb11)
          have zA12_zh1 := (congrFun ezh1 _).symm.trans ((up_ne (by simp)).trans zb12)
          have zA13_zh1 := (congrFun ezh1 _).symm.trans ((up_ne (by simp)).trans zb13)
          have zA15_zh1 := (congrFun ezh1 _).symm.trans ((up_ne (by simp)).trans zb15)
          have zA18_zh1 := (congrFun ezh1 _).symm.trans ((up_ne (by simp)).trans zb18)
          have zT_zh1 := (congrFun ezh1 _).symm.trans ((up_ne (by simp)).trans zTp.1)
          have zT2_zh1 := (congrFun ezh1 _).symm.trans ((up_ne (by simp)).trans zTp.2)
          have zW_zh1 := (congrFun ezh1 _).symm.trans (up_same _ _ _)
          refine j_aload_n hc dX10_row_46 rfl ?_
          refine j_get hc dX10_row_47 fX10_49 zB_zh1 rfl ?_
          refine j_iload_n hc dX10_row_50 rfl ?_
          refine j_dup2 hc dX10_row_51 rfl rfl ?_
          refine j_iald hc dX10_row_52 zA15_zh1 (by omega) (by omega) ?_
          refine j_iconst hc dX10_row_53 ?_
          refine j_iadd hc dX10_row_54 ?_
          refine j_iast hc dX10_row_55 zA15_zh1 (by omega) (by omega) ?_
          generalize ezh2 : up _ _ _ = zh2
          have zB_zh2 := (congrFun ezh2 _).symm.trans ((up_ne (by simp)).trans zB_zh1)
          have zA11_zh2 := (congrFun ezh2 _).symm.trans ((up_ne (by simp)).trans zA11_zh1)
          have zA12_zh2 := (congrFun ezh2 _).symm.trans ((up_ne (by simp)).trans zA12_zh1)
          have zA13_zh2 := (congrFun ezh2 _).symm.trans ((up_ne (by simp)).trans zA13_zh1)
          have zA15_zh2 := (congrFun ezh2 _).symm.trans (up_same _ _ _)
          have zA18_zh2 := (congrFun ezh2 _).symm.trans ((up_ne (by simp)).trans zA18_zh1)
          have zT_zh2 := (congrFun ezh2 _).symm.trans ((up_ne (by simp)).trans zT_zh1)
          have zT2_zh2 := (congrFun ezh2 _).symm.trans ((up_ne (by simp)).trans zT2_zh1)
          have zW_zh2 := (congrFun ezh2 _).symm.trans ((up_ne (by simp)).trans zW_zh1)
          refine j_aload_n hc dX10_row_56 rfl ?_
          refine j_get hc dX10_row_57 fX10_49 zB_zh2 rfl ?_
          refine j_iload_n hc dX10_row_60 rfl ?_
          refine j_iald hc dX10_row_61 zA15_zh2 (by omega) (by omega) ?_
          exact j_iret hc he dX10_row_62 rfl (by omega) (by omega) (by
            have zF6 : Fr (fun z => z.1 = 14 ∨ z.1 = 15) h zh2 := by rw [← ezh2, ← ezh1]; exact ((Fr.rf (fun z : Nm => z.1 = 14 ∨ z.1 = 15) _).push (Or.inl rfl)).push (Or.inr rfl)
            have zz := hB.rows (rw := fu2 (bRw S) 0 (fu (bRw S 0) (bRl S 0) x)) (rl := fu (bRl S) 0 (bRl S 0 + 1)) zF6 zW_zh2 ((congrFun ezh2 _).symm.trans ((up_ne (by simp)).trans ((congrFun ezh1 _).symm.trans ((up_ne (by simp)).trans zb141)))) zA15_zh2 (fun q q0 q1 => by
              obtain ⟨k1, k2, k3⟩ := zKw q q0 q1
              rcases (by omega : q = 0 ∨ q = 1) with rfl | rfl
              · refine ⟨by rw [fu_same]; omega, by rw [fu_same]; omega, fun y y0 y1 => ?_⟩
                show 0 ≤ fu (bRw S 0) (bRl S 0) x y ∧ fu (bRw S 0) (bRl S 0) x y ≤ 20
                unfold fu
                split
                · omega
                · exact k3 y y0 y1
              · exact ⟨by rw [fu_ne (by decide)]; exact k1, by rw [fu_ne (by decide)]; exact k2, fun y y0 y1 => k3 y y0 y1⟩)
            exact ⟨_, rfl, by rw [if_pos ⟨⟨by omega, by omega⟩, zw2, zw3⟩, fu_same], by rw [if_pos ⟨⟨by omega, by omega⟩, zw2, zw3⟩]; exact zz⟩)
        · have zw3 : ¬ bRl S 0 < 40 := by omega
          refine j_iconst hc dX10_row_30 ?_
          exact j_iret hc he dX10_row_31 rfl (by omega) (by omega) ⟨_, rfl, by rw [if_neg (fun z => zw3 z.2.2)], by rw [if_neg (fun z => zw3 z.2.2)]; exact hB, Fr.rf _ _⟩
  by_cases hr1 : r = 1
  · skip
    subst hr1
    obtain ⟨zk1, zk2, zk3⟩ := zKw 1 (by omega) (by omega)
    refine Ev.mk (by decide +kernel) [_, _, _] rfl (Nat.le_of_ble_eq_true rfl) (fun w hc he => ?_)
    refine j_iload_n hc dX10_row_0 rfl ?_
    refine j_iconst hc dX10_row_1 ?_
    refine j_iconst hc dX10_row_2 ?_
    refine j_callS (d' := d - 1) hc dX10_row_3 sX10_90 (ev_X10_within (by omega) ⟨by omega, by omega⟩ ⟨by omega, by omega⟩ ⟨by omega, by omega⟩) rfl (by omega) (by omega) (by omega) rfl rfl (Nat.le_of_ble_eq_true rfl) (ret1 ?_)
    refine j_if_eq (b := 0) (tgt := 30) hc dX10_row_6 (by decide) (by split <;> exact ⟨by omega, by omega⟩) (fun zc1 => ?_) (fun zc1 => ?_)
    · have zw1 : ¬ (0 ≤ (1 : Int) ∧ (1 : Int) ≤ 1) := one_neg zc1
      refine j_iconst hc dX10_row_30 ?_
      exact j_iret hc he dX10_row_31 rfl (by omega) (by omega) ⟨_, rfl, by rw [if_neg (fun z => zw1 z.1)], by rw [if_neg (fun z => zw1 z.1)]; exact hB, Fr.rf _ _⟩
    · refine j_iload_n hc dX10_row_9 rfl ?_
      refine j_iconst hc dX10_row_10 ?_
      refine j_bipush hc dX10_row_11 (by decide) ?_
      refine j_callS (d' := d - 1) hc dX10_row_13 sX10_90 (ev_X10_within (by omega) hix ⟨by omega, by omega⟩ ⟨by omega, by omega⟩) rfl (by omega) (by omega) (by omega) rfl rfl (Nat.le_of_ble_eq_true rfl) (ret1 ?_)
      refine j_if_eq (b := 0) (tgt := 30) hc dX10_row_16 (by decide) (by split <;> exact ⟨by omega, by omega⟩) (fun zc2 => ?_) (fun zc2 => ?_)
      · have zw2 : ¬ (0 ≤ x ∧ x ≤ 20) := one_neg zc2
        refine j_iconst hc dX10_row_30 ?_
        exact j_iret hc he dX10_row_31 rfl (by omega) (by omega) ⟨_, rfl, by rw [if_neg (fun z => zw2 z.2.1)], by rw [if_neg (fun z => zw2 z.2.1)]; exact hB, Fr.rf _ _⟩
      · have zw2 : 0 ≤ x ∧ x ≤ 20 := one_pos zc2
        refine j_aload_n hc dX10_row_19 rfl ?_
        refine j_get hc dX10_row_20 fX10_49 zb0 rfl ?_
        refine j_iload_n hc dX10_row_23 rfl ?_
        refine j_iald hc dX10_row_24 zb15 (by omega) (by omega) ?_
        refine j_bipush hc dX10_row_25 (by decide) ?_
        refine j_icmp_lt (tgt := 32) hc dX10_row_27 (by decide) ⟨by omega, by omega⟩ ⟨by omega, by omega⟩ (fun zc3 => ?_) (fun zc3 => ?_)
        · have zw3 : bRl S 1 < 40 := by omega
          refine j_aload_n hc dX10_row_32 rfl ?_
          refine j_get hc dX10_row_33 fX10_46 zb0 rfl ?_
          refine j_iload_n hc dX10_row_36 rfl ?_
          refine j_aald hc dX10_row_37 zb13 (by decide) (by decide) (by omega) (by omega) ?_
          refine j_aload_n hc dX10_row_38 rfl ?_
          refine j_get hc dX10_row_39 fX10_49 zb0 rfl ?_
          refine j_iload_n hc dX10_row_42 rfl ?_
          refine j_iald hc dX10_row_43 zb15 (by omega) (by omega) ?_
          refine j_iload_n hc dX10_row_44 rfl ?_
          refine j_iast hc dX10_row_45 zb141 (by omega) (by omega) ?_
          generalize ezh1 : up _ _ _ = zh1
          have zB_zh1 := (congrFun ezh1 _).symm.trans ((up_ne (by simp)).trans zb0)
          have zA11_zh1 := (congrFun ezh1 _).symm.trans ((up_ne (by simp)).trans zb11)
          have zA12_zh1 := (congrFun ezh1 _).symm.trans ((up_ne (by simp)).trans zb12)
          have zA13_zh1 := (congrFun ezh1 _).symm.trans ((up_ne (by simp)).trans zb13)
          have zA15_zh1 := (congrFun ezh1 _).symm.trans ((up_ne (by simp)).trans zb15)
          have zA18_zh1 := (congrFun ezh1 _).symm.trans ((up_ne (by simp)).trans zb18)
          have zT_zh1 := (congrFun ezh1 _).symm.trans ((up_ne (by simp)).trans zTp.1)
          have zT2_zh1 := (congrFun ezh1 _).symm.trans ((up_ne (by simp)).trans zTp.2)
          have zW_zh1 := (congrFun ezh1 _).symm.trans (up_same _ _ _)
          refine j_aload_n hc dX10_row_46 rfl ?_
          refine j_get hc dX10_row_47 fX10_49 zB_zh1 rfl ?_
          refine j_iload_n hc dX10_row_50 rfl ?_
          refine j_dup2 hc dX10_row_51 rfl rfl ?_
          refine j_iald hc dX10_row_52 zA15_zh1 (by omega) (by omega) ?_
          refine j_iconst hc dX10_row_53 ?_
          refine j_iadd hc dX10_row_54 ?_
          refine j_iast hc dX10_row_55 zA15_zh1 (by omega) (by omega) ?_
          generalize ezh2 : up _ _ _ = zh2
          have zB_zh2 := (congrFun ezh2 _).symm.trans ((up_ne (by simp)).trans zB_zh1)
          have zA11_zh2 := (congrFun ezh2 _).symm.trans ((up_ne (by simp)).trans zA11_zh1)
          have zA12_zh2 := (congrFun ezh2 _).symm.trans ((up_ne (by simp)).trans zA12_zh1)
          have zA13_zh2 := (congrFun ezh2 _).symm.trans ((up_ne (by simp)).trans zA13_zh1)
          have zA15_zh2 := (congrFun ezh2 _).symm.trans (up_same _ _ _)
          have zA18_zh2 := (congrFun ezh2 _).symm.trans ((up_ne (by simp)).trans zA18_zh1)
          have zT_zh2 := (congrFun ezh2 _).symm.trans ((up_ne (by simp)).trans zT_zh1)
          have zT2_zh2 := (congrFun ezh2 _).symm.trans ((up_ne (by simp)).trans zT2_zh1)
          have zW_zh2 := (congrFun ezh2 _).symm.trans ((up_ne (by simp)).trans zW_zh1)
          refine j_aload_n hc dX10_row_56 rfl ?_
          refine j_get hc dX10_row_57 fX10_49 zB_zh2 rfl ?_
          refine j_iload_n hc dX10_row_60 rfl ?_
          refine j_iald hc dX10_row_61 zA15_zh2 (by omega) (by omega) ?_
          exact j_iret hc he dX10_row_62 rfl (by omega) (by omega) (by
            have zF6 : Fr (fun z => z.1 = 14 ∨ z.1 = 15) h zh2 := by rw [← ezh2, ← ezh1]; exact ((Fr.rf (fun z : Nm => z.1 = 14 ∨ z.1 = 15) _).push (Or.inl rfl)).push (Or.inr rfl)
            have zz := hB.rows (rw := fu2 (bRw S) 1 (fu (bRw S 1) (bRl S 1) x)) (rl := fu (bRl S) 1 (bRl S 1 + 1)) zF6 ((congrFun ezh2 _).symm.trans ((up_ne (by simp)).trans ((congrFun ezh1 _).symm.trans ((up_ne (by simp)).trans zb14)))) zW_zh2 zA15_zh2 (fun q q0 q1 => by
              obtain ⟨k1, k2, k3⟩ := zKw q q0 q1
              rcases (by omega : q = 1 ∨ q = 0) with rfl | rfl
              · refine ⟨by rw [fu_same]; omega, by rw [fu_same]; omega, fun y y0 y1 => ?_⟩
                show 0 ≤ fu (bRw S 1) (bRl S 1) x y ∧ fu (bRw S 1) (bRl S 1) x y ≤ 20
                unfold fu
                split
                · omega
                · exact k3 y y0 y1
              · exact ⟨by rw [fu_ne (by decide)]; exact k1, by rw [fu_ne (by decide)]; exact k2, fun y y0 y1 => k3 y y0 y1⟩)
            exact ⟨_, rfl, by rw [if_pos ⟨⟨by omega, by omega⟩, zw2, zw3⟩, fu_same], by rw [if_pos ⟨⟨by omega, by omega⟩, zw2, zw3⟩]; exact zz⟩)
        · have zw3 : ¬ bRl S 1 < 40 := by omega
          refine j_iconst hc dX10_row_30 ?_
          exact j_iret hc he dX10_row_31 rfl (by omega) (by omega) ⟨_, rfl, by rw [if_neg (fun z => zw3 z.2.2)], by rw [if_neg (fun z => zw3 z.2.2)]; exact hB, Fr.rf _ _⟩
  have hno : ¬ (0 ≤ r ∧ r ≤ 1) := by omega
  refine Ev.mk (by decide +kernel) [_, _, _] rfl (Nat.le_of_ble_eq_true rfl) (fun w hc he => ?_)
  refine j_iload_n hc dX10_row_0 rfl ?_
  refine j_iconst hc dX10_row_1 ?_
  refine j_iconst hc dX10_row_2 ?_
  refine j_callS (d' := d - 1) hc dX10_row_3 sX10_90 (ev_X10_within (by omega) hir ⟨by omega, by omega⟩ ⟨by omega, by omega⟩) rfl (by omega) (by omega) (by omega) rfl rfl (Nat.le_of_ble_eq_true rfl) (ret1 ?_)
  refine j_if_eq (b := 0) (tgt := 30) hc dX10_row_6 (by decide) (by split <;> exact ⟨by omega, by omega⟩) (fun zc1 => ?_) (fun zc1 => ?_)
  · refine j_iconst hc dX10_row_30 ?_
    exact j_iret hc he dX10_row_31 rfl (by omega) (by omega) ⟨_, rfl, by rw [if_neg (fun z => hno z.1)], by rw [if_neg (fun z => hno z.1)]; exact hB, Fr.rf _ _⟩
  · exact absurd (one_pos zc1) hno
set_option maxRecDepth 100000 in
set_option maxHeartbeats 4000000 in
theorem ev_X10_clear_a {k : WC} {d : Nat} {h : AH} {S : BaS} {r : Int} (hd : 3 ≤ d) (hB : BarnAt h S) (hir : inI r) : Ev k d mdX10_clear h [vR (0, 0), vI r] 0 0 (pe fun v h' => (v = vI (if 0 ≤ r ∧ r ≤ 1 then bRl S r else -1)) ∧ BarnAt h' (if 0 ≤ r ∧ r ≤ 1 then sRw S (bRw S) (fu (bRl S) r 0) else S) ∧ Fr isBa h h') := by
  obtain ⟨⟨⟨zb0, zb11, zb12, zb13, zb14, zb141, zb15, zb18⟩, zTp, zRd⟩, zSp, zTw, zSt, zL, zK⟩ := id hB
  obtain ⟨zT1, ⟨zlc0, zlc1⟩, ⟨zrc0, zrc1⟩, zKl, zKr, zKw, ⟨zto0, zto1⟩, zse0, zse1⟩ := id zK
  by_cases hcs : 0 ≤ r ∧ r ≤ 1
  · skip
    refine Ev.mk (by decide +kernel) [_, _, _] rfl (Nat.le_of_ble_eq_true rfl) (fun w hc he => ?_)
    refine j_iload_n hc dX10_clear_0 rfl ?_
    refine j_iconst hc dX10_clear_1 ?_
    refine j_iconst hc dX10_clear_2 ?_
    refine j_callS (d' := d - 1) hc dX10_clear_3 sX10_90 (ev_X10_within (by omega) ⟨by omega, by omega⟩ ⟨by omega, by omega⟩ ⟨by omega, by omega⟩) rfl (by omega) (by omega) (by omega) rfl rfl (Nat.le_of_ble_eq_true rfl) (ret1 ?_)
    refine j_if_ne (b := 0) (tgt := 11) hc dX10_clear_6 (by decide) (by split <;> exact ⟨by omega, by omega⟩) (fun zc1 => ?_) (fun zc1 => ?_)
    · refine j_aload_n hc dX10_clear_11 rfl ?_
      refine j_get hc dX10_clear_12 fX10_49 zb0 rfl ?_
      refine j_iload_n hc dX10_clear_15 rfl ?_
      refine j_iald hc dX10_clear_16 zb15 (by omega) (by omega) ?_
      refine j_istore_n (L' := [_, _, _]) hc dX10_clear_17 (Nat.le_of_ble_eq_true rfl) rfl ?_
      refine j_aload_n hc dX10_clear_18 rfl ?_
      refine j_get hc dX10_clear_19 fX10_49 zb0 rfl ?_
      refine j_iload_n hc dX10_clear_22 rfl ?_
      refine j_iconst hc dX10_clear_23 ?_
      refine j_iast hc dX10_clear_24 zb15 (by omega) (by omega) ?_
      generalize ezh1 : up _ _ _ = zh1
      have zB_zh1 := (congrFun ezh1 _).symm.trans ((up_ne (by simp)).trans zb0)
      have zA11_zh1 := (congrFun ezh1 _).symm.trans ((up_ne (by simp)).trans zb11)
      have zA12_zh1 := (congrFun ezh1 _).symm.trans ((up_ne (by simp)).trans zb12)
      have zA13_zh1 := (congrFun ezh1 _).symm.trans ((up_ne (by simp)).trans zb13)
      have zA15_zh1 := (congrFun ezh1 _).symm.trans (up_same _ _ _)
      have zA18_zh1 := (congrFun ezh1 _).symm.trans ((up_ne (by simp)).trans zb18)
      have zT_zh1 := (congrFun ezh1 _).symm.trans ((up_ne (by simp)).trans zTp.1)
      have zT2_zh1 := (congrFun ezh1 _).symm.trans ((up_ne (by simp)).trans zTp.2)
      refine j_iload_n hc dX10_clear_25 rfl ?_
      exact j_iret hc he dX10_clear_26 rfl (by omega) (by omega) (by
        have zF6 : Fr (fun z => z.1 = 14 ∨ z.1 = 15) h zh1 := by rw [← ezh1]; exact (Fr.rf (fun z : Nm => z.1 = 14 ∨ z.1 = 15) _).push (Or.inr rfl)
        have zz := hB.rows (rw := bRw S) (rl := fu (bRl S) r 0) zF6 ((congrFun ezh1 _).symm.trans ((up_ne (by simp)).trans zb14)) ((congrFun ezh1 _).symm.trans ((up_ne (by simp)).trans zb141)) zA15_zh1 (fun q q0 q1 => by
          obtain ⟨k1, k2, k3⟩ := zKw q q0 q1
          refine ⟨?_, ?_, k3⟩ <;> (unfold fu; split <;> omega))
        exact ⟨_, rfl, by rw [if_pos hcs], by rw [if_pos hcs]; exact zz⟩)
    · exact absurd hcs (one_neg zc1)
  · skip
    refine Ev.mk (by decide +kernel) [_, _, _] rfl (Nat.le_of_ble_eq_true rfl) (fun w hc he => ?_)
    refine j_iload_n hc dX10_clear_0 rfl ?_
    refine j_iconst hc dX10_clear_1 ?_
    refine j_iconst hc dX10_clear_2 ?_
    refine j_callS (d' := d - 1) hc dX10_clear_3 sX10_90 (ev_X10_within (by omega) hir ⟨by omega, by omega⟩ ⟨by omega, by omega⟩) rfl (by omega) (by omega) (by omega) rfl rfl (Nat.le_of_ble_eq_true rfl) (ret1 ?_)
    refine j_if_ne (b := 0) (tgt := 11) hc dX10_clear_6 (by decide) (by split <;> exact ⟨by omega, by omega⟩) (fun zc1 => ?_) (fun zc1 => ?_)
    · exact absurd (one_pos zc1) hcs
    · refine j_iconst hc dX10_clear_9 ?_
      exact j_iret hc he dX10_clear_10 rfl (by omega) (by omega) ⟨_, rfl, by rw [if_neg hcs], by rw [if_neg hcs]; exact hB, Fr.rf _ _⟩
set_option maxRecDepth 100000 in
set_option maxHeartbeats 4000000 in
theorem ev_X10_end_a {k : WC} {d : Nat} {h : AH} {S : BaS} {x : Int} (hd : 3 ≤ d) (hB : BarnAt h S) (hix : inI x) : Ev k d mdX10_end h [vR (0, 0), vI x] 0 0 (pe fun v h' => (v = vI (if 0 ≤ x ∧ x ≤ bN S then 1 else 0)) ∧ BarnAt h' (if 0 ≤ x ∧ x ≤ bN S then sTp S (bB S, x) else S) ∧ Fr isBa h h') := by
  obtain ⟨⟨⟨zb0, zb11, zb12, zb13, zb14, zb141, zb15, zb18⟩, zTp, zRd⟩, zSp, zTw, zSt, zL, zK⟩ := id hB
  obtain ⟨zT1, ⟨zlc0, zlc1⟩, ⟨zrc0, zrc1⟩, zKl, zKr, zKw, ⟨zto0, zto1⟩, zse0, zse1⟩ := id zK
  obtain ⟨zn0, zn1, zby⟩ := id zT1
  by_cases hcs : 0 ≤ x ∧ x ≤ bN S
  · skip
    refine Ev.mk (by decide +kernel) [_, _] rfl (Nat.le_of_ble_eq_true rfl) (fun w hc he => ?_)
    refine j_iload_n hc dX10_end_0 rfl ?_
    refine j_iconst hc dX10_end_1 ?_
    refine j_aload_n hc dX10_end_2 rfl ?_
    refine j_get hc dX10_end_3 fX10_12 zb0 rfl ?_
    refine j_get hc dX10_end_6 fX10_83 zTp.1 rfl ?_
    refine j_callS (d' := d - 1) hc dX10_end_9 sX10_90 (ev_X10_within (by omega) hix ⟨by omega, by omega⟩ ⟨by omega, by omega⟩) rfl (by omega) (by omega) (by omega) rfl rfl (Nat.le_of_ble_eq_true rfl) (ret1 ?_)
    refine j_if_ne (b := 0) (tgt := 17) hc dX10_end_12 (by decide) (by split <;> exact ⟨by omega, by omega⟩) (fun zc1 => ?_) (fun zc1 => ?_)
    · refine j_aload_n hc dX10_end_17 rfl ?_
      refine j_get hc dX10_end_18 fX10_12 zb0 rfl ?_
      refine j_iload_n hc dX10_end_21 rfl ?_
      refine j_put (fs' := [_, _]) hc dX10_end_22 pX10_83 zTp.1 rfl rfl ?_
      generalize ezh1 : up _ _ _ = zh1
      have zB_zh1 := (congrFun ezh1 _).symm.trans ((up_ne (by simp)).trans zb0)
      have zA11_zh1 := (congrFun ezh1 _).symm.trans ((up_ne (by simp)).trans zb11)
      have zA12_zh1 := (congrFun ezh1 _).symm.trans ((up_ne (by simp)).trans zb12)
      have zA13_zh1 := (congrFun ezh1 _).symm.trans ((up_ne (by simp)).trans zb13)
      have zA15_zh1 := (congrFun ezh1 _).symm.trans ((up_ne (by simp)).trans zb15)
      have zA18_zh1 := (congrFun ezh1 _).symm.trans ((up_ne (by simp)).trans zb18)
      have zT_zh1 := (congrFun ezh1 _).symm.trans (up_same _ _ _)
      have zT2_zh1 := (congrFun ezh1 _).symm.trans ((up_ne (by simp)).trans zTp.2)
      refine j_iconst hc dX10_end_25 ?_
      exact j_zret hc he dX10_end_26 rfl (by omega) (by omega) (by first | exact Or.inl rfl | exact Or.inr rfl) (by
        have zz := hB.tape (t := (bB S, x)) (by rw [← ezh1]; exact (Fr.rf isTape _).push (Or.inl rfl)) ⟨zT_zh1, zT2_zh1⟩ ⟨hcs.1, (by show x ≤ 240; omega), fun j j0 j1 => zby j j0 (by have j1 : j < x := j1; omega)⟩
        exact ⟨_, rfl, by rw [if_pos hcs], by rw [if_pos hcs]; exact zz⟩)
    · exact absurd hcs (one_neg zc1)
  · skip
    refine Ev.mk (by decide +kernel) [_, _] rfl (Nat.le_of_ble_eq_true rfl) (fun w hc he => ?_)
    refine j_iload_n hc dX10_end_0 rfl ?_
    refine j_iconst hc dX10_end_1 ?_
    refine j_aload_n hc dX10_end_2 rfl ?_
    refine j_get hc dX10_end_3 fX10_12 zb0 rfl ?_
    refine j_get hc dX10_end_6 fX10_83 zTp.1 rfl ?_
    refine j_callS (d' := d - 1) hc dX10_end_9 sX10_90 (ev_X10_within (by omega) hix ⟨by omega, by omega⟩ ⟨by omega, by omega⟩) rfl (by omega) (by omega) (by omega) rfl rfl (Nat.le_of_ble_eq_true rfl) (ret1 ?_)
    refine j_if_ne (b := 0) (tgt := 17) hc dX10_end_12 (by decide) (by split <;> exact ⟨by omega, by omega⟩) (fun zc1 => ?_) (fun zc1 => ?_)
    · exact absurd (one_pos zc1) hcs
    · refine j_iconst hc dX10_end_15 ?_
      exact j_zret hc he dX10_end_16 rfl (by omega) (by omega) (by first | exact Or.inl rfl | exact Or.inr rfl) ⟨_, rfl, by rw [if_neg hcs], by rw [if_neg hcs]; exact hB, Fr.rf _ _⟩
set_option maxRecDepth 100000 in
set_option maxHeartbeats 4000000 in
theorem ev_X10_feed {k : WC} {d : Nat} {h : AH} {S : BaS} {x1 x2 x3 x4 x5 : Int} (hd : 3 ≤ d) (hB : BarnAt h S) : Ev k d mdX10_feed h [vR (0, 0), vI x1, vI x2, vI x3, vI x4, vI x5] 0 0 (pe fun v h' => (v = vI (if bN S + nb5 x1 x2 x3 x4 x5 ≤ 240 then (pu5 S x1 x2 x3 x4 x5).2 else -1)) ∧ BarnAt h' (if bN S + nb5 x1 x2 x3 x4 x5 ≤ 240 then sTp S (pu5 S x1 x2 x3 x4 x5) else S) ∧ Fr isBa h h') := by
  obtain ⟨⟨⟨zb0, zb11, zb12, zb13, zb14, zb141, zb15, zb18⟩, zTp, zRd⟩, zSp, zTw, zSt, zL, zK⟩ := id hB
  obtain ⟨zT1, ⟨zlc0, zlc1⟩, ⟨zrc0, zrc1⟩, zKl, zKr, zKw, ⟨zto0, zto1⟩, zse0, zse1⟩ := id zK
  have zk0 : TpOK (bB S) (bN S) := zT1
  have zn1 := nbN_b x1 4
  have zn2 := nbN_b x2 4
  have zn3 := nbN_b x3 4
  have zn4 := nbN_b x4 4
  have zn5 := nbN_b x5 4
  obtain ⟨zn0, zn9, zby⟩ := id zT1
  refine Ev.mk (by decide +kernel) [_, _, _, _, _, _, _] rfl (Nat.le_of_ble_eq_true rfl) (fun w hc he => ?_)
  refine j_iload_n hc dX10_feed_0 rfl ?_
  refine j_callS (d' := d - 1) hc dX10_feed_1 sX10_79 (ev_X8_bytesIn (by omega)) rfl (by omega) (by omega) (by omega) rfl rfl (Nat.le_of_ble_eq_true rfl) (ret1 ?_)
  refine j_iload_n hc dX10_feed_4 rfl ?_
  refine j_callS (d' := d - 1) hc dX10_feed_5 sX10_79 (ev_X8_bytesIn (by omega)) rfl (by omega) (by omega) (by omega) rfl rfl (Nat.le_of_ble_eq_true rfl) (ret1 ?_)
  refine j_iadd hc dX10_feed_8 ?_
  refine j_iload_n hc dX10_feed_9 rfl ?_
  refine j_callS (d' := d - 1) hc dX10_feed_10 sX10_79 (ev_X8_bytesIn (by omega)) rfl (by omega) (by omega) (by omega) rfl rfl (Nat.le_of_ble_eq_true rfl) (ret1 ?_)
  refine j_iadd hc dX10_feed_13 ?_
  refine j_iload hc dX10_feed_14 rfl ?_
  refine j_callS (d' := d - 1) hc dX10_feed_16 sX10_79 (ev_X8_bytesIn (by omega)) rfl (by omega) (by omega) (by omega) rfl rfl (Nat.le_of_ble_eq_true rfl) (ret1 ?_)
  refine j_iadd hc dX10_feed_19 ?_
  refine j_iload hc dX10_feed_20 rfl ?_
  refine j_callS (d' := d - 1) hc dX10_feed_22 sX10_79 (ev_X8_bytesIn (by omega)) rfl (by omega) (by omega) (by omega) rfl rfl (Nat.le_of_ble_eq_true rfl) (ret1 ?_)
  refine j_iadd hc dX10_feed_25 ?_
  refine j_istore (L' := [_, _, _, _, _, _, _]) hc dX10_feed_26 (Nat.le_of_ble_eq_true rfl) rfl ?_
  refine j_aload_n hc dX10_feed_28 rfl ?_
  refine j_get hc dX10_feed_29 fX10_12 zb0 rfl ?_
  refine j_get hc dX10_feed_32 fX10_83 zTp.1 rfl ?_
  refine j_iload hc dX10_feed_35 rfl ?_
  refine j_iadd hc dX10_feed_37 ?_
  refine j_sipush hc dX10_feed_38 (by decide) ?_
  refine j_icmp_le (tgt := 46) hc dX10_feed_41 (by decide) ⟨by omega, by omega⟩ ⟨by omega, by omega⟩ (fun zc1 => ?_) (fun zc1 => ?_)
  · refine j_aload_n hc dX10_feed_46 rfl ?_
    refine j_get hc dX10_feed_47 fX10_12 zb0 rfl ?_
    refine j_iload_n hc dX10_feed_50 rfl ?_
    refine j_callV (d' := d - 1) hc dX10_feed_51 vX10_87 zTp.1 (ev_X8_put (s := (bB S, bN S)) (by omega) ⟨zTp.1, zTp.2⟩ zk0.1 zk0.2.1) rfl (by omega) (by omega) (by omega) rfl rfl (Nat.le_of_ble_eq_true rfl) (retN fun zq51 zp51 => ?_)
    have zP1 := zp51
    have zk1 := puN_ok (x := x1) (t := (bB S, bN S)) zk0 4
    generalize zet1 : puN x1 4 (bB S, bN S) = zt1 at zP1 zk1
    have zB1 := (zP1.2 (0, 0) (by show ¬ (_ = 1 ∨ _ = 2); decide)).trans zb0
    refine j_aload_n hc dX10_feed_54 rfl ?_
    refine j_get hc dX10_feed_55 fX10_12 zB1 rfl ?_
    refine j_iload_n hc dX10_feed_58 rfl ?_
    refine j_callV (d' := d - 1) hc dX10_feed_59 vX10_87 zP1.1.1 (ev_X8_put (s := zt1) (by omega) ⟨zP1.1.1, zP1.1.2⟩ zk1.1 zk1.2.1) rfl (by omega) (by omega) (by omega) rfl rfl (Nat.le_of_ble_eq_true rfl) (retN fun zq59 zp59 => ?_)
    have zP2 := zp59
    have zk2 := puN_ok (x := x2) (t := zt1) zk1 4
    generalize zet2 : puN x2 4 zt1 = zt2 at zP2 zk2
    have zB2 := (zP2.2 (0, 0) (by show ¬ (_ = 1 ∨ _ = 2); decide)).trans zB1
    refine j_aload_n hc dX10_feed_62 rfl ?_
    refine j_get hc dX10_feed_63 fX10_12 zB2 rfl ?_
    refine j_iload_n hc dX10_feed_66 rfl ?_
    refine j_callV (d' := d - 1) hc dX10_feed_67 vX10_87 zP2.1.1 (ev_X8_put (s := zt2) (by omega) ⟨zP2.1.1, zP2.1.2⟩ zk2.1 zk2.2.1) rfl (by omega) (by omega) (by omega) rfl rfl (Nat.le_of_ble_eq_true rfl) (retN fun zq67 zp67 => ?_)
    have zP3 := zp67
    have zk3 := puN_ok (x := x3) (t := zt2) zk2 4
    generalize zet3 : puN x3 4 zt2 = zt3 at zP3 zk3
    have zB3 := (zP3.2 (0, 0) (by show ¬ (_ = 1 ∨ _ = 2); decide)).trans zB2
    refine j_aload_n hc dX10_feed_70 rfl ?_
    refine j_get hc dX10_feed_71 fX10_12 zB3 rfl ?_
    refine j_iload hc dX10_feed_74 rfl ?_
    refine j_callV (d' := d - 1) hc dX10_feed_76 vX10_87 zP3.1.1 (ev_X8_put (s := zt3) (by omega) ⟨zP3.1.1, zP3.1.2⟩ zk3.1 zk3.2.1) rfl (by omega) (by omega) (by omega) rfl rfl (Nat.le_of_ble_eq_true rfl) (retN fun zq76 zp76 => ?_)
    have zP4 := zp76
    have zk4 := puN_ok (x := x4) (t := zt3) zk3 4
    generalize zet4 : puN x4 4 zt3 = zt4 at zP4 zk4
    have zB4 := (zP4.2 (0, 0) (by show ¬ (_ = 1 ∨ _ = 2); decide)).trans zB3
    refine j_aload_n hc dX10_feed_79 rfl ?_
    refine j_get hc dX10_feed_80 fX10_12 zB4 rfl ?_
    refine j_iload hc dX10_feed_83 rfl ?_
    refine j_callV (d' := d - 1) hc dX10_feed_85 vX10_87 zP4.1.1 (ev_X8_put (s := zt4) (by omega) ⟨zP4.1.1, zP4.1.2⟩ zk4.1 zk4.2.1) rfl (by omega) (by omega) (by omega) rfl rfl (Nat.le_of_ble_eq_true rfl) (retN fun zq85 zp85 => ?_)
    have zP5 := zp85
    have zk5 := puN_ok (x := x5) (t := zt4) zk4 4
    generalize zet5 : puN x5 4 zt4 = zt5 at zP5 zk5
    have zB5 := (zP5.2 (0, 0) (by show ¬ (_ = 1 ∨ _ = 2); decide)).trans zB4
    refine j_aload_n hc dX10_feed_88 rfl ?_
    refine j_get hc dX10_feed_89 fX10_12 zB5 rfl ?_
    refine j_get hc dX10_feed_92 fX10_83 zP5.1.1 rfl ?_
    exact j_iret hc he dX10_feed_95 rfl (by omega) (by omega) (by
      have ze : pu5 S x1 x2 x3 x4 x5 = zt5 := by unfold pu5; rw [zet1, zet2, zet3, zet4, zet5]
      have zz := hB.tape (t := zt5) ((((zP1.2.tr zP2.2).tr zP3.2).tr zP4.2).tr zP5.2) ⟨zP5.1.1, zP5.1.2⟩ zk5
      exact ⟨_, rfl, by rw [if_pos (by unfold nb5; omega), ze], by rw [if_pos (by unfold nb5; omega), ze]; exact zz⟩)
  · refine j_iconst hc dX10_feed_44 ?_
    exact j_iret hc he dX10_feed_45 rfl (by omega) (by omega) ⟨_, rfl, by rw [if_neg (by unfold nb5; omega)], by rw [if_neg (by unfold nb5; omega)]; exact hB, Fr.rf _ _⟩
