/-! ===== the reader of lands ===== -/
theorem one_pos {P : Prop} [Decidable P] (h : ¬ (if P then (1 : Int) else 0) = 0) : P := by
  by_cases q : P
  · exact q
  · rw [if_neg q] at h; exact absurd rfl h
theorem one_neg {P : Prop} [Decidable P] (h : (if P then (1 : Int) else 0) = 0) : ¬ P := fun q => by
  rw [if_pos q] at h; exact absurd h (by decide)
def lrT (nu : Int) (X : DrS) : List AV := [vR (4, 0), vR (5, 0), vR (6, 0), vR (7, 0), vR (8, 0), vI (xSe X), vI (xEa X), vI (xCo X), vI (xMi X), vI (xRo X), vI (xSw X), vI nu]
def LrO (h : AH) (i ff nu : Int) (X : DrS) : Prop := h (3, 0) = some (oO 1 (vR (1, 0) :: vI i :: vI ff :: lrT nu X))
def LrA (h : AH) (X : DrS) : Prop := h (4, 0) = some (oI 100 (xCn X)) ∧ h (5, 0) = some (oI 4 (xHv X)) ∧ h (6, 0) = some (oI 4 (xWs X)) ∧ h (7, 0) = some (oI 16 (xSk X)) ∧ h (8, 0) = some (oI 16 (xWt X))
abbrev isLr : Nm → Prop := fun z => 3 ≤ z.1 ∧ z.1 ≤ 8
theorem LrA.fr {h h' : AH} {X : DrS} (q : ∀ j : Nat, 4 ≤ j → j ≤ 8 → h' (j, 0) = h (j, 0)) (hA : LrA h X) : LrA h' X := by
  obtain ⟨h1, h2, h3, h4, h5⟩ := hA
  exact ⟨(q 4 (by omega) (by omega)).trans h1, (q 5 (by omega) (by omega)).trans h2, (q 6 (by omega) (by omega)).trans h3, (q 7 (by omega) (by omega)).trans h4, (q 8 (by omega) (by omega)).trans h5⟩
theorem TpA.fr {h h' : AH} {b : Int → Int} {n : Int} (q1 : h' (1, 0) = h (1, 0)) (q2 : h' (2, 0) = h (2, 0)) (hA : TpA h b n) : TpA h' b n := ⟨q1.trans hA.1, q2.trans hA.2⟩
set_option maxRecDepth 100000 in
set_option maxHeartbeats 4000000 in
theorem ev_X1_readsNumber {k : WC} {d : Nat} {h : AH} {b : Int → Int} {n i nu lo hi : Int} {X : DrS} (hd : 2 ≤ d) (zQ : LrO h i (-1) nu X) (zT : TpA h b n) (hT : TpOK b n) (hi0 : 0 ≤ i) (hi1 : i ≤ n) (hlo : inI lo) (hhi : inI hi)  : Ev k d mdX1_readsNumber h [vR (3, 0), vI lo, vI hi] 0 0 (pe fun v h' => ∃ nu', v = vI (if (nuS b n i lo hi).1 = -1 then 1 else 0) ∧ LrO h' (nuS b n i lo hi).2.1 (nuS b n i lo hi).1 nu' X ∧ ((nuS b n i lo hi).1 = -1 → nu' = (nuS b n i lo hi).2.2) ∧ Fr (fun z => z = (3, 0)) h h') := by
  obtain ⟨hn0, hn1, hb⟩ := id hT
  unfold LrO at zQ
  obtain ⟨zs1, zs2, -⟩ := skS_b b n i
  have zs2 := zs2 hi1
  have zh0 := hrS_b hb i
  have zh1 := hrS_b hb (skS b n i)
  have zh2 := hrS_b hb (skS b n i + 1)
  refine Ev.mk (by decide +kernel) [_, _, _] rfl (Nat.le_of_ble_eq_true rfl) (fun w hc he => ?_)
  refine j_aload_n hc dX1_readsNumber_0 rfl ?_
  refine j_callU (d' := d - 1) hc dX1_readsNumber_1 uX1_111_c1 zQ (ev_X3_here_c1 (by omega) zQ ⟨zT.1, zT.2⟩ hT (by omega) (by omega)) rfl (by omega) (by omega) (by omega) rfl rfl (Nat.le_of_ble_eq_true rfl) (ret1 ?_)
  refine j_bipush hc dX1_readsNumber_4 (by decide) ?_
  refine j_icmp_eq (tgt := 18) hc dX1_readsNumber_6 (by decide) ⟨by omega, by omega⟩ ⟨by omega, by omega⟩ (fun zc1 => ?_) (fun zc1 => ?_)
  · refine j_aload_n hc dX1_readsNumber_18 rfl ?_
    refine j_callU (d' := d - 1) hc dX1_readsNumber_19 uX1_114_c1 zQ (ev_X3_skipBlanks_c1 (by omega) zQ zT hT (by omega) (by omega)) rfl (by omega) (by omega) (by omega) rfl rfl (Nat.le_of_ble_eq_true rfl) (retN fun zq19 zp19 => ?_)
    obtain ⟨zQ19, zF19⟩ := zp19
    have zT_q19 := (zF19 _ (by first | (simp; done) | (simp; omega))).trans zT.1
    have zT2_q19 := (zF19 _ (by first | (simp; done) | (simp; omega))).trans zT.2
    refine j_aload_n hc dX1_readsNumber_22 rfl ?_
    refine j_callU (d' := d - 1) hc dX1_readsNumber_23 uX1_111_c1 zQ19 (ev_X3_here_c1 (by omega) zQ19 ⟨zT_q19, zT2_q19⟩ hT (by omega) (by omega)) rfl (by omega) (by omega) (by omega) rfl rfl (Nat.le_of_ble_eq_true rfl) (ret1 ?_)
    refine j_callSU (d' := d - 1) hc dX1_readsNumber_26 qX1_117 rfl (ev_X3_isDigit (by omega) ⟨by omega, by omega⟩) rfl (by omega) (by omega) (by omega) rfl rfl (Nat.le_of_ble_eq_true rfl) (ret1 ?_)
    refine j_if_ne (b := 0) (tgt := 41) hc dX1_readsNumber_29 (by decide) (by split <;> exact ⟨by omega, by omega⟩) (fun zc2 => ?_) (fun zc2 => ?_)
    · have zd1 : dgS (hrS b n (skS b n i)) := one_pos zc2
      refine j_aload_n hc dX1_readsNumber_41 rfl ?_
      refine j_aload_n hc dX1_readsNumber_42 rfl ?_
      refine j_callU (d' := d - 1) hc dX1_readsNumber_43 uX1_111_c1 zQ19 (ev_X3_here_c1 (by omega) zQ19 ⟨zT_q19, zT2_q19⟩ hT (by omega) (by omega)) rfl (by omega) (by omega) (by omega) rfl rfl (Nat.le_of_ble_eq_true rfl) (ret1 ?_)
      refine j_bipush hc dX1_readsNumber_46 (by decide) ?_
      refine j_isub hc dX1_readsNumber_48 ?_
      refine j_put (fs' := [_, _, _, _, _, _, _, _, _, _, _, _, _, _, _]) hc dX1_readsNumber_49 pX1_96 zQ19 rfl rfl ?_
      generalize ezh1 : up _ _ _ = zh1
      have zQ_zh1 := (congrFun ezh1 _).symm.trans (up_same _ _ _)
      have zT_zh1 := (congrFun ezh1 _).symm.trans ((up_ne (by simp)).trans zT_q19)
      have zT2_zh1 := (congrFun ezh1 _).symm.trans ((up_ne (by simp)).trans zT2_q19)
      refine j_aload_n hc dX1_readsNumber_52 rfl ?_
      refine j_dup hc dX1_readsNumber_53 rfl ?_
      refine j_get hc dX1_readsNumber_54 fX1_99 zQ_zh1 rfl ?_
      refine j_iconst hc dX1_readsNumber_57 ?_
      refine j_iadd hc dX1_readsNumber_58 ?_
      refine j_put (fs' := [_, _, _, _, _, _, _, _, _, _, _, _, _, _, _]) hc dX1_readsNumber_59 pX1_99 zQ_zh1 rfl rfl ?_
      generalize ezh2 : up _ _ _ = zh2
      have zQ_zh2 := (congrFun ezh2 _).symm.trans (up_same _ _ _)
      have zT_zh2 := (congrFun ezh2 _).symm.trans ((up_ne (by simp)).trans zT_zh1)
      have zT2_zh2 := (congrFun ezh2 _).symm.trans ((up_ne (by simp)).trans zT2_zh1)
      refine j_aload_n hc dX1_readsNumber_62 rfl ?_
      refine j_callU (d' := d - 1) hc dX1_readsNumber_63 uX1_111_c1 zQ_zh2 (ev_X3_here_c1 (by omega) zQ_zh2 ⟨zT_zh2, zT2_zh2⟩ hT (by omega) (by omega)) rfl (by omega) (by omega) (by omega) rfl rfl (Nat.le_of_ble_eq_true rfl) (ret1 ?_)
      refine j_callSU (d' := d - 1) hc dX1_readsNumber_66 qX1_117 rfl (ev_X3_isDigit (by omega) ⟨by omega, by omega⟩) rfl (by omega) (by omega) (by omega) rfl rfl (Nat.le_of_ble_eq_true rfl) (ret1 ?_)
      refine j_if_eq (b := 0) (tgt := 101) hc dX1_readsNumber_69 (by decide) (by split <;> exact ⟨by omega, by omega⟩) (fun zc3 => ?_) (fun zc3 => ?_)
      · have zd2 : ¬ dgS (hrS b n (skS b n i + 1)) := one_neg zc3
        have znu : nuS b n i lo hi = nuR lo hi (skS b n i + 1) (hrS b n (skS b n i) - 48) := by unfold nuS; rw [if_neg (by omega), if_neg (by omega), if_neg zd2]
        refine j_aload_n hc dX1_readsNumber_101 rfl ?_
        refine j_get hc dX1_readsNumber_102 fX1_96 zQ_zh2 rfl ?_
        refine j_iload_n hc dX1_readsNumber_105 rfl ?_
        refine j_iload_n hc dX1_readsNumber_106 rfl ?_
        refine j_callSN (d' := d - 1) hc dX1_readsNumber_107 nX1_120 (ev_X10_within (by omega) ⟨by omega, by omega⟩ ⟨by omega, by omega⟩ ⟨by omega, by omega⟩) rfl (by omega) (by omega) (by omega) rfl rfl (Nat.le_of_ble_eq_true rfl) (ret1 ?_)
        refine j_if_ne (b := 0) (tgt := 126) hc dX1_readsNumber_110 (by decide) (by split <;> exact ⟨by omega, by omega⟩) (fun zc4 => ?_) (fun zc4 => ?_)
        · have zw := one_pos zc4
          refine j_iconst hc dX1_readsNumber_126 ?_
          refine j_goto (tgt := 131) hc dX1_readsNumber_127 (by decide) ?_
          exact j_zret hc he dX1_readsNumber_131 rfl (by omega) (by omega) (Or.inr rfl) (by
            have ze := znu
            unfold nuR at ze
            rw [if_pos zw] at ze
            rw [ze]
            exact ⟨_, rfl, _, by rw [if_pos rfl], zQ_zh2, fun _ => rfl, (by rw [← ezh2, ← ezh1]; exact ((zF19).push rfl).push rfl : Fr (fun z => z = (3, 0)) h zh2)⟩)
        · have zw := one_neg zc4
          refine j_aload_n hc dX1_readsNumber_113 rfl ?_
          refine j_aload_n hc dX1_readsNumber_114 rfl ?_
          refine j_get hc dX1_readsNumber_115 fX1_99 zQ_zh2 rfl ?_
          refine j_iconst hc dX1_readsNumber_118 ?_
          refine j_isub hc dX1_readsNumber_119 ?_
          refine j_callU (d' := d - 1) hc dX1_readsNumber_120 uX1_102_c1 zQ_zh2 (ev_X3_isWrongAt_c1 (by omega) zQ_zh2) rfl (by omega) (by omega) (by omega) rfl rfl (Nat.le_of_ble_eq_true rfl) (retE fun zv120 zq120 zp120 => ?_)
          obtain ⟨zv120_, zQw, zFw⟩ := zp120
          subst zv120_
          have zFq := ((by rw [← ezh2, ← ezh1]; exact ((zF19).push rfl).push rfl : Fr (fun z => z = (3, 0)) h zh2)).tr zFw
          refine j_if_eq (b := 0) (tgt := 130) hc dX1_readsNumber_123 (by decide) ⟨by omega, by omega⟩ (fun zc5 => ?_) (fun zc5 => ?_)
          · refine j_iconst hc dX1_readsNumber_130 ?_
            exact j_zret hc he dX1_readsNumber_131 rfl (by omega) (by omega) (Or.inl rfl) (by
              have ze := znu
              unfold nuR at ze
              rw [if_neg zw] at ze
              rw [ze]
              exact ⟨_, rfl, _, by rw [if_neg (by show _ - (1 : Int) ≠ -1; omega)], zQw, fun z => absurd z (by show _ - (1 : Int) ≠ -1; omega), zFq⟩)
          · exact absurd rfl zc5
      · have zd2 : dgS (hrS b n (skS b n i + 1)) := one_pos zc3
        have znu : nuS b n i lo hi = nuR lo hi (skS b n i + 1 + 1) ((hrS b n (skS b n i) - 48) * 10 + hrS b n (skS b n i + 1) - 48) := by unfold nuS; rw [if_neg (by omega), if_neg (by omega), if_pos zd2]
        refine j_aload_n hc dX1_readsNumber_72 rfl ?_
        refine j_aload_n hc dX1_readsNumber_73 rfl ?_
        refine j_get hc dX1_readsNumber_74 fX1_96 zQ_zh2 rfl ?_
        refine j_bipush hc dX1_readsNumber_77 (by decide) ?_
        refine j_imul hc dX1_readsNumber_79 ?_
        refine j_aload_n hc dX1_readsNumber_80 rfl ?_
        refine j_callU (d' := d - 1) hc dX1_readsNumber_81 uX1_111_c1 zQ_zh2 (ev_X3_here_c1 (by omega) zQ_zh2 ⟨zT_zh2, zT2_zh2⟩ hT (by omega) (by omega)) rfl (by omega) (by omega) (by omega) rfl rfl (Nat.le_of_ble_eq_true rfl) (ret1 ?_)
        refine j_iadd hc dX1_readsNumber_84 ?_
        refine j_bipush hc dX1_readsNumber_85 (by decide) ?_
        refine j_isub hc dX1_readsNumber_87 ?_
        refine j_put (fs' := [_, _, _, _, _, _, _, _, _, _, _, _, _, _, _]) hc dX1_readsNumber_88 pX1_96 zQ_zh2 rfl rfl ?_
        generalize ezh3 : up _ _ _ = zh3
        have zQ_zh3 := (congrFun ezh3 _).symm.trans (up_same _ _ _)
        have zT_zh3 := (congrFun ezh3 _).symm.trans ((up_ne (by simp)).trans zT_zh2)
        have zT2_zh3 := (congrFun ezh3 _).symm.trans ((up_ne (by simp)).trans zT2_zh2)
        refine j_aload_n hc dX1_readsNumber_91 rfl ?_
        refine j_dup hc dX1_readsNumber_92 rfl ?_
        refine j_get hc dX1_readsNumber_93 fX1_99 zQ_zh3 rfl ?_
        refine j_iconst hc dX1_readsNumber_96 ?_
        refine j_iadd hc dX1_readsNumber_97 ?_
        refine j_put (fs' := [_, _, _, _, _, _, _, _, _, _, _, _, _, _, _]) hc dX1_readsNumber_98 pX1_99 zQ_zh3 rfl rfl ?_
        generalize ezh4 : up _ _ _ = zh4
        have zQ_zh4 := (congrFun ezh4 _).symm.trans (up_same _ _ _)
        have zT_zh4 := (congrFun ezh4 _).symm.trans ((up_ne (by simp)).trans zT_zh3)
        have zT2_zh4 := (congrFun ezh4 _).symm.trans ((up_ne (by simp)).trans zT2_zh3)
        refine j_aload_n hc dX1_readsNumber_101 rfl ?_
        refine j_get hc dX1_readsNumber_102 fX1_96 zQ_zh4 rfl ?_
        refine j_iload_n hc dX1_readsNumber_105 rfl ?_
        refine j_iload_n hc dX1_readsNumber_106 rfl ?_
        refine j_callSN (d' := d - 1) hc dX1_readsNumber_107 nX1_120 (ev_X10_within (by omega) ⟨by omega, by omega⟩ ⟨by omega, by omega⟩ ⟨by omega, by omega⟩) rfl (by omega) (by omega) (by omega) rfl rfl (Nat.le_of_ble_eq_true rfl) (ret1 ?_)
        refine j_if_ne (b := 0) (tgt := 126) hc dX1_readsNumber_110 (by decide) (by split <;> exact ⟨by omega, by omega⟩) (fun zc6 => ?_) (fun zc6 => ?_)
        · have zw := one_pos zc6
          refine j_iconst hc dX1_readsNumber_126 ?_
          refine j_goto (tgt := 131) hc dX1_readsNumber_127 (by decide) ?_
          exact j_zret hc he dX1_readsNumber_131 rfl (by omega) (by omega) (Or.inr rfl) (by
            have ze := znu
            unfold nuR at ze
            rw [if_pos zw] at ze
            rw [ze]
            exact ⟨_, rfl, _, by rw [if_pos rfl], zQ_zh4, fun _ => rfl, (by rw [← ezh4, ← ezh3, ← ezh2, ← ezh1]; exact ((((zF19).push rfl).push rfl).push rfl).push rfl : Fr (fun z => z = (3, 0)) h zh4)⟩)
        · have zw := one_neg zc6
          refine j_aload_n hc dX1_readsNumber_113 rfl ?_
          refine j_aload_n hc dX1_readsNumber_114 rfl ?_
          refine j_get hc dX1_readsNumber_115 fX1_99 zQ_zh4 rfl ?_
          refine j_iconst hc dX1_readsNumber_118 ?_
          refine j_isub hc dX1_readsNumber_119 ?_
          refine j_callU (d' := d - 1) hc dX1_readsNumber_120 uX1_102_c1 zQ_zh4 (ev_X3_isWrongAt_c1 (by omega) zQ_zh4) rfl (by omega) (by omega) (by omega) rfl rfl (Nat.le_of_ble_eq_true rfl) (retE fun zv120 zq120 zp120 => ?_)
          obtain ⟨zv120_, zQw, zFw⟩ := zp120
          subst zv120_
          have zFq := ((by rw [← ezh4, ← ezh3, ← ezh2, ← ezh1]; exact ((((zF19).push rfl).push rfl).push rfl).push rfl : Fr (fun z => z = (3, 0)) h zh4)).tr zFw
          refine j_if_eq (b := 0) (tgt := 130) hc dX1_readsNumber_123 (by decide) ⟨by omega, by omega⟩ (fun zc7 => ?_) (fun zc7 => ?_)
          · refine j_iconst hc dX1_readsNumber_130 ?_
            exact j_zret hc he dX1_readsNumber_131 rfl (by omega) (by omega) (Or.inl rfl) (by
              have ze := znu
              unfold nuR at ze
              rw [if_neg zw] at ze
              rw [ze]
              exact ⟨_, rfl, _, by rw [if_neg (by show _ - (1 : Int) ≠ -1; omega)], zQw, fun z => absurd z (by show _ - (1 : Int) ≠ -1; omega), zFq⟩)
          · exact absurd rfl zc7
    · have zd1 : ¬ dgS (hrS b n (skS b n i)) := one_neg zc2
      refine j_aload_n hc dX1_readsNumber_32 rfl ?_
      refine j_aload_n hc dX1_readsNumber_33 rfl ?_
      refine j_get hc dX1_readsNumber_34 fX1_99 zQ19 rfl ?_
      refine j_callU (d' := d - 1) hc dX1_readsNumber_37 uX1_102_c1 zQ19 (ev_X3_isWrongAt_c1 (by omega) zQ19) rfl (by omega) (by omega) (by omega) rfl rfl (Nat.le_of_ble_eq_true rfl) (retE fun zv37 zq37 zp37 => ?_)
      obtain ⟨zv37_, zQw, zFw⟩ := zp37
      subst zv37_
      have zFq := (zF19).tr zFw
      exact j_zret hc he dX1_readsNumber_40 rfl (by omega) (by omega) (Or.inl rfl) (by
        have ze : nuS b n i lo hi = (skS b n i, skS b n i, 0) := by unfold nuS; rw [if_neg (by omega), if_pos zd1]
        rw [ze]
        exact ⟨_, rfl, _, by rw [if_neg (by show skS b n i ≠ -1; omega)], zQw, fun z => absurd z (by show skS b n i ≠ -1; omega), zFq⟩)
  · refine j_aload_n hc dX1_readsNumber_9 rfl ?_
    refine j_aload_n hc dX1_readsNumber_10 rfl ?_
    refine j_get hc dX1_readsNumber_11 fX1_99 zQ rfl ?_
    refine j_callU (d' := d - 1) hc dX1_readsNumber_14 uX1_102_c1 zQ (ev_X3_isWrongAt_c1 (by omega) zQ) rfl (by omega) (by omega) (by omega) rfl rfl (Nat.le_of_ble_eq_true rfl) (retE fun zv14 zq14 zp14 => ?_)
    obtain ⟨zv14_, zQw, zFw⟩ := zp14
    subst zv14_
    have zFq := (Fr.rf (fun z => z = (3, 0)) _).tr zFw
    exact j_zret hc he dX1_readsNumber_17 rfl (by omega) (by omega) (Or.inl rfl) (by
      have ze : nuS b n i lo hi = (i, i, 0) := by unfold nuS; rw [if_pos (by assumption)]
      rw [ze]
      exact ⟨_, rfl, _, by rw [if_neg (by show i ≠ -1; omega)], zQw, fun z => absurd z (by show i ≠ -1; omega), zFq⟩)
