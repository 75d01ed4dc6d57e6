/-! ===== the reader of lands: the whole text ===== -/
theorem RdP.tr {r r' : RdS} {n : Int} {h h' h2 : AH} {v : AV} (a : RdP r n h' h2 v) (f : Fr isLr h h') (e : r' = r) : RdP r' n h h2 v := by
  subst e
  obtain ⟨i, nu, X, h1, h3, h4, h5, h6, h7, h8⟩ := a
  exact ⟨i, nu, X, h1, h3, h4, h5, h6, h7, f.tr h8⟩
theorem RdP.val {r : RdS} {n : Int} {h h' : AH} {v : AV} (a : RdP r n h h' v) : v = vI (if r.1 = -1 then 1 else 0) := by
  obtain ⟨i, nu, X, h1, -⟩ := a
  exact h1
set_option maxRecDepth 100000 in
set_option maxHeartbeats 4000000 in
theorem ev_X1_readsStatement {k : WC} {d : Nat} {h : AH} {b : Int → Int} {n i nu : Int} {X : DrS} (hd : 4 ≤ d) (zQ : LrO h i (-1) nu X) (zA : LrA h X) (zT : TpA h b n) (hT : TpOK b n) (hi0 : 0 ≤ i) (hi1 : i ≤ n) (hX : XOK X)  : Ev k d mdX1_readsStatement h [vR (3, 0)] 0 0 (pe fun v h' => RdP (stS b n i X) n h h' v) := by
  obtain ⟨hn0, hn1, hb⟩ := id hT
  obtain ⟨x1, x2, x3, x4, x5, x6, x7, x8, x9, x10, x11, x12, x13, x14, x15, x16⟩ := id hX
  obtain ⟨zs1, zs2, -⟩ := skS_b b n i
  have zs2 := zs2 hi1
  refine Ev.mk (by decide +kernel) [_] rfl (Nat.le_of_ble_eq_true rfl) (fun w hc he => ?_)
  refine j_aload_n hc dX1_readsStatement_0 rfl ?_
  refine j_bipush hc dX1_readsStatement_1 (by decide) ?_
  refine j_callU (d' := d - 1) hc dX1_readsStatement_3 uX1_42_c1 zQ (ev_X3_takes_c1 (b := b) (n := n) (i := i) (cc := 119) (by omega) zQ ⟨zT.1, zT.2⟩ hT (by omega) (by omega) (by omega) (by omega)) rfl (by omega) (by omega) (by omega) rfl rfl (Nat.le_of_ble_eq_true rfl) (retE fun zv3 zq3 zp3 => ?_)
  obtain ⟨zv3_, zQ3, zF3⟩ := zp3
  subst zv3_
  have zT_q3 := (zF3 _ (by first | (simp; done) | (simp; omega))).trans zT.1
  have zT2_q3 := (zF3 _ (by first | (simp; done) | (simp; omega))).trans zT.2
  have zQ4_q3 := (zF3 _ (by first | (simp; done) | (simp; omega))).trans zA.1
  have zQ5_q3 := (zF3 _ (by first | (simp; done) | (simp; omega))).trans zA.2.1
  have zQ6_q3 := (zF3 _ (by first | (simp; done) | (simp; omega))).trans zA.2.2.1
  have zQ7_q3 := (zF3 _ (by first | (simp; done) | (simp; omega))).trans zA.2.2.2.1
  have zQ8_q3 := (zF3 _ (by first | (simp; done) | (simp; omega))).trans zA.2.2.2.2
  refine j_if_eq (b := 0) (tgt := 14) hc dX1_readsStatement_6 (by decide) (by split <;> exact ⟨by omega, by omega⟩) (fun zc1 => ?_) (fun zc1 => ?_)
  · have zn3 : ¬ hrS b n (skS b n i) = 119 := one_neg zc1
    have zQ3n := zQ3
    rw [if_neg zn3] at zQ3n
    refine j_aload_n hc dX1_readsStatement_14 rfl ?_
    refine j_bipush hc dX1_readsStatement_15 (by decide) ?_
    refine j_callU (d' := d - 1) hc dX1_readsStatement_17 uX1_42_c1 zQ3n (ev_X3_takes_c1 (b := b) (n := n) (i := (skS b n i)) (cc := 104) (by omega) zQ3n ⟨zT_q3, zT2_q3⟩ hT (by omega) (by omega) (by omega) (by omega)) rfl (by omega) (by omega) (by omega) rfl rfl (Nat.le_of_ble_eq_true rfl) (retE fun zv17 zq17 zp17 => ?_)
    simp only [skS_idem] at zp17
    obtain ⟨zv17_, zQ17, zF17⟩ := zp17
    subst zv17_
    have zT_q17 := (zF17 _ (by first | (simp; done) | (simp; omega))).trans zT_q3
    have zT2_q17 := (zF17 _ (by first | (simp; done) | (simp; omega))).trans zT2_q3
    have zQ4_q17 := (zF17 _ (by first | (simp; done) | (simp; omega))).trans zQ4_q3
    have zQ5_q17 := (zF17 _ (by first | (simp; done) | (simp; omega))).trans zQ5_q3
    have zQ6_q17 := (zF17 _ (by first | (simp; done) | (simp; omega))).trans zQ6_q3
    have zQ7_q17 := (zF17 _ (by first | (simp; done) | (simp; omega))).trans zQ7_q3
    have zQ8_q17 := (zF17 _ (by first | (simp; done) | (simp; omega))).trans zQ8_q3
    refine j_if_eq (b := 0) (tgt := 28) hc dX1_readsStatement_20 (by decide) (by split <;> exact ⟨by omega, by omega⟩) (fun zc2 => ?_) (fun zc2 => ?_)
    · have zn17 : ¬ hrS b n (skS b n i) = 104 := one_neg zc2
      have zQ17n := zQ17
      rw [if_neg zn17] at zQ17n
      refine j_aload_n hc dX1_readsStatement_28 rfl ?_
      refine j_bipush hc dX1_readsStatement_29 (by decide) ?_
      refine j_callU (d' := d - 1) hc dX1_readsStatement_31 uX1_42_c1 zQ17n (ev_X3_takes_c1 (b := b) (n := n) (i := (skS b n i)) (cc := 99) (by omega) zQ17n ⟨zT_q17, zT2_q17⟩ hT (by omega) (by omega) (by omega) (by omega)) rfl (by omega) (by omega) (by omega) rfl rfl (Nat.le_of_ble_eq_true rfl) (retE fun zv31 zq31 zp31 => ?_)
      simp only [skS_idem] at zp31
      obtain ⟨zv31_, zQ31, zF31⟩ := zp31
      subst zv31_
      have zT_q31 := (zF31 _ (by first | (simp; done) | (simp; omega))).trans zT_q17
      have zT2_q31 := (zF31 _ (by first | (simp; done) | (simp; omega))).trans zT2_q17
      have zQ4_q31 := (zF31 _ (by first | (simp; done) | (simp; omega))).trans zQ4_q17
      have zQ5_q31 := (zF31 _ (by first | (simp; done) | (simp; omega))).trans zQ5_q17
      have zQ6_q31 := (zF31 _ (by first | (simp; done) | (simp; omega))).trans zQ6_q17
      have zQ7_q31 := (zF31 _ (by first | (simp; done) | (simp; omega))).trans zQ7_q17
      have zQ8_q31 := (zF31 _ (by first | (simp; done) | (simp; omega))).trans zQ8_q17
      refine j_if_eq (b := 0) (tgt := 42) hc dX1_readsStatement_34 (by decide) (by split <;> exact ⟨by omega, by omega⟩) (fun zc3 => ?_) (fun zc3 => ?_)
      · have zn31 : ¬ hrS b n (skS b n i) = 99 := one_neg zc3
        have zQ31n := zQ31
        rw [if_neg zn31] at zQ31n
        refine j_aload_n hc dX1_readsStatement_42 rfl ?_
        refine j_bipush hc dX1_readsStatement_43 (by decide) ?_
        refine j_callU (d' := d - 1) hc dX1_readsStatement_45 uX1_42_c1 zQ31n (ev_X3_takes_c1 (b := b) (n := n) (i := (skS b n i)) (cc := 109) (by omega) zQ31n ⟨zT_q31, zT2_q31⟩ hT (by omega) (by omega) (by omega) (by omega)) rfl (by omega) (by omega) (by omega) rfl rfl (Nat.le_of_ble_eq_true rfl) (retE fun zv45 zq45 zp45 => ?_)
        simp only [skS_idem] at zp45
        obtain ⟨zv45_, zQ45, zF45⟩ := zp45
        subst zv45_
        have zT_q45 := (zF45 _ (by first | (simp; done) | (simp; omega))).trans zT_q31
        have zT2_q45 := (zF45 _ (by first | (simp; done) | (simp; omega))).trans zT2_q31
        have zQ4_q45 := (zF45 _ (by first | (simp; done) | (simp; omega))).trans zQ4_q31
        have zQ5_q45 := (zF45 _ (by first | (simp; done) | (simp; omega))).trans zQ5_q31
        have zQ6_q45 := (zF45 _ (by first | (simp; done) | (simp; omega))).trans zQ6_q31
        have zQ7_q45 := (zF45 _ (by first | (simp; done) | (simp; omega))).trans zQ7_q31
        have zQ8_q45 := (zF45 _ (by first | (simp; done) | (simp; omega))).trans zQ8_q31
        refine j_if_eq (b := 0) (tgt := 56) hc dX1_readsStatement_48 (by decide) (by split <;> exact ⟨by omega, by omega⟩) (fun zc4 => ?_) (fun zc4 => ?_)
        · have zn45 : ¬ hrS b n (skS b n i) = 109 := one_neg zc4
          have zQ45n := zQ45
          rw [if_neg zn45] at zQ45n
          refine j_aload_n hc dX1_readsStatement_56 rfl ?_
          refine j_bipush hc dX1_readsStatement_57 (by decide) ?_
          refine j_callU (d' := d - 1) hc dX1_readsStatement_59 uX1_34_c1 zQ45n (ev_X3_needs_c1 (b := b) (n := n) (i := (skS b n i)) (cc := 114) (by omega) zQ45n ⟨zT_q45, zT2_q45⟩ hT (by omega) (by omega) (by omega) (by omega)) rfl (by omega) (by omega) (by omega) rfl rfl (Nat.le_of_ble_eq_true rfl) (retE fun zv59 zq59 zp59 => ?_)
          simp only [skS_idem] at zp59
          obtain ⟨zv59_, zQ59, zF59⟩ := zp59
          subst zv59_
          have zT_q59 := (zF59 _ (by first | (simp; done) | (simp; omega))).trans zT_q45
          have zT2_q59 := (zF59 _ (by first | (simp; done) | (simp; omega))).trans zT2_q45
          have zQ4_q59 := (zF59 _ (by first | (simp; done) | (simp; omega))).trans zQ4_q45
          have zQ5_q59 := (zF59 _ (by first | (simp; done) | (simp; omega))).trans zQ5_q45
          have zQ6_q59 := (zF59 _ (by first | (simp; done) | (simp; omega))).trans zQ6_q45
          have zQ7_q59 := (zF59 _ (by first | (simp; done) | (simp; omega))).trans zQ7_q45
          have zQ8_q59 := (zF59 _ (by first | (simp; done) | (simp; omega))).trans zQ8_q45
          refine j_if_eq (b := 0) (tgt := 76) hc dX1_readsStatement_62 (by decide) (by split <;> exact ⟨by omega, by omega⟩) (fun zc5 => ?_) (fun zc5 => ?_)
          · have zn59 : ¬ hrS b n (skS b n i) = 114 := one_neg zc5
            have zQ59n := zQ59
            rw [if_neg zn59, if_neg zn59] at zQ59n
            refine j_iconst hc dX1_readsStatement_76 ?_
            exact j_zret hc he dX1_readsStatement_77 rfl (by omega) (by omega) (Or.inl rfl) ⟨_, rfl, RdP.bad (f := skS b n i) (by unfold stS; rw [if_neg zn3, if_neg zn17, if_neg zn31, if_neg zn45, if_neg zn59]) (by omega) zQ59n ⟨zQ4_q59, zQ5_q59, zQ6_q59, zQ7_q59, zQ8_q59⟩ (by omega) (by omega) (Fr.tr (Fr.tr (Fr.tr (Fr.tr (Fr.tr (Fr.rf isLr _) (zF3.mono fun z zz => (by rw [zz]; exact ⟨by decide, by decide⟩))) (zF17.mono fun z zz => (by rw [zz]; exact ⟨by decide, by decide⟩))) (zF31.mono fun z zz => (by rw [zz]; exact ⟨by decide, by decide⟩))) (zF45.mono fun z zz => (by rw [zz]; exact ⟨by decide, by decide⟩))) (zF59.mono fun z zz => (by rw [zz]; exact ⟨by decide, by decide⟩)))⟩
          · have zy59 : hrS b n (skS b n i) = 114 := one_pos zc5
            have zQ59y := zQ59
            rw [if_pos zy59, if_pos zy59] at zQ59y
            have zl59 : (skS b n i) < n := hrS_lt (b := b) (by omega) (by omega)
            refine j_aload_n hc dX1_readsStatement_65 rfl ?_
            refine j_callV (d' := d - 1) hc dX1_readsStatement_66 vX1_89 zQ59y (ev_X1_readsRoom (by omega) zQ59y ⟨zQ4_q59, zQ5_q59, zQ6_q59, zQ7_q59, zQ8_q59⟩ ⟨zT_q59, zT2_q59⟩ hT (by omega) (by omega) hX) rfl (by omega) (by omega) (by omega) rfl rfl (Nat.le_of_ble_eq_true rfl) (retE fun zv66 zq66 zp66 => ?_)
            have zr66 := RdP.val zp66
            subst zr66
            have zq9 := zp66
            refine j_if_eq (b := 0) (tgt := 76) hc dX1_readsStatement_69 (by decide) (by split <;> exact ⟨by omega, by omega⟩) (fun zc6 => ?_) (fun zc6 => ?_)
            · have z69 := one_neg zc6
              refine j_iconst hc dX1_readsStatement_76 ?_
              exact j_zret hc he dX1_readsStatement_77 rfl (by omega) (by omega) (by first | exact Or.inl rfl | exact Or.inr rfl) ⟨_, rfl, by
                have zz := zq9.tr (Fr.tr (Fr.tr (Fr.tr (Fr.tr (Fr.tr (Fr.rf isLr _) (zF3.mono fun z zz => (by rw [zz]; exact ⟨by decide, by decide⟩))) (zF17.mono fun z zz => (by rw [zz]; exact ⟨by decide, by decide⟩))) (zF31.mono fun z zz => (by rw [zz]; exact ⟨by decide, by decide⟩))) (zF45.mono fun z zz => (by rw [zz]; exact ⟨by decide, by decide⟩))) (zF59.mono fun z zz => (by rw [zz]; exact ⟨by decide, by decide⟩))) (r' := stS b n i X) (by unfold stS; rw [if_neg zn3, if_neg zn17, if_neg zn31, if_neg zn45, if_pos zy59])
                first
                  | (rw [if_pos z69] at zz; exact zz)
                  | (rw [if_neg z69] at zz; exact zz)⟩
            · have z69 := one_pos zc6
              refine j_iconst hc dX1_readsStatement_72 ?_
              refine j_goto (tgt := 77) hc dX1_readsStatement_73 (by decide) ?_
              exact j_zret hc he dX1_readsStatement_77 rfl (by omega) (by omega) (by first | exact Or.inl rfl | exact Or.inr rfl) ⟨_, rfl, by
                have zz := zq9.tr (Fr.tr (Fr.tr (Fr.tr (Fr.tr (Fr.tr (Fr.rf isLr _) (zF3.mono fun z zz => (by rw [zz]; exact ⟨by decide, by decide⟩))) (zF17.mono fun z zz => (by rw [zz]; exact ⟨by decide, by decide⟩))) (zF31.mono fun z zz => (by rw [zz]; exact ⟨by decide, by decide⟩))) (zF45.mono fun z zz => (by rw [zz]; exact ⟨by decide, by decide⟩))) (zF59.mono fun z zz => (by rw [zz]; exact ⟨by decide, by decide⟩))) (r' := stS b n i X) (by unfold stS; rw [if_neg zn3, if_neg zn17, if_neg zn31, if_neg zn45, if_pos zy59])
                first
                  | (rw [if_pos z69] at zz; exact zz)
                  | (rw [if_neg z69] at zz; exact zz)⟩
        · have zy45 : hrS b n (skS b n i) = 109 := one_pos zc4
          have zQ45y := zQ45
          rw [if_pos zy45] at zQ45y
          have zl45 : (skS b n i) < n := hrS_lt (b := b) (by omega) (by omega)
          refine j_aload_n hc dX1_readsStatement_51 rfl ?_
          refine j_callV (d' := d - 1) hc dX1_readsStatement_52 vX1_86 zQ45y (ev_X1_readsMice (by omega) zQ45y ⟨zQ4_q45, zQ5_q45, zQ6_q45, zQ7_q45, zQ8_q45⟩ ⟨zT_q45, zT2_q45⟩ hT (by omega) (by omega) hX) rfl (by omega) (by omega) (by omega) rfl rfl (Nat.le_of_ble_eq_true rfl) (retE fun zv52 zq52 zp52 => ?_)
          have zr52 := RdP.val zp52
          subst zr52
          have zq9 := zp52
          exact j_zret hc he dX1_readsStatement_55 rfl (by omega) (by omega) (by split <;> first | exact Or.inr rfl | exact Or.inl rfl) ⟨_, rfl, zq9.tr (Fr.tr (Fr.tr (Fr.tr (Fr.tr (Fr.rf isLr _) (zF3.mono fun z zz => (by rw [zz]; exact ⟨by decide, by decide⟩))) (zF17.mono fun z zz => (by rw [zz]; exact ⟨by decide, by decide⟩))) (zF31.mono fun z zz => (by rw [zz]; exact ⟨by decide, by decide⟩))) (zF45.mono fun z zz => (by rw [zz]; exact ⟨by decide, by decide⟩))) (by unfold stS; rw [if_neg zn3, if_neg zn17, if_neg zn31, if_pos zy45])⟩
      · have zy31 : hrS b n (skS b n i) = 99 := one_pos zc3
        have zQ31y := zQ31
        rw [if_pos zy31] at zQ31y
        have zl31 : (skS b n i) < n := hrS_lt (b := b) (by omega) (by omega)
        refine j_aload_n hc dX1_readsStatement_37 rfl ?_
        refine j_callV (d' := d - 1) hc dX1_readsStatement_38 vX1_83 zQ31y (ev_X1_readsCost (by omega) zQ31y ⟨zQ4_q31, zQ5_q31, zQ6_q31, zQ7_q31, zQ8_q31⟩ ⟨zT_q31, zT2_q31⟩ hT (by omega) (by omega) hX) rfl (by omega) (by omega) (by omega) rfl rfl (Nat.le_of_ble_eq_true rfl) (retE fun zv38 zq38 zp38 => ?_)
        have zr38 := RdP.val zp38
        subst zr38
        have zq9 := zp38
        exact j_zret hc he dX1_readsStatement_41 rfl (by omega) (by omega) (by split <;> first | exact Or.inr rfl | exact Or.inl rfl) ⟨_, rfl, zq9.tr (Fr.tr (Fr.tr (Fr.tr (Fr.rf isLr _) (zF3.mono fun z zz => (by rw [zz]; exact ⟨by decide, by decide⟩))) (zF17.mono fun z zz => (by rw [zz]; exact ⟨by decide, by decide⟩))) (zF31.mono fun z zz => (by rw [zz]; exact ⟨by decide, by decide⟩))) (by unfold stS; rw [if_neg zn3, if_neg zn17, if_pos zy31])⟩
    · have zy17 : hrS b n (skS b n i) = 104 := one_pos zc2
      have zQ17y := zQ17
      rw [if_pos zy17] at zQ17y
      have zl17 : (skS b n i) < n := hrS_lt (b := b) (by omega) (by omega)
      refine j_aload_n hc dX1_readsStatement_23 rfl ?_
      refine j_callV (d' := d - 1) hc dX1_readsStatement_24 vX1_80 zQ17y (ev_X1_readsHarvest (by omega) zQ17y ⟨zQ4_q17, zQ5_q17, zQ6_q17, zQ7_q17, zQ8_q17⟩ ⟨zT_q17, zT2_q17⟩ hT (by omega) (by omega) hX (by omega)) rfl (by omega) (by omega) (by omega) rfl rfl (Nat.le_of_ble_eq_true rfl) (retE fun zv24 zq24 zp24 => ?_)
      have zr24 := RdP.val zp24
      subst zr24
      have zq9 := zp24
      exact j_zret hc he dX1_readsStatement_27 rfl (by omega) (by omega) (by split <;> first | exact Or.inr rfl | exact Or.inl rfl) ⟨_, rfl, zq9.tr (Fr.tr (Fr.tr (Fr.rf isLr _) (zF3.mono fun z zz => (by rw [zz]; exact ⟨by decide, by decide⟩))) (zF17.mono fun z zz => (by rw [zz]; exact ⟨by decide, by decide⟩))) (by unfold stS; rw [if_neg zn3, if_pos zy17])⟩
  · have zy3 : hrS b n (skS b n i) = 119 := one_pos zc1
    have zQ3y := zQ3
    rw [if_pos zy3] at zQ3y
    have zl3 : (skS b n i) < n := hrS_lt (b := b) (by omega) (by omega)
    refine j_aload_n hc dX1_readsStatement_9 rfl ?_
    refine j_callV (d' := d - 1) hc dX1_readsStatement_10 vX1_77 zQ3y (ev_X1_readsEaters (by omega) zQ3y ⟨zQ4_q3, zQ5_q3, zQ6_q3, zQ7_q3, zQ8_q3⟩ ⟨zT_q3, zT2_q3⟩ hT (by omega) (by omega) hX (by omega)) rfl (by omega) (by omega) (by omega) rfl rfl (Nat.le_of_ble_eq_true rfl) (retE fun zv10 zq10 zp10 => ?_)
    have zr10 := RdP.val zp10
    subst zr10
    have zq9 := zp10
    exact j_zret hc he dX1_readsStatement_13 rfl (by omega) (by omega) (by split <;> first | exact Or.inr rfl | exact Or.inl rfl) ⟨_, rfl, zq9.tr (Fr.tr (Fr.rf isLr _) (zF3.mono fun z zz => (by rw [zz]; exact ⟨by decide, by decide⟩))) (by unfold stS; rw [if_pos zy3])⟩
set_option maxRecDepth 100000 in
set_option maxHeartbeats 4000000 in
theorem ev_X1_clearDraft {k : WC} {d : Nat} {h : AH} {i ff nu : Int} {X : DrS} (hd : 2 ≤ d) (zQ : LrO h i ff nu X) (zA : LrA h X) : Ev k d mdX1_clearDraft h [vR (3, 0)] 0 0 (pn fun h' => ∃ cn hv ws : Int → Int, LrO h' i ff nu (x0S cn hv ws (xSk X) (xWt X)) ∧ LrA h' (x0S cn hv ws (xSk X) (xWt X)) ∧ (∀ p : Int, 0 ≤ p → p < 100 → cn p = 0) ∧ (∀ p : Int, 0 ≤ p → p < 4 → hv p = 0) ∧ (∀ p : Int, 0 ≤ p → p < 4 → ws p = 0) ∧ Fr isLr h h') := by
  refine Ev.mk (by decide +kernel) [_] rfl (Nat.le_of_ble_eq_true rfl) (fun w hc he => ?_)
  refine j_aload_n hc dX1_clearDraft_0 rfl ?_
  refine j_get hc dX1_clearDraft_1 fX1_9 zQ rfl ?_
  refine j_iconst hc dX1_clearDraft_4 ?_
  refine j_callS (d' := d - 1) hc dX1_clearDraft_5 sX1_52 (ev_J7_fill_53178 (by omega) (by omega) zA.1) rfl (by omega) (by omega) (by omega) rfl rfl (Nat.le_of_ble_eq_true rfl) (retN fun zq5 zp5 => ?_)
  obtain ⟨⟨f5, zn5, zz5⟩, zF5⟩ := zp5
  have zQ_q5 := (zF5 _ (by first | (simp; done) | (simp; omega))).trans zQ
  have zQ5_q5 := (zF5 _ (by first | (simp; done) | (simp; omega))).trans zA.2.1
  have zQ6_q5 := (zF5 _ (by first | (simp; done) | (simp; omega))).trans zA.2.2.1
  have zQ7_q5 := (zF5 _ (by first | (simp; done) | (simp; omega))).trans zA.2.2.2.1
  have zQ8_q5 := (zF5 _ (by first | (simp; done) | (simp; omega))).trans zA.2.2.2.2
  refine j_aload_n hc dX1_clearDraft_8 rfl ?_
  refine j_get hc dX1_clearDraft_9 fX1_15 zQ_q5 rfl ?_
  refine j_iconst hc dX1_clearDraft_12 ?_
  refine j_callS (d' := d - 1) hc dX1_clearDraft_13 sX1_52 (ev_J7_fill_53178 (by omega) (by omega) zQ5_q5) rfl (by omega) (by omega) (by omega) rfl rfl (Nat.le_of_ble_eq_true rfl) (retN fun zq13 zp13 => ?_)
  obtain ⟨⟨f13, zn13, zz13⟩, zF13⟩ := zp13
  have zQ_q13 := (zF13 _ (by first | (simp; done) | (simp; omega))).trans zQ_q5
  have zQ4_q13 := (zF13 _ (by first | (simp; done) | (simp; omega))).trans zn5
  have zQ6_q13 := (zF13 _ (by first | (simp; done) | (simp; omega))).trans zQ6_q5
  have zQ7_q13 := (zF13 _ (by first | (simp; done) | (simp; omega))).trans zQ7_q5
  have zQ8_q13 := (zF13 _ (by first | (simp; done) | (simp; omega))).trans zQ8_q5
  refine j_aload_n hc dX1_clearDraft_16 rfl ?_
  refine j_get hc dX1_clearDraft_17 fX1_18 zQ_q13 rfl ?_
  refine j_iconst hc dX1_clearDraft_20 ?_
  refine j_callS (d' := d - 1) hc dX1_clearDraft_21 sX1_52 (ev_J7_fill_53178 (by omega) (by omega) zQ6_q13) rfl (by omega) (by omega) (by omega) rfl rfl (Nat.le_of_ble_eq_true rfl) (retN fun zq21 zp21 => ?_)
  obtain ⟨⟨f21, zn21, zz21⟩, zF21⟩ := zp21
  have zQ_q21 := (zF21 _ (by first | (simp; done) | (simp; omega))).trans zQ_q13
  have zQ4_q21 := (zF21 _ (by first | (simp; done) | (simp; omega))).trans zQ4_q13
  have zQ5_q21 := (zF21 _ (by first | (simp; done) | (simp; omega))).trans zn13
  have zQ7_q21 := (zF21 _ (by first | (simp; done) | (simp; omega))).trans zQ7_q13
  have zQ8_q21 := (zF21 _ (by first | (simp; done) | (simp; omega))).trans zQ8_q13
  refine j_aload_n hc dX1_clearDraft_24 rfl ?_
  refine j_iconst hc dX1_clearDraft_25 ?_
  refine j_put (fs' := [_, _, _, _, _, _, _, _, _, _, _, _, _, _, _]) hc dX1_clearDraft_26 pX1_58 zQ_q21 rfl rfl ?_
  generalize ezh1 : up _ _ _ = zh1
  have zQ_zh1 := (congrFun ezh1 _).symm.trans (up_same _ _ _)
  have zQ4_zh1 := (congrFun ezh1 _).symm.trans ((up_ne (by simp)).trans zQ4_q21)
  have zQ5_zh1 := (congrFun ezh1 _).symm.trans ((up_ne (by simp)).trans zQ5_q21)
  have zQ6_zh1 := (congrFun ezh1 _).symm.trans ((up_ne (by simp)).trans zn21)
  have zQ7_zh1 := (congrFun ezh1 _).symm.trans ((up_ne (by simp)).trans zQ7_q21)
  have zQ8_zh1 := (congrFun ezh1 _).symm.trans ((up_ne (by simp)).trans zQ8_q21)
  refine j_aload_n hc dX1_clearDraft_29 rfl ?_
  refine j_iconst hc dX1_clearDraft_30 ?_
  refine j_put (fs' := [_, _, _, _, _, _, _, _, _, _, _, _, _, _, _]) hc dX1_clearDraft_31 pX1_62 zQ_zh1 rfl rfl ?_
  generalize ezh2 : up _ _ _ = zh2
  have zQ_zh2 := (congrFun ezh2 _).symm.trans (up_same _ _ _)
  have zQ4_zh2 := (congrFun ezh2 _).symm.trans ((up_ne (by simp)).trans zQ4_zh1)
  have zQ5_zh2 := (congrFun ezh2 _).symm.trans ((up_ne (by simp)).trans zQ5_zh1)
  have zQ6_zh2 := (congrFun ezh2 _).symm.trans ((up_ne (by simp)).trans zQ6_zh1)
  have zQ7_zh2 := (congrFun ezh2 _).symm.trans ((up_ne (by simp)).trans zQ7_zh1)
  have zQ8_zh2 := (congrFun ezh2 _).symm.trans ((up_ne (by simp)).trans zQ8_zh1)
  refine j_aload_n hc dX1_clearDraft_34 rfl ?_
  refine j_iconst hc dX1_clearDraft_35 ?_
  refine j_put (fs' := [_, _, _, _, _, _, _, _, _, _, _, _, _, _, _]) hc dX1_clearDraft_36 pX1_65 zQ_zh2 rfl rfl ?_
  generalize ezh3 : up _ _ _ = zh3
  have zQ_zh3 := (congrFun ezh3 _).symm.trans (up_same _ _ _)
  have zQ4_zh3 := (congrFun ezh3 _).symm.trans ((up_ne (by simp)).trans zQ4_zh2)
  have zQ5_zh3 := (congrFun ezh3 _).symm.trans ((up_ne (by simp)).trans zQ5_zh2)
  have zQ6_zh3 := (congrFun ezh3 _).symm.trans ((up_ne (by simp)).trans zQ6_zh2)
  have zQ7_zh3 := (congrFun ezh3 _).symm.trans ((up_ne (by simp)).trans zQ7_zh2)
  have zQ8_zh3 := (congrFun ezh3 _).symm.trans ((up_ne (by simp)).trans zQ8_zh2)
  refine j_aload_n hc dX1_clearDraft_39 rfl ?_
  refine j_iconst hc dX1_clearDraft_40 ?_
  refine j_put (fs' := [_, _, _, _, _, _, _, _, _, _, _, _, _, _, _]) hc dX1_clearDraft_41 pX1_68 zQ_zh3 rfl rfl ?_
  generalize ezh4 : up _ _ _ = zh4
  have zQ_zh4 := (congrFun ezh4 _).symm.trans (up_same _ _ _)
  have zQ4_zh4 := (congrFun ezh4 _).symm.trans ((up_ne (by simp)).trans zQ4_zh3)
  have zQ5_zh4 := (congrFun ezh4 _).symm.trans ((up_ne (by simp)).trans zQ5_zh3)
  have zQ6_zh4 := (congrFun ezh4 _).symm.trans ((up_ne (by simp)).trans zQ6_zh3)
  have zQ7_zh4 := (congrFun ezh4 _).symm.trans ((up_ne (by simp)).trans zQ7_zh3)
  have zQ8_zh4 := (congrFun ezh4 _).symm.trans ((up_ne (by simp)).trans zQ8_zh3)
  refine j_aload_n hc dX1_clearDraft_44 rfl ?_
  refine j_bipush hc dX1_clearDraft_45 (by decide) ?_
  refine j_put (fs' := [_, _, _, _, _, _, _, _, _, _, _, _, _, _, _]) hc dX1_clearDraft_47 pX1_71 zQ_zh4 rfl rfl ?_
  generalize ezh5 : up _ _ _ = zh5
  have zQ_zh5 := (congrFun ezh5 _).symm.trans (up_same _ _ _)
  have zQ4_zh5 := (congrFun ezh5 _).symm.trans ((up_ne (by simp)).trans zQ4_zh4)
  have zQ5_zh5 := (congrFun ezh5 _).symm.trans ((up_ne (by simp)).trans zQ5_zh4)
  have zQ6_zh5 := (congrFun ezh5 _).symm.trans ((up_ne (by simp)).trans zQ6_zh4)
  have zQ7_zh5 := (congrFun ezh5 _).symm.trans ((up_ne (by simp)).trans zQ7_zh4)
  have zQ8_zh5 := (congrFun ezh5 _).symm.trans ((up_ne (by simp)).trans zQ8_zh4)
  refine j_aload_n hc dX1_clearDraft_50 rfl ?_
  refine j_iconst hc dX1_clearDraft_51 ?_
  refine j_put (fs' := [_, _, _, _, _, _, _, _, _, _, _, _, _, _, _]) hc dX1_clearDraft_52 pX1_74 zQ_zh5 rfl rfl ?_
  generalize ezh6 : up _ _ _ = zh6
  have zQ_zh6 := (congrFun ezh6 _).symm.trans (up_same _ _ _)
  have zQ4_zh6 := (congrFun ezh6 _).symm.trans ((up_ne (by simp)).trans zQ4_zh5)
  have zQ5_zh6 := (congrFun ezh6 _).symm.trans ((up_ne (by simp)).trans zQ5_zh5)
  have zQ6_zh6 := (congrFun ezh6 _).symm.trans ((up_ne (by simp)).trans zQ6_zh5)
  have zQ7_zh6 := (congrFun ezh6 _).symm.trans ((up_ne (by simp)).trans zQ7_zh5)
  have zQ8_zh6 := (congrFun ezh6 _).symm.trans ((up_ne (by simp)).trans zQ8_zh5)
  exact j_vret hc he dX1_clearDraft_55 rfl (by omega) (by omega) ⟨rfl, f5, f13, f21, zQ_zh6, ⟨zQ4_zh6, zQ5_zh6, zQ6_zh6, zQ7_zh6, zQ8_zh6⟩, fun p z0 z1 => zz5 p z0 z1, fun p z0 z1 => zz13 p z0 z1, fun p z0 z1 => zz21 p z0 z1, (by rw [← ezh6]; exact Fr.push ((by rw [← ezh5]; exact Fr.push ((by rw [← ezh4]; exact Fr.push ((by rw [← ezh3]; exact Fr.push ((by rw [← ezh2]; exact Fr.push ((by rw [← ezh1]; exact Fr.push (Fr.tr (Fr.tr (Fr.tr (Fr.rf isLr _) (zF5.mono fun z zz => (by rw [zz]; exact ⟨by decide, by decide⟩))) (zF13.mono fun z zz => (by rw [zz]; exact ⟨by decide, by decide⟩))) (zF21.mono fun z zz => (by rw [zz]; exact ⟨by decide, by decide⟩))) ⟨by decide, by decide⟩)) ⟨by decide, by decide⟩)) ⟨by decide, by decide⟩)) ⟨by decide, by decide⟩)) ⟨by decide, by decide⟩)) ⟨by decide, by decide⟩)⟩
/-- the place at the end of the statements: a fault, or where the reader stands -/
def enS (n : Int) (r : RdS) : Int := if r.1 ≠ -1 then r.1 else if r.2.1 < n then r.2.1 else -1
theorem laR_en {b : Int → Int} {n : Int} {X : DrS} (h1 : hrS b n (skS b n 0) = 121) (h2 : (nuS b n (skS b n 0 + 1) 1 4).1 = -1) (h3 : (lsN b n 240 (nuS b n (skS b n 0 + 1) 1 4).2.1 (xYe X (nuS b n (skS b n 0 + 1) 1 4).2.2)).1 = -1 → 0 ≤ (lsN b n 240 (nuS b n (skS b n 0 + 1) 1 4).2.1 (xYe X (nuS b n (skS b n 0 + 1) 1 4).2.2)).2.1) : (laR b n X).1 = enS n (lsN b n 240 (nuS b n (skS b n 0 + 1) 1 4).2.1 (xYe X (nuS b n (skS b n 0 + 1) 1 4).2.2)) ∧ ((laR b n X).1 = -1 → (laR b n X).2 = (lsN b n 240 (nuS b n (skS b n 0 + 1) 1 4).2.1 (xYe X (nuS b n (skS b n 0 + 1) 1 4).2.2)).2.2) := by
  unfold laR enS
  rw [if_neg (fun z => z h1), if_neg (fun z => z h2)]
  generalize lsN b n 240 (nuS b n (skS b n 0 + 1) 1 4).2.1 (xYe X (nuS b n (skS b n 0 + 1) 1 4).2.2) = r at *
  by_cases q : r.1 ≠ -1
  · rw [if_pos q, if_pos q]
    exact ⟨rfl, fun z => absurd z q⟩
  · rw [if_neg q, if_neg q]
    by_cases q2 : r.2.1 < n
    · rw [if_pos q2, if_pos q2]
      refine ⟨rfl, fun z => ?_⟩
      have := h3 (by omega)
      simp only at z
      omega
    · rw [if_neg q2, if_neg q2]
      exact ⟨rfl, fun _ => rfl⟩
set_option maxRecDepth 100000 in
set_option maxHeartbeats 4000000 in
theorem lp_X1_ff0 {k : WC} {d : Nat} {w : MC} {h : AH} {b : Int → Int} {n i ff nu : Int} {X : DrS} {r0 : RdS} (hd : 5 ≤ d) (hT : TpOK b n) (hi0 : 0 ≤ i) (hi1 : i ≤ n) (hr : r0.1 = ff) (hff : ff ≠ -1) (hf0 : -1 ≤ ff) (hf1 : ff ≤ n) (hc : Cx w k d 0 0 mdX1_findFault) (he : Ends w 0 0 (pe fun v h' => ∃ (i' ff' nu' : Int) (X' : DrS), v = vI (enS n r0) ∧ LrO h' i' ff' nu' X' ∧ LrA h' X' ∧ (enS n r0 = -1 → X' = r0.2.2) ∧ Fr isLr h h')) : ∀ (zm : Nat) (x : Int) (h' : AH), x.toNat = zm → 0 ≤ x → x ≤ 240 → LrO h' i ff nu X → LrA h' X → TpA h' b n → Fr isLr h h' → J w 0 0 32 [some (vR (3, 0)), some (vI 0), some (vI x)] [] h' := by
  obtain ⟨hn0, hn1, hb⟩ := id hT
  intro zm
  induction zm using Nat.strongRecOn with
  | _ zm ih =>
    intro x h' hm hx0 hx1 zQ zA zT hfr
    refine j_iload_n hc dX1_findFault_32 rfl ?_
    refine j_sipush hc dX1_findFault_33 (by decide) ?_
    refine j_icmp_ge (tgt := 63) hc dX1_findFault_36 (by decide) ⟨by omega, by omega⟩ ⟨by omega, by omega⟩ (fun zc1 => ?_) (fun zc1 => ?_)
    · refine j_aload_n hc dX1_findFault_63 rfl ?_
      refine j_callU (d' := d - 1) hc dX1_findFault_64 uX1_48_c1 zQ (ev_X3_faultAtEnd_c1 (b := b) (n := n) (by omega) zQ ⟨zT.1, zT.2⟩ hT (by omega) (by omega) (by omega) (by omega)) rfl (by omega) (by omega) (by omega) rfl rfl (Nat.le_of_ble_eq_true rfl) (retE fun zv64 zq64 zp64 => ?_)
      obtain ⟨zv64_, ⟨ff9, zQ64⟩, zF64⟩ := zp64
      subst zv64_
      have zT_q64 := (zF64 _ (by first | (simp; done) | (simp; omega))).trans zT.1
      have zT2_q64 := (zF64 _ (by first | (simp; done) | (simp; omega))).trans zT.2
      have zQ4_q64 := (zF64 _ (by first | (simp; done) | (simp; omega))).trans zA.1
      have zQ5_q64 := (zF64 _ (by first | (simp; done) | (simp; omega))).trans zA.2.1
      have zQ6_q64 := (zF64 _ (by first | (simp; done) | (simp; omega))).trans zA.2.2.1
      have zQ7_q64 := (zF64 _ (by first | (simp; done) | (simp; omega))).trans zA.2.2.2.1
      have zQ8_q64 := (zF64 _ (by first | (simp; done) | (simp; omega))).trans zA.2.2.2.2
      exact j_iret hc he dX1_findFault_67 rfl (by omega) (by omega) (by
        have ze : enS n r0 = ff := by unfold enS; rw [if_pos (by omega), hr]
        exact ⟨_, rfl, _, _, _, _, by rw [ze, if_neg (by omega)], zQ64, ⟨zQ4_q64, zQ5_q64, zQ6_q64, zQ7_q64, zQ8_q64⟩, fun zz => absurd zz (by rw [ze]; exact hff), Fr.tr (hfr) (zF64.mono fun z zz => (by rw [zz]; exact ⟨by decide, by decide⟩))⟩)
    · refine j_iload_n hc dX1_findFault_39 rfl ?_
      refine j_if_eq (b := 0) (tgt := 63) hc dX1_findFault_40 (by decide) ⟨by omega, by omega⟩ (fun zc2 => ?_) (fun zc2 => ?_)
      · refine j_aload_n hc dX1_findFault_63 rfl ?_
        refine j_callU (d' := d - 1) hc dX1_findFault_64 uX1_48_c1 zQ (ev_X3_faultAtEnd_c1 (b := b) (n := n) (by omega) zQ ⟨zT.1, zT.2⟩ hT (by omega) (by omega) (by omega) (by omega)) rfl (by omega) (by omega) (by omega) rfl rfl (Nat.le_of_ble_eq_true rfl) (retE fun zv64 zq64 zp64 => ?_)
        obtain ⟨zv64_, ⟨ff9, zQ64⟩, zF64⟩ := zp64
        subst zv64_
        have zT_q64 := (zF64 _ (by first | (simp; done) | (simp; omega))).trans zT.1
        have zT2_q64 := (zF64 _ (by first | (simp; done) | (simp; omega))).trans zT.2
        have zQ4_q64 := (zF64 _ (by first | (simp; done) | (simp; omega))).trans zA.1
        have zQ5_q64 := (zF64 _ (by first | (simp; done) | (simp; omega))).trans zA.2.1
        have zQ6_q64 := (zF64 _ (by first | (simp; done) | (simp; omega))).trans zA.2.2.1
        have zQ7_q64 := (zF64 _ (by first | (simp; done) | (simp; omega))).trans zA.2.2.2.1
        have zQ8_q64 := (zF64 _ (by first | (simp; done) | (simp; omega))).trans zA.2.2.2.2
        exact j_iret hc he dX1_findFault_67 rfl (by omega) (by omega) (by
          have ze : enS n r0 = ff := by unfold enS; rw [if_pos (by omega), hr]
          exact ⟨_, rfl, _, _, _, _, by rw [ze, if_neg (by omega)], zQ64, ⟨zQ4_q64, zQ5_q64, zQ6_q64, zQ7_q64, zQ8_q64⟩, fun zz => absurd zz (by rw [ze]; exact hff), Fr.tr (hfr) (zF64.mono fun z zz => (by rw [zz]; exact ⟨by decide, by decide⟩))⟩)
      · exact absurd rfl zc2
theorem stS_f {b : Int → Int} {n i : Int} {X : DrS} (hX : XOK X) (h0 : 0 ≤ i) (h1 : i ≤ n) : -1 ≤ (stS b n i X).1 ∧ (stS b n i X).1 ≤ n := by
  obtain ⟨s1, s2, -⟩ := skS_b b n i
  have s2 := s2 h1
  unfold stS
  split
  · rename_i q
    have l1 : skS b n i < n := hrS_lt (b := b) (by omega) (by omega)
    unfold stW
    obtain ⟨a1, a2, a3, a4, a5⟩ := nuS_b (b := b) (n := n) (i := skS b n i + 1) (lo := 1) (hi := 99) (by omega) (by omega)
    obtain ⟨c1, c2, c3, c4, c5⟩ := nuS_b (b := b) (n := n) (i := (nuS b n (skS b n i + 1) 1 99).2.1) (lo := 1) (hi := 9) (by omega) a2
    split
    · simp only; omega
    · split
      · exact ⟨a3, a4⟩
      · split
        · exact ⟨c3, c4⟩
        · simp only; omega
  · split
    · rename_i q
      have l1 : skS b n i < n := hrS_lt (b := b) (by omega) (by omega)
      unfold stH
      obtain ⟨a1, a2, a3, a4, a5⟩ := nuS_b (b := b) (n := n) (i := skS b n i + 1) (lo := 0) (hi := xSe X - 1) (by omega) (by omega)
      generalize nuS b n (skS b n i + 1) 0 (xSe X - 1) = u at *
      obtain ⟨c1, c2, c3, c4, c5⟩ := nuS_b (b := b) (n := n) (i := u.2.1) (lo := 0) (hi := 20) (by omega) a2
      generalize nuS b n u.2.1 0 20 = v at *
      obtain ⟨e1, e2, e3, e4, e5⟩ := nuS_b (b := b) (n := n) (i := v.2.1) (lo := 1) (hi := min 9 (12 - xWs X u.2.2)) (by omega) c2
      split
      · exact ⟨a3, a4⟩
      · split
        · simp only; omega
        · split
          · exact ⟨c3, c4⟩
          · split
            · exact ⟨e3, e4⟩
            · simp only; omega
    · split
      · rename_i q
        have l1 : skS b n i < n := hrS_lt (b := b) (by omega) (by omega)
        unfold stC
        obtain ⟨a1, a2, a3, a4, a5⟩ := nuS_b (b := b) (n := n) (i := skS b n i + 1) (lo := 0) (hi := 30) (by omega) (by omega)
        split
        · exact ⟨a3, a4⟩
        · simp only; omega
      · split
        · rename_i q
          have l1 : skS b n i < n := hrS_lt (b := b) (by omega) (by omega)
          unfold stM
          obtain ⟨a1, a2, a3, a4, a5⟩ := nuS_b (b := b) (n := n) (i := skS b n i + 1) (lo := 0) (hi := 20) (by omega) (by omega)
          split
          · exact ⟨a3, a4⟩
          · split
            · simp only; omega
            · simp only; omega
        · split
          · rename_i q
            have l1 : skS b n i < n := hrS_lt (b := b) (by omega) (by omega)
            unfold stR
            obtain ⟨a1, a2, a3, a4, a5⟩ := nuS_b (b := b) (n := n) (i := skS b n i + 1) (lo := 0) (hi := 20) (by omega) (by omega)
            split
            · exact ⟨a3, a4⟩
            · simp only; omega
          · simp only; omega
set_option maxRecDepth 100000 in
set_option maxHeartbeats 4000000 in
theorem lp_X1_ff1 {k : WC} {d : Nat} {w : MC} {h : AH} {b : Int → Int} {n : Int} {r0 : RdS} (hd : 5 ≤ d) (hT : TpOK b n) (hc : Cx w k d 0 0 mdX1_findFault) (he : Ends w 0 0 (pe fun v h' => ∃ (i' ff' nu' : Int) (X' : DrS), v = vI (enS n r0) ∧ LrO h' i' ff' nu' X' ∧ LrA h' X' ∧ (enS n r0 = -1 → X' = r0.2.2) ∧ Fr isLr h h')) : ∀ (zm : Nat) (x : Nat) (h' : AH) (i nu : Int) (X : DrS), 240 - x = zm → x ≤ 240 → 0 ≤ i → i ≤ n → XOK X → LrO h' i (-1) nu X → LrA h' X → TpA h' b n → Fr isLr h h' → lsN b n (240 - x) i X = r0 → J w 0 0 32 [some (vR (3, 0)), some (vI 1), some (vI x)] [] h' := by
  obtain ⟨hn0, hn1, hb⟩ := id hT
  intro zm
  induction zm using Nat.strongRecOn with
  | _ zm ih =>
    intro x h' i nu X hm hx1 hi0 hi1 hX zQ zA zT hfr hls
    obtain ⟨zs1, zs2, -⟩ := skS_b b n i
    have zs2 := zs2 hi1
    refine j_iload_n hc dX1_findFault_32 rfl ?_
    refine j_sipush hc dX1_findFault_33 (by decide) ?_
    refine j_icmp_ge (tgt := 63) hc dX1_findFault_36 (by decide) ⟨by omega, by omega⟩ ⟨by omega, by omega⟩ (fun zc1 => ?_) (fun zc1 => ?_)
    · refine j_aload_n hc dX1_findFault_63 rfl ?_
      refine j_callU (d' := d - 1) hc dX1_findFault_64 uX1_48_c1 zQ (ev_X3_faultAtEnd_c1 (b := b) (n := n) (by omega) zQ ⟨zT.1, zT.2⟩ hT (by omega) (by omega) (by omega) (by omega)) rfl (by omega) (by omega) (by omega) rfl rfl (Nat.le_of_ble_eq_true rfl) (retE fun zv64 zq64 zp64 => ?_)
      obtain ⟨zv64_, ⟨ff9, zQ64⟩, zF64⟩ := zp64
      subst zv64_
      have zT_q64 := (zF64 _ (by first | (simp; done) | (simp; omega))).trans zT.1
      have zT2_q64 := (zF64 _ (by first | (simp; done) | (simp; omega))).trans zT.2
      have zQ4_q64 := (zF64 _ (by first | (simp; done) | (simp; omega))).trans zA.1
      have zQ5_q64 := (zF64 _ (by first | (simp; done) | (simp; omega))).trans zA.2.1
      have zQ6_q64 := (zF64 _ (by first | (simp; done) | (simp; omega))).trans zA.2.2.1
      have zQ7_q64 := (zF64 _ (by first | (simp; done) | (simp; omega))).trans zA.2.2.2.1
      have zQ8_q64 := (zF64 _ (by first | (simp; done) | (simp; omega))).trans zA.2.2.2.2
      exact j_iret hc he dX1_findFault_67 rfl (by omega) (by omega) (by
        have ze : r0 = (-1, i, X) := by
          rw [← hls, show 240 - x = 0 by omega]
          rfl
        have ze2 : enS n r0 = if i < n then i else -1 := by unfold enS; rw [ze]; rfl
        refine ⟨_, rfl, _, _, _, _, ?_, zQ64, ⟨zQ4_q64, zQ5_q64, zQ6_q64, zQ7_q64, zQ8_q64⟩, fun _ => by rw [ze], Fr.tr (hfr) (zF64.mono fun z zz => (by rw [zz]; exact ⟨by decide, by decide⟩))⟩
        rw [ze2]
        by_cases zz : i < n
        · rw [if_pos ⟨rfl, zz⟩, if_pos zz]
        · rw [if_neg (fun z => zz z.2), if_neg zz])
    · refine j_iload_n hc dX1_findFault_39 rfl ?_
      refine j_if_eq (b := 0) (tgt := 63) hc dX1_findFault_40 (by decide) ⟨by omega, by omega⟩ (fun zc2 => ?_) (fun zc2 => ?_)
      · exact absurd zc2 (by decide)
      · refine j_aload_n hc dX1_findFault_43 rfl ?_
        refine j_bipush hc dX1_findFault_44 (by decide) ?_
        refine j_callU (d' := d - 1) hc dX1_findFault_46 uX1_42_c1 zQ (ev_X3_takes_c1 (b := b) (n := n) (i := i) (cc := 59) (by omega) zQ zT hT (by omega) (by omega) (by omega) (by omega)) rfl (by omega) (by omega) (by omega) rfl rfl (Nat.le_of_ble_eq_true rfl) (retE fun zv46 zq46 zp46 => ?_)
        obtain ⟨zv46_, zQ46, zF46⟩ := zp46
        subst zv46_
        have zT_q46 := (zF46 _ (by first | (simp; done) | (simp; omega))).trans zT.1
        have zT2_q46 := (zF46 _ (by first | (simp; done) | (simp; omega))).trans zT.2
        have zQ4_q46 := (zF46 _ (by first | (simp; done) | (simp; omega))).trans zA.1
        have zQ5_q46 := (zF46 _ (by first | (simp; done) | (simp; omega))).trans zA.2.1
        have zQ6_q46 := (zF46 _ (by first | (simp; done) | (simp; omega))).trans zA.2.2.1
        have zQ7_q46 := (zF46 _ (by first | (simp; done) | (simp; omega))).trans zA.2.2.2.1
        have zQ8_q46 := (zF46 _ (by first | (simp; done) | (simp; omega))).trans zA.2.2.2.2
        refine j_if_eq (b := 0) (tgt := 63) hc dX1_findFault_49 (by decide) (by split <;> exact ⟨by omega, by omega⟩) (fun zc3 => ?_) (fun zc3 => ?_)
        · have zn46 : ¬ hrS b n (skS b n i) = 59 := one_neg zc3
          rw [if_neg zn46] at zQ46
          refine j_aload_n hc dX1_findFault_63 rfl ?_
          refine j_callU (d' := d - 1) hc dX1_findFault_64 uX1_48_c1 zQ46 (ev_X3_faultAtEnd_c1 (b := b) (n := n) (by omega) zQ46 ⟨zT_q46, zT2_q46⟩ hT (by omega) (by omega) (by omega) (by omega)) rfl (by omega) (by omega) (by omega) rfl rfl (Nat.le_of_ble_eq_true rfl) (retE fun zv64 zq64 zp64 => ?_)
          obtain ⟨zv64_, ⟨ff9, zQ64⟩, zF64⟩ := zp64
          subst zv64_
          have zT_q64 := (zF64 _ (by first | (simp; done) | (simp; omega))).trans zT_q46
          have zT2_q64 := (zF64 _ (by first | (simp; done) | (simp; omega))).trans zT2_q46
          have zQ4_q64 := (zF64 _ (by first | (simp; done) | (simp; omega))).trans zQ4_q46
          have zQ5_q64 := (zF64 _ (by first | (simp; done) | (simp; omega))).trans zQ5_q46
          have zQ6_q64 := (zF64 _ (by first | (simp; done) | (simp; omega))).trans zQ6_q46
          have zQ7_q64 := (zF64 _ (by first | (simp; done) | (simp; omega))).trans zQ7_q46
          have zQ8_q64 := (zF64 _ (by first | (simp; done) | (simp; omega))).trans zQ8_q46
          exact j_iret hc he dX1_findFault_67 rfl (by omega) (by omega) (by
            have ze : r0 = (-1, skS b n i, X) := by
              rw [← hls, show 240 - x = (240 - (x + 1)) + 1 by omega]
              simp only [lsN]
              rw [if_neg zn46]
            have ze2 : enS n r0 = if skS b n i < n then skS b n i else -1 := by unfold enS; rw [ze]; rfl
            refine ⟨_, rfl, _, _, _, _, ?_, zQ64, ⟨zQ4_q64, zQ5_q64, zQ6_q64, zQ7_q64, zQ8_q64⟩, fun _ => by rw [ze], Fr.tr (Fr.tr (hfr) (zF46.mono fun z zz => (by rw [zz]; exact ⟨by decide, by decide⟩))) (zF64.mono fun z zz => (by rw [zz]; exact ⟨by decide, by decide⟩))⟩
            rw [ze2]
            by_cases zz : skS b n i < n
            · rw [if_pos ⟨rfl, zz⟩, if_pos zz]
            · rw [if_neg (fun z => zz z.2), if_neg zz])
        · have zy46 : hrS b n (skS b n i) = 59 := one_pos zc3
          have zQ46y := zQ46
          rw [if_pos zy46] at zQ46y
          have zl46 : skS b n i < n := hrS_lt (b := b) (by omega) (by omega)
          refine j_aload_n hc dX1_findFault_52 rfl ?_
          refine j_callV (d' := d - 1) hc dX1_findFault_53 vX1_45 zQ46y (ev_X1_readsStatement (by omega) zQ46y ⟨zQ4_q46, zQ5_q46, zQ6_q46, zQ7_q46, zQ8_q46⟩ ⟨zT_q46, zT2_q46⟩ hT (by omega) (by omega) hX) rfl (by omega) (by omega) (by omega) rfl rfl (Nat.le_of_ble_eq_true rfl) (retE fun zv53 zq53 zp53 => ?_)
          obtain ⟨i53, nu53, X53, zv53_, zQ53, zA53, zok53, zi53, zj53, zF53⟩ := zp53
          subst zv53_
          have zT_q53 := (zF53 _ (by show ¬ (3 ≤ _ ∧ _ ≤ 8); decide)).trans zT_q46
          have zT2_q53 := (zF53 _ (by show ¬ (3 ≤ _ ∧ _ ≤ 8); decide)).trans zT2_q46
          refine j_istore_n (L' := [_, _, _]) hc dX1_findFault_56 (Nat.le_of_ble_eq_true rfl) rfl ?_
          refine j_iinc (L' := [_, _, _]) hc dX1_findFault_57 rfl (Nat.le_of_ble_eq_true rfl) rfl ?_
          refine j_goto (tgt := 32) hc dX1_findFault_60 (by decide) ?_
          by_cases zst : (stS b n (skS b n i + 1) X).1 = -1
          · obtain ⟨zi_, zX_⟩ := zok53 zst
            subst zi_
            subst zX_
            rw [if_pos zst]
            rw [zst] at zQ53
            obtain ⟨zo1, zo2, zo3⟩ := stS_ok hX (by omega) (by omega) zst
            exact ih _ (by omega) (x + 1) _ _ _ _ rfl (by omega) zi53 zj53 zo1 zQ53 zA53 ⟨zT_q53, zT2_q53⟩ (Fr.tr (Fr.tr (hfr) (zF46.mono fun z zz => (by rw [zz]; exact ⟨by decide, by decide⟩))) zF53) (by
              rw [← hls, show 240 - x = (240 - (x + 1)) + 1 by omega]
              simp only [lsN]
              rw [if_pos zy46, if_pos zst])
          · rw [if_neg zst]
            have zbnd : -1 ≤ (stS b n (skS b n i + 1) X).1 ∧ (stS b n (skS b n i + 1) X).1 ≤ n := stS_f hX (by omega) (by omega)
            exact lp_X1_ff0 hd hT zi53 zj53 (r0 := r0) (by
              rw [← hls, show 240 - x = (240 - (x + 1)) + 1 by omega]
              simp only [lsN]
              rw [if_pos zy46, if_neg zst]) zst zbnd.1 zbnd.2 hc he _ (x + 1 : Nat) _ rfl (by omega) (by omega) zQ53 zA53 ⟨zT_q53, zT2_q53⟩ (Fr.tr (Fr.tr (hfr) (zF46.mono fun z zz => (by rw [zz]; exact ⟨by decide, by decide⟩))) zF53)
theorem laR_x0 {b : Int → Int} {n : Int} {cn hv ws sk wt : Int → Int} (h1 : ∀ p : Int, 0 ≤ p → p < 100 → cn p = 0) (h2 : ∀ p : Int, 0 ≤ p → p < 4 → hv p = 0) (h3 : ∀ p : Int, 0 ≤ p → p < 4 → ws p = 0) {i : Int} (hi : 0 ≤ i ∧ i ≤ n) (hf : (nuS b n i 1 4).1 = -1) : XOK (xYe (x0S cn hv ws sk wt) (nuS b n i 1 4).2.2) := by
  obtain ⟨a1, a2, a3, a4, a5⟩ := nuS_b (b := b) (n := n) (i := i) (lo := 1) (hi := 4) hi.1 hi.2
  have a5 := a5 hf
  have hcn : ∀ m : Nat, m ≤ 100 → rkN cn m = 0 := fun m => by
    induction m with
    | zero => exact fun _ => rfl
    | succ m ih =>
      intro hm
      simp only [rkN]
      rw [ih (by omega), h1 _ (by omega) (by omega)]
      rfl
  refine ⟨a5.2.1, a5.2.2.1, Int.le_refl 0, ?_, Int.le_refl 0, ?_, ?_, ?_, Int.le_refl 20, Int.le_refl 0, ?_, Int.le_refl 0, Int.le_refl 0, (hcn _ (by decide)).symm, fun p p0 p1 => ?_, fun s z0 z1 => ?_⟩
  · show (0 : Int) ≤ 30; omega
  · show (0 : Int) ≤ 20; omega
  · show (0 : Int) ≠ 1; omega
  · show (0 : Int) ≤ 20; omega
  · show (0 : Int) ≤ 20; omega
  · show 0 ≤ cn p ∧ cn p ≤ 180
    rw [h1 p p0 (by omega)]; omega
  · show 0 ≤ hv s ∧ hv s ≤ 4 ∧ 0 ≤ ws s ∧ ws s ≤ 12 ∧ ws s = suN wt (4 * s) (hv s).toNat ∧ ∀ i : Int, 0 ≤ i → i < hv s → 0 ≤ sk (4 * s + i) ∧ sk (4 * s + i) ≤ 20 ∧ 1 ≤ wt (4 * s + i) ∧ wt (4 * s + i) ≤ 9
    rw [h2 s z0 z1, h3 s z0 z1]
    exact ⟨Int.le_refl 0, by omega, Int.le_refl 0, by omega, rfl, fun i i0 i1 => by omega⟩
set_option maxRecDepth 100000 in
set_option maxHeartbeats 4000000 in
theorem ev_X1_findFault {k : WC} {d : Nat} {h : AH} {b : Int → Int} {n i ff nu : Int} {X : DrS} (hd : 5 ≤ d) (zQ : LrO h i ff nu X) (zA : LrA h X) (zT : TpA h b n) (hT : TpOK b n) : Ev k d mdX1_findFault h [vR (3, 0)] 0 0 (pe fun v h' => ∃ (cn hv ws : Int → Int) (i' ff' nu' : Int) (X' : DrS), (∀ p : Int, 0 ≤ p → p < 100 → cn p = 0) ∧ (∀ p : Int, 0 ≤ p → p < 4 → hv p = 0) ∧ (∀ p : Int, 0 ≤ p → p < 4 → ws p = 0) ∧ v = vI (laR b n (x0S cn hv ws (xSk X) (xWt X))).1 ∧ LrO h' i' ff' nu' X' ∧ LrA h' X' ∧ ((laR b n (x0S cn hv ws (xSk X) (xWt X))).1 = -1 → X' = (laR b n (x0S cn hv ws (xSk X) (xWt X))).2) ∧ Fr isLr h h') := by
  obtain ⟨hn0, hn1, hb⟩ := id hT
  obtain ⟨zs1, zs2, -⟩ := skS_b b n 0
  have zs2 := zs2 hn0
  refine Ev.mk (by decide +kernel) [_, _, _] rfl (Nat.le_of_ble_eq_true rfl) (fun w hc he => ?_)
  refine j_aload_n hc dX1_findFault_0 rfl ?_
  refine j_callV (d' := d - 1) hc dX1_findFault_1 vX1_27 zQ (ev_X1_clearDraft (by omega) zQ zA) rfl (by omega) (by omega) (by omega) rfl rfl (Nat.le_of_ble_eq_true rfl) (retN fun zq1 zp1 => ?_)
  obtain ⟨cn, hv, ws, zQ1, zA1, zc0, zh0, zw0, zF1⟩ := zp1
  have zT_q1 := (zF1 _ (by show ¬ (3 ≤ _ ∧ _ ≤ 8); decide)).trans zT.1
  have zT2_q1 := (zF1 _ (by show ¬ (3 ≤ _ ∧ _ ≤ 8); decide)).trans zT.2
  refine j_aload_n hc dX1_findFault_4 rfl ?_
  refine j_callU (d' := d - 1) hc dX1_findFault_5 uX1_31_c1 zQ1 (ev_X3_goToBeginning_c1 (by omega) zQ1) rfl (by omega) (by omega) (by omega) rfl rfl (Nat.le_of_ble_eq_true rfl) (retN fun zq5 zp5 => ?_)
  obtain ⟨zQ5, zF5⟩ := zp5
  have zT_q5 := (zF5 _ (by first | (simp; done) | (simp; omega))).trans zT_q1
  have zT2_q5 := (zF5 _ (by first | (simp; done) | (simp; omega))).trans zT2_q1
  have zQ4_q5 := (zF5 _ (by first | (simp; done) | (simp; omega))).trans zA1.1
  have zQ5_q5 := (zF5 _ (by first | (simp; done) | (simp; omega))).trans zA1.2.1
  have zQ6_q5 := (zF5 _ (by first | (simp; done) | (simp; omega))).trans zA1.2.2.1
  have zQ7_q5 := (zF5 _ (by first | (simp; done) | (simp; omega))).trans zA1.2.2.2.1
  have zQ8_q5 := (zF5 _ (by first | (simp; done) | (simp; omega))).trans zA1.2.2.2.2
  refine j_aload_n hc dX1_findFault_8 rfl ?_
  refine j_bipush hc dX1_findFault_9 (by decide) ?_
  refine j_callU (d' := d - 1) hc dX1_findFault_11 uX1_34_c1 zQ5 (ev_X3_needs_c1 (b := b) (n := n) (i := 0) (cc := 121) (by omega) zQ5 ⟨zT_q5, zT2_q5⟩ hT (by omega) (by omega) (by omega) (by omega)) rfl (by omega) (by omega) (by omega) rfl rfl (Nat.le_of_ble_eq_true rfl) (retE fun zv11 zq11 zp11 => ?_)
  obtain ⟨zv11_, zQ11, zF11⟩ := zp11
  subst zv11_
  have zT_q11 := (zF11 _ (by first | (simp; done) | (simp; omega))).trans zT_q5
  have zT2_q11 := (zF11 _ (by first | (simp; done) | (simp; omega))).trans zT2_q5
  have zQ4_q11 := (zF11 _ (by first | (simp; done) | (simp; omega))).trans zQ4_q5
  have zQ5_q11 := (zF11 _ (by first | (simp; done) | (simp; omega))).trans zQ5_q5
  have zQ6_q11 := (zF11 _ (by first | (simp; done) | (simp; omega))).trans zQ6_q5
  have zQ7_q11 := (zF11 _ (by first | (simp; done) | (simp; omega))).trans zQ7_q5
  have zQ8_q11 := (zF11 _ (by first | (simp; done) | (simp; omega))).trans zQ8_q5
  refine j_if_eq (b := 0) (tgt := 28) hc dX1_findFault_14 (by decide) (by split <;> exact ⟨by omega, by omega⟩) (fun zc1 => ?_) (fun zc1 => ?_)
  · have zn11 : ¬ hrS b n (skS b n 0) = 121 := one_neg zc1
    rw [if_neg zn11, if_neg zn11] at zQ11
    refine j_iconst hc dX1_findFault_28 ?_
    refine j_istore_n (L' := [_, _, _]) hc dX1_findFault_29 (Nat.le_of_ble_eq_true rfl) rfl ?_
    refine j_iconst hc dX1_findFault_30 ?_
    refine j_istore_n (L' := [_, _, _]) hc dX1_findFault_31 (Nat.le_of_ble_eq_true rfl) rfl ?_
    exact lp_X1_ff0 hd hT (i := skS b n 0) (ff := skS b n 0) (r0 := (skS b n 0, 0, (x0S cn hv ws (xSk X) (xWt X)))) (by omega) (by omega) rfl (by omega) (by omega) (by omega) hc (he.mono (by
      rintro r h2 ⟨v, zr, i', ff', nu', X', zv, z1, z2, z3, z4⟩
      have ze : enS n ((skS b n 0, 0, (x0S cn hv ws (xSk X) (xWt X))) : RdS) = skS b n 0 := by unfold enS; rw [if_pos (by show skS b n 0 ≠ -1; omega)]
      have zl : (laR b n (x0S cn hv ws (xSk X) (xWt X))) = (skS b n 0, (x0S cn hv ws (xSk X) (xWt X))) := by unfold laR; rw [if_pos zn11]
      exact ⟨v, zr, cn, hv, ws, i', ff', nu', X', zc0, zh0, zw0, by rw [zv, ze, zl], z1, z2, fun zz => absurd zz (by rw [zl]; show skS b n 0 ≠ -1; omega), z4⟩)) _ 0 _ rfl (by omega) (by omega) zQ11 ⟨zQ4_q11, zQ5_q11, zQ6_q11, zQ7_q11, zQ8_q11⟩ ⟨zT_q11, zT2_q11⟩ (Fr.tr (Fr.tr (Fr.tr (Fr.rf isLr _) zF1) (zF5.mono fun z zz => (by rw [zz]; exact ⟨by decide, by decide⟩))) (zF11.mono fun z zz => (by rw [zz]; exact ⟨by decide, by decide⟩)))
  · have zy11 : hrS b n (skS b n 0) = 121 := one_pos zc1
    have zQ11y := zQ11
    rw [if_pos zy11, if_pos zy11] at zQ11y
    have zl11 : skS b n 0 < n := hrS_lt (b := b) (by omega) (by omega)
    have zne : 0 ≤ skS b n 0 + 1 ∧ skS b n 0 + 1 ≤ n := ⟨by omega, by omega⟩
    obtain ⟨zg1, zg2, zg3, zg4, zg5⟩ := nuS_b (b := b) (n := n) (i := skS b n 0 + 1) (lo := 1) (hi := 4) (by omega) (by omega)
    refine j_aload_n hc dX1_findFault_17 rfl ?_
    refine j_callV (d' := d - 1) hc dX1_findFault_18 vX1_38 zQ11y (ev_X1_readsYear (by omega) zQ11y ⟨zQ4_q11, zQ5_q11, zQ6_q11, zQ7_q11, zQ8_q11⟩ ⟨zT_q11, zT2_q11⟩ hT (by omega) (by omega)) rfl (by omega) (by omega) (by omega) rfl rfl (Nat.le_of_ble_eq_true rfl) (retE fun zv18 zq18 zp18 => ?_)
    obtain ⟨i18, nu18, X18, zv18_, zQ18, zA18, zok18, zi18, zj18, zF18⟩ := zp18
    subst zv18_
    have zT_q18 := (zF18 _ (by show ¬ (3 ≤ _ ∧ _ ≤ 8); decide)).trans zT_q11
    have zT2_q18 := (zF18 _ (by show ¬ (3 ≤ _ ∧ _ ≤ 8); decide)).trans zT2_q11
    refine j_if_eq (b := 0) (tgt := 28) hc dX1_findFault_21 (by decide) (by split <;> exact ⟨by omega, by omega⟩) (fun zc2 => ?_) (fun zc2 => ?_)
    · have zyb : (nuS b n (skS b n 0 + 1) 1 4).1 ≠ -1 := one_neg zc2
      refine j_iconst hc dX1_findFault_28 ?_
      refine j_istore_n (L' := [_, _, _]) hc dX1_findFault_29 (Nat.le_of_ble_eq_true rfl) rfl ?_
      refine j_iconst hc dX1_findFault_30 ?_
      refine j_istore_n (L' := [_, _, _]) hc dX1_findFault_31 (Nat.le_of_ble_eq_true rfl) rfl ?_
      exact lp_X1_ff0 hd hT (r0 := ((nuS b n (skS b n 0 + 1) 1 4).1, 0, (x0S cn hv ws (xSk X) (xWt X)))) zi18 zj18 rfl zyb (by omega) (by omega) hc (he.mono (by
        rintro r h2 ⟨v, zr, i', ff', nu', X', zv, z1, z2, z3, z4⟩
        have ze : enS n (((nuS b n (skS b n 0 + 1) 1 4).1, 0, (x0S cn hv ws (xSk X) (xWt X))) : RdS) = (nuS b n (skS b n 0 + 1) 1 4).1 := by unfold enS; rw [if_pos zyb]
        have zl : (laR b n (x0S cn hv ws (xSk X) (xWt X))) = ((nuS b n (skS b n 0 + 1) 1 4).1, (x0S cn hv ws (xSk X) (xWt X))) := by unfold laR; rw [if_neg (fun zz => zz zy11), if_pos zyb]
        exact ⟨v, zr, cn, hv, ws, i', ff', nu', X', zc0, zh0, zw0, by rw [zv, ze, zl], z1, z2, fun zz => absurd zz (by rw [zl]; exact zyb), z4⟩)) _ 0 _ rfl (by omega) (by omega) zQ18 ⟨zA18.1, zA18.2.1, zA18.2.2.1, zA18.2.2.2.1, zA18.2.2.2.2⟩ ⟨zT_q18, zT2_q18⟩ (Fr.tr (Fr.tr (Fr.tr (Fr.tr (Fr.rf isLr _) zF1) (zF5.mono fun z zz => (by rw [zz]; exact ⟨by decide, by decide⟩))) (zF11.mono fun z zz => (by rw [zz]; exact ⟨by decide, by decide⟩))) zF18)
    · have zyg : (nuS b n (skS b n 0 + 1) 1 4).1 = -1 := one_pos zc2
      refine j_iconst hc dX1_findFault_24 ?_
      refine j_goto (tgt := 29) hc dX1_findFault_25 (by decide) ?_
      refine j_istore_n (L' := [_, _, _]) hc dX1_findFault_29 (Nat.le_of_ble_eq_true rfl) rfl ?_
      refine j_iconst hc dX1_findFault_30 ?_
      refine j_istore_n (L' := [_, _, _]) hc dX1_findFault_31 (Nat.le_of_ble_eq_true rfl) rfl ?_
      obtain ⟨zi_, zX_⟩ := zok18 zyg
      subst zi_
      subst zX_
      rw [zyg] at zQ18
      have zxk : XOK (xYe (x0S cn hv ws (xSk X) (xWt X)) (nuS b n (skS b n 0 + 1) 1 4).2.2) := laR_x0 zc0 zh0 zw0 zne zyg
      exact lp_X1_ff1 hd hT (r0 := lsN b n 240 (nuS b n (skS b n 0 + 1) 1 4).2.1 (xYe (x0S cn hv ws (xSk X) (xWt X)) (nuS b n (skS b n 0 + 1) 1 4).2.2)) hc (he.mono (by
        rintro r h2 ⟨v, zr, i', ff', nu', X', zv, z1, z2, z3, z4⟩
        obtain ⟨zl1, zl2⟩ := laR_en (X := (x0S cn hv ws (xSk X) (xWt X))) zy11 zyg (fun zz => by have := lsN_ok 240 zxk (by omega) (by omega) zz; omega)
        exact ⟨v, zr, cn, hv, ws, i', ff', nu', X', zc0, zh0, zw0, by rw [zv, zl1], z1, z2, fun zz => by rw [zl2 zz]; exact z3 (by rw [← zl1]; exact zz), z4⟩)) _ 0 _ _ _ _ rfl (by omega) zi18 zj18 zxk zQ18 zA18 ⟨zT_q18, zT2_q18⟩ (Fr.tr (Fr.tr (Fr.tr (Fr.tr (Fr.rf isLr _) zF1) (zF5.mono fun z zz => (by rw [zz]; exact ⟨by decide, by decide⟩))) (zF11.mono fun z zz => (by rw [zz]; exact ⟨by decide, by decide⟩))) zF18) rfl
