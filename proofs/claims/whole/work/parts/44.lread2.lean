/-! ===== the reader of lands: statements ===== -/
def RdP (r : RdS) (n : Int) (h h' : AH) (v : AV) : Prop := ∃ (i' nu' : Int) (X' : DrS), v = vI (if r.1 = -1 then 1 else 0) ∧ LrO h' i' r.1 nu' X' ∧ LrA h' X' ∧ (r.1 = -1 → i' = r.2.1 ∧ X' = r.2.2) ∧ 0 ≤ i' ∧ i' ≤ n ∧ Fr isLr h h'
theorem RdP.good {r : RdS} {n A nu : Int} {X' : DrS} {h h' : AH} (ze : r = (-1, A, X')) (zQ : LrO h' A (-1) nu X') (zA : LrA h' X') (h0 : 0 ≤ A) (h1 : A ≤ n) (fr : Fr isLr h h') : RdP r n h h' (vI 1) := by
  rw [ze]
  exact ⟨A, nu, X', by rw [if_pos rfl], zQ, zA, fun _ => ⟨rfl, rfl⟩, h0, h1, fr⟩
theorem RdP.bad {r : RdS} {n A nu f : Int} {X' : DrS} {h h' : AH} (ze : r.1 = f) (hf : f ≠ -1) (zQ : LrO h' A f nu X') (zA : LrA h' X') (h0 : 0 ≤ A) (h1 : A ≤ n) (fr : Fr isLr h h') : RdP r n h h' (vI 0) := by
  subst ze
  exact ⟨A, nu, X', by rw [if_neg hf], zQ, zA, fun z => absurd z hf, h0, h1, fr⟩
set_option maxRecDepth 100000 in
set_option maxHeartbeats 4000000 in
theorem ev_X1_readsCost {k : WC} {d : Nat} {h : AH} {b : Int → Int} {n i nu : Int} {X : DrS} (hd : 3 ≤ d) (zQ : LrO h i (-1) nu X) (zA : LrA h X) (zT : TpA h b n) (hT : TpOK b n) (hi0 : 0 ≤ i) (hi1 : i ≤ n) (hX : XOK X)  : Ev k d mdX1_readsCost h [vR (3, 0)] 0 0 (pe fun v h' => RdP (stC b n i X) n h h' v) := by
  obtain ⟨hn0, hn1, hb⟩ := id hT
  obtain ⟨x1, x2, x3, x4, x5, x6, x7, x8, x9, x10, x11, x12, x13, x14, x15, x16⟩ := id hX
  refine Ev.mk (by decide +kernel) [_] rfl (Nat.le_of_ble_eq_true rfl) (fun w hc he => ?_)
  refine j_aload_n hc dX1_readsCost_0 rfl ?_
  refine j_iconst hc dX1_readsCost_1 ?_
  refine j_bipush hc dX1_readsCost_2 (by decide) ?_
  refine j_callV (d' := d - 1) hc dX1_readsCost_4 vX1_92 zQ (ev_X1_readsNumber (b := b) (n := n) (i := i) (lo := 0) (hi := 30) (X := X) (by omega) zQ ⟨zT.1, zT.2⟩ hT (by omega) (by omega) ⟨by omega, by omega⟩ ⟨by omega, by omega⟩) rfl (by omega) (by omega) (by omega) rfl rfl (Nat.le_of_ble_eq_true rfl) (retE fun zv4 zq4 zp4 => ?_)
  obtain ⟨nu4, zv4_, zQ4, znu4, zF4⟩ := zp4
  subst zv4_
  obtain ⟨za1, zb1, zc1_, zd1, ze1⟩ := nuS_b (b := b) (n := n) (i := i) (lo := 0) (hi := 30) (by omega) (by omega)
  have zT_q4 := (zF4 _ (by first | (simp; done) | (simp; omega))).trans zT.1
  have zT2_q4 := (zF4 _ (by first | (simp; done) | (simp; omega))).trans zT.2
  have zQ4_q4 := (zF4 _ (by first | (simp; done) | (simp; omega))).trans zA.1
  have zQ5_q4 := (zF4 _ (by first | (simp; done) | (simp; omega))).trans zA.2.1
  have zQ6_q4 := (zF4 _ (by first | (simp; done) | (simp; omega))).trans zA.2.2.1
  have zQ7_q4 := (zF4 _ (by first | (simp; done) | (simp; omega))).trans zA.2.2.2.1
  have zQ8_q4 := (zF4 _ (by first | (simp; done) | (simp; omega))).trans zA.2.2.2.2
  refine j_if_ne (b := 0) (tgt := 12) hc dX1_readsCost_7 (by decide) (by split <;> exact ⟨by omega, by omega⟩) (fun zc1 => ?_) (fun zc1 => ?_)
  · have zu1 : (nuS b n i 0 30).1 = -1 := one_pos zc1
    have zQ4g : LrO zq4 (nuS b n i 0 30).2.1 (-1) (nuS b n i 0 30).2.2 X := by
      have zz := zQ4
      rw [znu4 zu1, zu1] at zz
      exact zz
    have ze1 := ze1 zu1
    refine j_aload_n hc dX1_readsCost_12 rfl ?_
    refine j_aload_n hc dX1_readsCost_13 rfl ?_
    refine j_get hc dX1_readsCost_14 fX1_96 zQ4g rfl ?_
    refine j_put (fs' := [_, _, _, _, _, _, _, _, _, _, _, _, _, _, _]) hc dX1_readsCost_17 pX1_65 zQ4g rfl rfl ?_
    generalize ezh1 : up _ _ _ = zh1
    have zQ_zh1 := (congrFun ezh1 _).symm.trans (up_same _ _ _)
    have zT_zh1 := (congrFun ezh1 _).symm.trans ((up_ne (by simp)).trans zT_q4)
    have zT2_zh1 := (congrFun ezh1 _).symm.trans ((up_ne (by simp)).trans zT2_q4)
    have zQ4_zh1 := (congrFun ezh1 _).symm.trans ((up_ne (by simp)).trans zQ4_q4)
    have zQ5_zh1 := (congrFun ezh1 _).symm.trans ((up_ne (by simp)).trans zQ5_q4)
    have zQ6_zh1 := (congrFun ezh1 _).symm.trans ((up_ne (by simp)).trans zQ6_q4)
    have zQ7_zh1 := (congrFun ezh1 _).symm.trans ((up_ne (by simp)).trans zQ7_q4)
    have zQ8_zh1 := (congrFun ezh1 _).symm.trans ((up_ne (by simp)).trans zQ8_q4)
    refine j_iconst hc dX1_readsCost_20 ?_
    have zeq := (show stC b n i X = _ by unfold stC; rw [if_neg (fun zz => zz zu1)])
    exact j_zret hc he dX1_readsCost_21 rfl (by omega) (by omega) (Or.inr rfl) ⟨_, rfl, RdP.good zeq zQ_zh1 ⟨zQ4_zh1, zQ5_zh1, zQ6_zh1, zQ7_zh1, zQ8_zh1⟩ (by omega) (by omega) ((by rw [← ezh1]; exact Fr.push (Fr.tr (Fr.rf isLr _) (zF4.mono fun z zz => (by rw [zz]; exact ⟨by decide, by decide⟩))) ⟨by decide, by decide⟩))⟩
  · have zu1 : ¬ (nuS b n i 0 30).1 = -1 := one_neg zc1
    refine j_iconst hc dX1_readsCost_10 ?_
    exact j_zret hc he dX1_readsCost_11 rfl (by omega) (by omega) (Or.inl rfl) ⟨_, rfl, RdP.bad (f := (nuS b n i 0 30).1) (by unfold stC; rw [if_pos zu1]) zu1 zQ4 ⟨zQ4_q4, zQ5_q4, zQ6_q4, zQ7_q4, zQ8_q4⟩ (by omega) (by omega) (Fr.tr (Fr.rf isLr _) (zF4.mono fun z zz => (by rw [zz]; exact ⟨by decide, by decide⟩)))⟩
set_option maxRecDepth 100000 in
set_option maxHeartbeats 4000000 in
theorem ev_X1_readsRoom {k : WC} {d : Nat} {h : AH} {b : Int → Int} {n i nu : Int} {X : DrS} (hd : 3 ≤ d) (zQ : LrO h i (-1) nu X) (zA : LrA h X) (zT : TpA h b n) (hT : TpOK b n) (hi0 : 0 ≤ i) (hi1 : i ≤ n) (hX : XOK X)  : Ev k d mdX1_readsRoom h [vR (3, 0)] 0 0 (pe fun v h' => RdP (stR b n i X) n h h' v) := by
  obtain ⟨hn0, hn1, hb⟩ := id hT
  obtain ⟨x1, x2, x3, x4, x5, x6, x7, x8, x9, x10, x11, x12, x13, x14, x15, x16⟩ := id hX
  refine Ev.mk (by decide +kernel) [_] rfl (Nat.le_of_ble_eq_true rfl) (fun w hc he => ?_)
  refine j_aload_n hc dX1_readsRoom_0 rfl ?_
  refine j_iconst hc dX1_readsRoom_1 ?_
  refine j_bipush hc dX1_readsRoom_2 (by decide) ?_
  refine j_callV (d' := d - 1) hc dX1_readsRoom_4 vX1_92 zQ (ev_X1_readsNumber (b := b) (n := n) (i := i) (lo := 0) (hi := 20) (X := X) (by omega) zQ ⟨zT.1, zT.2⟩ hT (by omega) (by omega) ⟨by omega, by omega⟩ ⟨by omega, by omega⟩) rfl (by omega) (by omega) (by omega) rfl rfl (Nat.le_of_ble_eq_true rfl) (retE fun zv4 zq4 zp4 => ?_)
  obtain ⟨nu4, zv4_, zQ4, znu4, zF4⟩ := zp4
  subst zv4_
  obtain ⟨za1, zb1, zc1_, zd1, ze1⟩ := nuS_b (b := b) (n := n) (i := i) (lo := 0) (hi := 20) (by omega) (by omega)
  have zT_q4 := (zF4 _ (by first | (simp; done) | (simp; omega))).trans zT.1
  have zT2_q4 := (zF4 _ (by first | (simp; done) | (simp; omega))).trans zT.2
  have zQ4_q4 := (zF4 _ (by first | (simp; done) | (simp; omega))).trans zA.1
  have zQ5_q4 := (zF4 _ (by first | (simp; done) | (simp; omega))).trans zA.2.1
  have zQ6_q4 := (zF4 _ (by first | (simp; done) | (simp; omega))).trans zA.2.2.1
  have zQ7_q4 := (zF4 _ (by first | (simp; done) | (simp; omega))).trans zA.2.2.2.1
  have zQ8_q4 := (zF4 _ (by first | (simp; done) | (simp; omega))).trans zA.2.2.2.2
  refine j_if_ne (b := 0) (tgt := 12) hc dX1_readsRoom_7 (by decide) (by split <;> exact ⟨by omega, by omega⟩) (fun zc1 => ?_) (fun zc1 => ?_)
  · have zu1 : (nuS b n i 0 20).1 = -1 := one_pos zc1
    have zQ4g : LrO zq4 (nuS b n i 0 20).2.1 (-1) (nuS b n i 0 20).2.2 X := by
      have zz := zQ4
      rw [znu4 zu1, zu1] at zz
      exact zz
    have ze1 := ze1 zu1
    refine j_aload_n hc dX1_readsRoom_12 rfl ?_
    refine j_aload_n hc dX1_readsRoom_13 rfl ?_
    refine j_get hc dX1_readsRoom_14 fX1_96 zQ4g rfl ?_
    refine j_put (fs' := [_, _, _, _, _, _, _, _, _, _, _, _, _, _, _]) hc dX1_readsRoom_17 pX1_71 zQ4g rfl rfl ?_
    generalize ezh1 : up _ _ _ = zh1
    have zQ_zh1 := (congrFun ezh1 _).symm.trans (up_same _ _ _)
    have zT_zh1 := (congrFun ezh1 _).symm.trans ((up_ne (by simp)).trans zT_q4)
    have zT2_zh1 := (congrFun ezh1 _).symm.trans ((up_ne (by simp)).trans zT2_q4)
    have zQ4_zh1 := (congrFun ezh1 _).symm.trans ((up_ne (by simp)).trans zQ4_q4)
    have zQ5_zh1 := (congrFun ezh1 _).symm.trans ((up_ne (by simp)).trans zQ5_q4)
    have zQ6_zh1 := (congrFun ezh1 _).symm.trans ((up_ne (by simp)).trans zQ6_q4)
    have zQ7_zh1 := (congrFun ezh1 _).symm.trans ((up_ne (by simp)).trans zQ7_q4)
    have zQ8_zh1 := (congrFun ezh1 _).symm.trans ((up_ne (by simp)).trans zQ8_q4)
    refine j_iconst hc dX1_readsRoom_20 ?_
    have zeq := (show stR b n i X = _ by unfold stR; rw [if_neg (fun zz => zz zu1)])
    exact j_zret hc he dX1_readsRoom_21 rfl (by omega) (by omega) (Or.inr rfl) ⟨_, rfl, RdP.good zeq zQ_zh1 ⟨zQ4_zh1, zQ5_zh1, zQ6_zh1, zQ7_zh1, zQ8_zh1⟩ (by omega) (by omega) ((by rw [← ezh1]; exact Fr.push (Fr.tr (Fr.rf isLr _) (zF4.mono fun z zz => (by rw [zz]; exact ⟨by decide, by decide⟩))) ⟨by decide, by decide⟩))⟩
  · have zu1 : ¬ (nuS b n i 0 20).1 = -1 := one_neg zc1
    refine j_iconst hc dX1_readsRoom_10 ?_
    exact j_zret hc he dX1_readsRoom_11 rfl (by omega) (by omega) (Or.inl rfl) ⟨_, rfl, RdP.bad (f := (nuS b n i 0 20).1) (by unfold stR; rw [if_pos zu1]) zu1 zQ4 ⟨zQ4_q4, zQ5_q4, zQ6_q4, zQ7_q4, zQ8_q4⟩ (by omega) (by omega) (Fr.tr (Fr.rf isLr _) (zF4.mono fun z zz => (by rw [zz]; exact ⟨by decide, by decide⟩)))⟩
set_option maxRecDepth 100000 in
set_option maxHeartbeats 4000000 in
theorem ev_X1_readsMice {k : WC} {d : Nat} {h : AH} {b : Int → Int} {n i nu : Int} {X : DrS} (hd : 3 ≤ d) (zQ : LrO h i (-1) nu X) (zA : LrA h X) (zT : TpA h b n) (hT : TpOK b n) (hi0 : 0 ≤ i) (hi1 : i ≤ n) (hX : XOK X)  : Ev k d mdX1_readsMice h [vR (3, 0)] 0 0 (pe fun v h' => RdP (stM b n i X) n h h' v) := by
  obtain ⟨hn0, hn1, hb⟩ := id hT
  obtain ⟨x1, x2, x3, x4, x5, x6, x7, x8, x9, x10, x11, x12, x13, x14, x15, x16⟩ := id hX
  refine Ev.mk (by decide +kernel) [_] rfl (Nat.le_of_ble_eq_true rfl) (fun w hc he => ?_)
  refine j_aload_n hc dX1_readsMice_0 rfl ?_
  refine j_iconst hc dX1_readsMice_1 ?_
  refine j_bipush hc dX1_readsMice_2 (by decide) ?_
  refine j_callV (d' := d - 1) hc dX1_readsMice_4 vX1_92 zQ (ev_X1_readsNumber (b := b) (n := n) (i := i) (lo := 0) (hi := 20) (X := X) (by omega) zQ ⟨zT.1, zT.2⟩ hT (by omega) (by omega) ⟨by omega, by omega⟩ ⟨by omega, by omega⟩) rfl (by omega) (by omega) (by omega) rfl rfl (Nat.le_of_ble_eq_true rfl) (retE fun zv4 zq4 zp4 => ?_)
  obtain ⟨nu4, zv4_, zQ4, znu4, zF4⟩ := zp4
  subst zv4_
  obtain ⟨za1, zb1, zc1_, zd1, ze1⟩ := nuS_b (b := b) (n := n) (i := i) (lo := 0) (hi := 20) (by omega) (by omega)
  have zT_q4 := (zF4 _ (by first | (simp; done) | (simp; omega))).trans zT.1
  have zT2_q4 := (zF4 _ (by first | (simp; done) | (simp; omega))).trans zT.2
  have zQ4_q4 := (zF4 _ (by first | (simp; done) | (simp; omega))).trans zA.1
  have zQ5_q4 := (zF4 _ (by first | (simp; done) | (simp; omega))).trans zA.2.1
  have zQ6_q4 := (zF4 _ (by first | (simp; done) | (simp; omega))).trans zA.2.2.1
  have zQ7_q4 := (zF4 _ (by first | (simp; done) | (simp; omega))).trans zA.2.2.2.1
  have zQ8_q4 := (zF4 _ (by first | (simp; done) | (simp; omega))).trans zA.2.2.2.2
  refine j_if_ne (b := 0) (tgt := 12) hc dX1_readsMice_7 (by decide) (by split <;> exact ⟨by omega, by omega⟩) (fun zc1 => ?_) (fun zc1 => ?_)
  · have zu1 : (nuS b n i 0 20).1 = -1 := one_pos zc1
    have zQ4g : LrO zq4 (nuS b n i 0 20).2.1 (-1) (nuS b n i 0 20).2.2 X := by
      have zz := zQ4
      rw [znu4 zu1, zu1] at zz
      exact zz
    have ze1 := ze1 zu1
    refine j_aload_n hc dX1_readsMice_12 rfl ?_
    refine j_get hc dX1_readsMice_13 fX1_96 zQ4g rfl ?_
    refine j_iconst hc dX1_readsMice_16 ?_
    refine j_icmp_ne (tgt := 31) hc dX1_readsMice_17 (by decide) ⟨by omega, by omega⟩ ⟨by omega, by omega⟩ (fun zc2 => ?_) (fun zc2 => ?_)
    · refine j_aload_n hc dX1_readsMice_31 rfl ?_
      refine j_aload_n hc dX1_readsMice_32 rfl ?_
      refine j_get hc dX1_readsMice_33 fX1_96 zQ4g rfl ?_
      refine j_put (fs' := [_, _, _, _, _, _, _, _, _, _, _, _, _, _, _]) hc dX1_readsMice_36 pX1_68 zQ4g rfl rfl ?_
      generalize ezh1 : up _ _ _ = zh1
      have zQ_zh1 := (congrFun ezh1 _).symm.trans (up_same _ _ _)
      have zT_zh1 := (congrFun ezh1 _).symm.trans ((up_ne (by simp)).trans zT_q4)
      have zT2_zh1 := (congrFun ezh1 _).symm.trans ((up_ne (by simp)).trans zT2_q4)
      have zQ4_zh1 := (congrFun ezh1 _).symm.trans ((up_ne (by simp)).trans zQ4_q4)
      have zQ5_zh1 := (congrFun ezh1 _).symm.trans ((up_ne (by simp)).trans zQ5_q4)
      have zQ6_zh1 := (congrFun ezh1 _).symm.trans ((up_ne (by simp)).trans zQ6_q4)
      have zQ7_zh1 := (congrFun ezh1 _).symm.trans ((up_ne (by simp)).trans zQ7_q4)
      have zQ8_zh1 := (congrFun ezh1 _).symm.trans ((up_ne (by simp)).trans zQ8_q4)
      refine j_iconst hc dX1_readsMice_39 ?_
      have zeq := (show stM b n i X = _ by unfold stM; rw [if_neg (fun zz => zz zu1), if_neg (by assumption)])
      exact j_zret hc he dX1_readsMice_40 rfl (by omega) (by omega) (Or.inr rfl) ⟨_, rfl, RdP.good zeq zQ_zh1 ⟨zQ4_zh1, zQ5_zh1, zQ6_zh1, zQ7_zh1, zQ8_zh1⟩ (by omega) (by omega) ((by rw [← ezh1]; exact Fr.push (Fr.tr (Fr.rf isLr _) (zF4.mono fun z zz => (by rw [zz]; exact ⟨by decide, by decide⟩))) ⟨by decide, by decide⟩))⟩
    · refine j_aload_n hc dX1_readsMice_20 rfl ?_
      refine j_aload_n hc dX1_readsMice_21 rfl ?_
      refine j_get hc dX1_readsMice_22 fX1_99 zQ4g rfl ?_
      refine j_iconst hc dX1_readsMice_25 ?_
      refine j_isub hc dX1_readsMice_26 ?_
      refine j_callU (d' := d - 1) hc dX1_readsMice_27 uX1_102_c1 zQ4g (ev_X3_isWrongAt_c1 (by omega) zQ4g) rfl (by omega) (by omega) (by omega) rfl rfl (Nat.le_of_ble_eq_true rfl) (retE fun zv27 zq27 zp27 => ?_)
      obtain ⟨zv27_, zQw, zFw⟩ := zp27
      subst zv27_
      have zT_qw := (zFw _ (by first | (simp; done) | (simp; omega))).trans zT_q4
      have zT2_qw := (zFw _ (by first | (simp; done) | (simp; omega))).trans zT2_q4
      have zQ4_qw := (zFw _ (by first | (simp; done) | (simp; omega))).trans zQ4_q4
      have zQ5_qw := (zFw _ (by first | (simp; done) | (simp; omega))).trans zQ5_q4
      have zQ6_qw := (zFw _ (by first | (simp; done) | (simp; omega))).trans zQ6_q4
      have zQ7_qw := (zFw _ (by first | (simp; done) | (simp; omega))).trans zQ7_q4
      have zQ8_qw := (zFw _ (by first | (simp; done) | (simp; omega))).trans zQ8_q4
      exact j_zret hc he dX1_readsMice_30 rfl (by omega) (by omega) (Or.inl rfl) ⟨_, rfl, RdP.bad (f := (nuS b n i 0 20).2.1 - 1) (by unfold stM; rw [if_neg (fun zz => zz zu1), if_pos (by assumption)]) (by omega) zQw ⟨zQ4_qw, zQ5_qw, zQ6_qw, zQ7_qw, zQ8_qw⟩ (by omega) (by omega) (Fr.tr (Fr.tr (Fr.rf isLr _) (zF4.mono fun z zz => (by rw [zz]; exact ⟨by decide, by decide⟩))) (zFw.mono fun z zz => (by rw [zz]; exact ⟨by decide, by decide⟩)))⟩
  · have zu1 : ¬ (nuS b n i 0 20).1 = -1 := one_neg zc1
    refine j_iconst hc dX1_readsMice_10 ?_
    exact j_zret hc he dX1_readsMice_11 rfl (by omega) (by omega) (Or.inl rfl) ⟨_, rfl, RdP.bad (f := (nuS b n i 0 20).1) (by unfold stM; rw [if_pos zu1]) zu1 zQ4 ⟨zQ4_q4, zQ5_q4, zQ6_q4, zQ7_q4, zQ8_q4⟩ (by omega) (by omega) (Fr.tr (Fr.rf isLr _) (zF4.mono fun z zz => (by rw [zz]; exact ⟨by decide, by decide⟩)))⟩
set_option maxRecDepth 100000 in
set_option maxHeartbeats 4000000 in
theorem ev_X1_readsYear {k : WC} {d : Nat} {h : AH} {b : Int → Int} {n i nu : Int} {X : DrS} (hd : 3 ≤ d) (zQ : LrO h i (-1) nu X) (zA : LrA h X) (zT : TpA h b n) (hT : TpOK b n) (hi0 : 0 ≤ i) (hi1 : i ≤ n)  : Ev k d mdX1_readsYear h [vR (3, 0)] 0 0 (pe fun v h' => ∃ (i' nu' : Int) (X' : DrS), v = vI (if (nuS b n i 1 4).1 = -1 then 1 else 0) ∧ LrO h' i' (nuS b n i 1 4).1 nu' X' ∧ LrA h' X' ∧ ((nuS b n i 1 4).1 = -1 → i' = (nuS b n i 1 4).2.1 ∧ X' = xYe X (nuS b n i 1 4).2.2) ∧ 0 ≤ i' ∧ i' ≤ n ∧ Fr isLr h h') := by
  obtain ⟨hn0, hn1, hb⟩ := id hT
  refine Ev.mk (by decide +kernel) [_] rfl (Nat.le_of_ble_eq_true rfl) (fun w hc he => ?_)
  refine j_aload_n hc dX1_readsYear_0 rfl ?_
  refine j_iconst hc dX1_readsYear_1 ?_
  refine j_iconst hc dX1_readsYear_2 ?_
  refine j_callV (d' := d - 1) hc dX1_readsYear_3 vX1_92 zQ (ev_X1_readsNumber (b := b) (n := n) (i := i) (lo := 1) (hi := 4) (X := X) (by omega) zQ ⟨zT.1, zT.2⟩ hT (by omega) (by omega) ⟨by omega, by omega⟩ ⟨by omega, by omega⟩) rfl (by omega) (by omega) (by omega) rfl rfl (Nat.le_of_ble_eq_true rfl) (retE fun zv3 zq3 zp3 => ?_)
  obtain ⟨nu3, zv3_, zQ3, znu3, zF3⟩ := zp3
  subst zv3_
  obtain ⟨za1, zb1, zc1_, zd1, ze1⟩ := nuS_b (b := b) (n := n) (i := i) (lo := 1) (hi := 4) (by omega) (by omega)
  have zT_q3 := (zF3 _ (by first | (simp; done) | (simp; omega))).trans zT.1
  have zT2_q3 := (zF3 _ (by first | (simp; done) | (simp; omega))).trans zT.2
  have zQ4_q3 := (zF3 _ (by first | (simp; done) | (simp; omega))).trans zA.1
  have zQ5_q3 := (zF3 _ (by first | (simp; done) | (simp; omega))).trans zA.2.1
  have zQ6_q3 := (zF3 _ (by first | (simp; done) | (simp; omega))).trans zA.2.2.1
  have zQ7_q3 := (zF3 _ (by first | (simp; done) | (simp; omega))).trans zA.2.2.2.1
  have zQ8_q3 := (zF3 _ (by first | (simp; done) | (simp; omega))).trans zA.2.2.2.2
  refine j_if_ne (b := 0) (tgt := 11) hc dX1_readsYear_6 (by decide) (by split <;> exact ⟨by omega, by omega⟩) (fun zc1 => ?_) (fun zc1 => ?_)
  · have zu1 : (nuS b n i 1 4).1 = -1 := one_pos zc1
    have zQ3g : LrO zq3 (nuS b n i 1 4).2.1 (-1) (nuS b n i 1 4).2.2 X := by
      have zz := zQ3
      rw [znu3 zu1, zu1] at zz
      exact zz
    have ze1 := ze1 zu1
    refine j_aload_n hc dX1_readsYear_11 rfl ?_
    refine j_aload_n hc dX1_readsYear_12 rfl ?_
    refine j_get hc dX1_readsYear_13 fX1_96 zQ3g rfl ?_
    refine j_put (fs' := [_, _, _, _, _, _, _, _, _, _, _, _, _, _, _]) hc dX1_readsYear_16 pX1_58 zQ3g rfl rfl ?_
    generalize ezh1 : up _ _ _ = zh1
    have zQ_zh1 := (congrFun ezh1 _).symm.trans (up_same _ _ _)
    have zT_zh1 := (congrFun ezh1 _).symm.trans ((up_ne (by simp)).trans zT_q3)
    have zT2_zh1 := (congrFun ezh1 _).symm.trans ((up_ne (by simp)).trans zT2_q3)
    have zQ4_zh1 := (congrFun ezh1 _).symm.trans ((up_ne (by simp)).trans zQ4_q3)
    have zQ5_zh1 := (congrFun ezh1 _).symm.trans ((up_ne (by simp)).trans zQ5_q3)
    have zQ6_zh1 := (congrFun ezh1 _).symm.trans ((up_ne (by simp)).trans zQ6_q3)
    have zQ7_zh1 := (congrFun ezh1 _).symm.trans ((up_ne (by simp)).trans zQ7_q3)
    have zQ8_zh1 := (congrFun ezh1 _).symm.trans ((up_ne (by simp)).trans zQ8_q3)
    refine j_iconst hc dX1_readsYear_19 ?_
    exact j_zret hc he dX1_readsYear_20 rfl (by omega) (by omega) (Or.inr rfl) ⟨_, rfl, (nuS b n i 1 4).2.1, _, xYe X (nuS b n i 1 4).2.2, by rw [if_pos zu1], by rw [zu1]; exact zQ_zh1, ⟨zQ4_zh1, zQ5_zh1, zQ6_zh1, zQ7_zh1, zQ8_zh1⟩, fun _ => ⟨rfl, rfl⟩, by omega, by omega, (by rw [← ezh1]; exact Fr.push (Fr.tr (Fr.rf isLr _) (zF3.mono fun z zz => (by rw [zz]; exact ⟨by decide, by decide⟩))) ⟨by decide, by decide⟩)⟩
  · have zu1 : ¬ (nuS b n i 1 4).1 = -1 := one_neg zc1
    refine j_iconst hc dX1_readsYear_9 ?_
    exact j_zret hc he dX1_readsYear_10 rfl (by omega) (by omega) (Or.inl rfl) ⟨_, rfl, _, nu3, _, by rw [if_neg zu1], zQ3, ⟨zQ4_q3, zQ5_q3, zQ6_q3, zQ7_q3, zQ8_q3⟩, fun zz => absurd zz zu1, by omega, by omega, Fr.tr (Fr.rf isLr _) (zF3.mono fun z zz => (by rw [zz]; exact ⟨by decide, by decide⟩))⟩
set_option maxRecDepth 100000 in
set_option maxHeartbeats 4000000 in
theorem ev_X1_readsEaters {k : WC} {d : Nat} {h : AH} {b : Int → Int} {n i nu : Int} {X : DrS} (hd : 3 ≤ d) (zQ : LrO h i (-1) nu X) (zA : LrA h X) (zT : TpA h b n) (hT : TpOK b n) (hi0 : 0 ≤ i) (hi1 : i ≤ n) (hX : XOK X) (hi9 : 1 ≤ i) : Ev k d mdX1_readsEaters h [vR (3, 0)] 0 0 (pe fun v h' => RdP (stW b n i X) n h h' v) := by
  obtain ⟨hn0, hn1, hb⟩ := id hT
  obtain ⟨x1, x2, x3, x4, x5, x6, x7, x8, x9, x10, x11, x12, x13, x14, x15, x16⟩ := id hX
  refine Ev.mk (by decide +kernel) [_, _] rfl (Nat.le_of_ble_eq_true rfl) (fun w hc he => ?_)
  refine j_aload_n hc dX1_readsEaters_0 rfl ?_
  refine j_dup hc dX1_readsEaters_1 rfl ?_
  refine j_get hc dX1_readsEaters_2 fX1_74 zQ rfl ?_
  refine j_iconst hc dX1_readsEaters_5 ?_
  refine j_iadd hc dX1_readsEaters_6 ?_
  refine j_put (fs' := [_, _, _, _, _, _, _, _, _, _, _, _, _, _, _]) hc dX1_readsEaters_7 pX1_74 zQ rfl rfl ?_
  generalize ezh1 : up _ _ _ = zh1
  have zQ_zh1 := (congrFun ezh1 _).symm.trans (up_same _ _ _)
  have zT_zh1 := (congrFun ezh1 _).symm.trans ((up_ne (by simp)).trans zT.1)
  have zT2_zh1 := (congrFun ezh1 _).symm.trans ((up_ne (by simp)).trans zT.2)
  have zQ4_zh1 := (congrFun ezh1 _).symm.trans ((up_ne (by simp)).trans zA.1)
  have zQ5_zh1 := (congrFun ezh1 _).symm.trans ((up_ne (by simp)).trans zA.2.1)
  have zQ6_zh1 := (congrFun ezh1 _).symm.trans ((up_ne (by simp)).trans zA.2.2.1)
  have zQ7_zh1 := (congrFun ezh1 _).symm.trans ((up_ne (by simp)).trans zA.2.2.2.1)
  have zQ8_zh1 := (congrFun ezh1 _).symm.trans ((up_ne (by simp)).trans zA.2.2.2.2)
  refine j_aload_n hc dX1_readsEaters_10 rfl ?_
  refine j_get hc dX1_readsEaters_11 fX1_74 zQ_zh1 rfl ?_
  refine j_bipush hc dX1_readsEaters_14 (by decide) ?_
  refine j_icmp_le (tgt := 30) hc dX1_readsEaters_16 (by decide) ⟨by omega, by omega⟩ ⟨by omega, by omega⟩ (fun zc1 => ?_) (fun zc1 => ?_)
  · refine j_aload_n hc dX1_readsEaters_30 rfl ?_
    refine j_iconst hc dX1_readsEaters_31 ?_
    refine j_bipush hc dX1_readsEaters_32 (by decide) ?_
    refine j_callV (d' := d - 1) hc dX1_readsEaters_34 vX1_92 zQ_zh1 (ev_X1_readsNumber (b := b) (n := n) (i := i) (lo := 1) (hi := 99) (X := (xSe X, xEa X, xCo X, xMi X, xRo X, xSw X + 1, xCn X, xHv X, xWs X, xSk X, xWt X)) (by omega) zQ_zh1 ⟨zT_zh1, zT2_zh1⟩ hT (by omega) (by omega) ⟨by omega, by omega⟩ ⟨by omega, by omega⟩) rfl (by omega) (by omega) (by omega) rfl rfl (Nat.le_of_ble_eq_true rfl) (retE fun zv34 zq34 zp34 => ?_)
    obtain ⟨nu34, zv34_, zQ34, znu34, zF34⟩ := zp34
    subst zv34_
    obtain ⟨za1, zb1, zc1_, zd1, ze1⟩ := nuS_b (b := b) (n := n) (i := i) (lo := 1) (hi := 99) (by omega) (by omega)
    have zT_q34 := (zF34 _ (by first | (simp; done) | (simp; omega))).trans zT_zh1
    have zT2_q34 := (zF34 _ (by first | (simp; done) | (simp; omega))).trans zT2_zh1
    have zQ4_q34 := (zF34 _ (by first | (simp; done) | (simp; omega))).trans zQ4_zh1
    have zQ5_q34 := (zF34 _ (by first | (simp; done) | (simp; omega))).trans zQ5_zh1
    have zQ6_q34 := (zF34 _ (by first | (simp; done) | (simp; omega))).trans zQ6_zh1
    have zQ7_q34 := (zF34 _ (by first | (simp; done) | (simp; omega))).trans zQ7_zh1
    have zQ8_q34 := (zF34 _ (by first | (simp; done) | (simp; omega))).trans zQ8_zh1
    refine j_if_ne (b := 0) (tgt := 42) hc dX1_readsEaters_37 (by decide) (by split <;> exact ⟨by omega, by omega⟩) (fun zc2 => ?_) (fun zc2 => ?_)
    · have zu1 : (nuS b n i 1 99).1 = -1 := one_pos zc2
      have zQ34g : LrO zq34 (nuS b n i 1 99).2.1 (-1) (nuS b n i 1 99).2.2 (xSe X, xEa X, xCo X, xMi X, xRo X, xSw X + 1, xCn X, xHv X, xWs X, xSk X, xWt X) := by
        have zz := zQ34
        rw [znu34 zu1, zu1] at zz
        exact zz
      have ze1 := ze1 zu1
      refine j_aload_n hc dX1_readsEaters_42 rfl ?_
      refine j_get hc dX1_readsEaters_43 fX1_96 zQ34g rfl ?_
      refine j_istore_n (L' := [_, _]) hc dX1_readsEaters_46 (Nat.le_of_ble_eq_true rfl) rfl ?_
      refine j_aload_n hc dX1_readsEaters_47 rfl ?_
      refine j_iconst hc dX1_readsEaters_48 ?_
      refine j_bipush hc dX1_readsEaters_49 (by decide) ?_
      refine j_callV (d' := d - 1) hc dX1_readsEaters_51 vX1_92 zQ34g (ev_X1_readsNumber (b := b) (n := n) (i := (nuS b n i 1 99).2.1) (lo := 1) (hi := 9) (X := (xSe X, xEa X, xCo X, xMi X, xRo X, xSw X + 1, xCn X, xHv X, xWs X, xSk X, xWt X)) (by omega) zQ34g ⟨zT_q34, zT2_q34⟩ hT (by omega) (by omega) ⟨by omega, by omega⟩ ⟨by omega, by omega⟩) rfl (by omega) (by omega) (by omega) rfl rfl (Nat.le_of_ble_eq_true rfl) (retE fun zv51 zq51 zp51 => ?_)
      obtain ⟨nu51, zv51_, zQ51, znu51, zF51⟩ := zp51
      subst zv51_
      obtain ⟨za2, zb2, zc2_, zd2, ze2⟩ := nuS_b (b := b) (n := n) (i := (nuS b n i 1 99).2.1) (lo := 1) (hi := 9) (by omega) (by omega)
      have zT_q51 := (zF51 _ (by first | (simp; done) | (simp; omega))).trans zT_q34
      have zT2_q51 := (zF51 _ (by first | (simp; done) | (simp; omega))).trans zT2_q34
      have zQ4_q51 := (zF51 _ (by first | (simp; done) | (simp; omega))).trans zQ4_q34
      have zQ5_q51 := (zF51 _ (by first | (simp; done) | (simp; omega))).trans zQ5_q34
      have zQ6_q51 := (zF51 _ (by first | (simp; done) | (simp; omega))).trans zQ6_q34
      have zQ7_q51 := (zF51 _ (by first | (simp; done) | (simp; omega))).trans zQ7_q34
      have zQ8_q51 := (zF51 _ (by first | (simp; done) | (simp; omega))).trans zQ8_q34
      refine j_if_ne (b := 0) (tgt := 59) hc dX1_readsEaters_54 (by decide) (by split <;> exact ⟨by omega, by omega⟩) (fun zc3 => ?_) (fun zc3 => ?_)
      · have zu2 : (nuS b n (nuS b n i 1 99).2.1 1 9).1 = -1 := one_pos zc3
        have zQ51g : LrO zq51 (nuS b n (nuS b n i 1 99).2.1 1 9).2.1 (-1) (nuS b n (nuS b n i 1 99).2.1 1 9).2.2 (xSe X, xEa X, xCo X, xMi X, xRo X, xSw X + 1, xCn X, xHv X, xWs X, xSk X, xWt X) := by
          have zz := zQ51
          rw [znu51 zu2, zu2] at zz
          exact zz
        have ze2 := ze2 zu2
        refine j_aload_n hc dX1_readsEaters_59 rfl ?_
        refine j_get hc dX1_readsEaters_60 fX1_9 zQ51g rfl ?_
        refine j_iload_n hc dX1_readsEaters_63 rfl ?_
        have zpay := x15 (nuS b n i 1 99).2.2 (by omega) (by omega)
        refine j_dup2 hc dX1_readsEaters_64 rfl rfl ?_
        refine j_iald hc dX1_readsEaters_65 zQ4_q51 (by omega) (by omega) ?_
        refine j_aload_n hc dX1_readsEaters_66 rfl ?_
        refine j_get hc dX1_readsEaters_67 fX1_96 zQ51g rfl ?_
        refine j_iadd hc dX1_readsEaters_70 ?_
        refine j_iast hc dX1_readsEaters_71 zQ4_q51 (by omega) (by omega) ?_
        generalize ezh2 : up _ _ _ = zh2
        have zQ_zh2 := (congrFun ezh2 _).symm.trans ((up_ne (by simp)).trans zQ51g)
        have zT_zh2 := (congrFun ezh2 _).symm.trans ((up_ne (by simp)).trans zT_q51)
        have zT2_zh2 := (congrFun ezh2 _).symm.trans ((up_ne (by simp)).trans zT2_q51)
        have zQ4_zh2 := (congrFun ezh2 _).symm.trans (up_same _ _ _)
        have zQ5_zh2 := (congrFun ezh2 _).symm.trans ((up_ne (by simp)).trans zQ5_q51)
        have zQ6_zh2 := (congrFun ezh2 _).symm.trans ((up_ne (by simp)).trans zQ6_q51)
        have zQ7_zh2 := (congrFun ezh2 _).symm.trans ((up_ne (by simp)).trans zQ7_q51)
        have zQ8_zh2 := (congrFun ezh2 _).symm.trans ((up_ne (by simp)).trans zQ8_q51)
        refine j_aload_n hc dX1_readsEaters_72 rfl ?_
        refine j_dup hc dX1_readsEaters_73 rfl ?_
        refine j_get hc dX1_readsEaters_74 fX1_62 zQ_zh2 rfl ?_
        refine j_aload_n hc dX1_readsEaters_77 rfl ?_
        refine j_get hc dX1_readsEaters_78 fX1_96 zQ_zh2 rfl ?_
        refine j_iadd hc dX1_readsEaters_81 ?_
        refine j_put (fs' := [_, _, _, _, _, _, _, _, _, _, _, _, _, _, _]) hc dX1_readsEaters_82 pX1_62 zQ_zh2 rfl rfl ?_
        generalize ezh3 : up _ _ _ = zh3
        have zQ_zh3 := (congrFun ezh3 _).symm.trans (up_same _ _ _)
        have zT_zh3 := (congrFun ezh3 _).symm.trans ((up_ne (by simp)).trans zT_zh2)
        have zT2_zh3 := (congrFun ezh3 _).symm.trans ((up_ne (by simp)).trans zT2_zh2)
        have zQ4_zh3 := (congrFun ezh3 _).symm.trans ((up_ne (by simp)).trans zQ4_zh2)
        have zQ5_zh3 := (congrFun ezh3 _).symm.trans ((up_ne (by simp)).trans zQ5_zh2)
        have zQ6_zh3 := (congrFun ezh3 _).symm.trans ((up_ne (by simp)).trans zQ6_zh2)
        have zQ7_zh3 := (congrFun ezh3 _).symm.trans ((up_ne (by simp)).trans zQ7_zh2)
        have zQ8_zh3 := (congrFun ezh3 _).symm.trans ((up_ne (by simp)).trans zQ8_zh2)
        refine j_iconst hc dX1_readsEaters_85 ?_
        have zeq := (show stW b n i X = _ by unfold stW; rw [if_neg (by omega), if_neg (fun zz => zz zu1), if_neg (fun zz => zz zu2)])
        exact j_zret hc he dX1_readsEaters_86 rfl (by omega) (by omega) (Or.inr rfl) ⟨_, rfl, RdP.good zeq zQ_zh3 ⟨zQ4_zh3, zQ5_zh3, zQ6_zh3, zQ7_zh3, zQ8_zh3⟩ (by omega) (by omega) ((by rw [← ezh3]; exact Fr.push ((by rw [← ezh2]; exact Fr.push (Fr.tr (Fr.tr ((by rw [← ezh1]; exact Fr.push (Fr.rf isLr _) ⟨by decide, by decide⟩)) (zF34.mono fun z zz => (by rw [zz]; exact ⟨by decide, by decide⟩))) (zF51.mono fun z zz => (by rw [zz]; exact ⟨by decide, by decide⟩))) ⟨by decide, by decide⟩)) ⟨by decide, by decide⟩))⟩
      · have zu2 : ¬ (nuS b n (nuS b n i 1 99).2.1 1 9).1 = -1 := one_neg zc3
        refine j_iconst hc dX1_readsEaters_57 ?_
        exact j_zret hc he dX1_readsEaters_58 rfl (by omega) (by omega) (Or.inl rfl) ⟨_, rfl, RdP.bad (f := (nuS b n (nuS b n i 1 99).2.1 1 9).1) (by unfold stW; rw [if_neg (by omega), if_neg (fun zz => zz zu1), if_pos zu2]) zu2 zQ51 ⟨zQ4_q51, zQ5_q51, zQ6_q51, zQ7_q51, zQ8_q51⟩ (by omega) (by omega) (Fr.tr (Fr.tr ((by rw [← ezh1]; exact Fr.push (Fr.rf isLr _) ⟨by decide, by decide⟩)) (zF34.mono fun z zz => (by rw [zz]; exact ⟨by decide, by decide⟩))) (zF51.mono fun z zz => (by rw [zz]; exact ⟨by decide, by decide⟩)))⟩
    · have zu1 : ¬ (nuS b n i 1 99).1 = -1 := one_neg zc2
      refine j_iconst hc dX1_readsEaters_40 ?_
      exact j_zret hc he dX1_readsEaters_41 rfl (by omega) (by omega) (Or.inl rfl) ⟨_, rfl, RdP.bad (f := (nuS b n i 1 99).1) (by unfold stW; rw [if_neg (by omega), if_pos zu1]) zu1 zQ34 ⟨zQ4_q34, zQ5_q34, zQ6_q34, zQ7_q34, zQ8_q34⟩ (by omega) (by omega) (Fr.tr ((by rw [← ezh1]; exact Fr.push (Fr.rf isLr _) ⟨by decide, by decide⟩)) (zF34.mono fun z zz => (by rw [zz]; exact ⟨by decide, by decide⟩)))⟩
  · refine j_aload_n hc dX1_readsEaters_19 rfl ?_
    refine j_aload_n hc dX1_readsEaters_20 rfl ?_
    refine j_get hc dX1_readsEaters_21 fX1_99 zQ_zh1 rfl ?_
    refine j_iconst hc dX1_readsEaters_24 ?_
    refine j_isub hc dX1_readsEaters_25 ?_
    refine j_callU (d' := d - 1) hc dX1_readsEaters_26 uX1_102_c1 zQ_zh1 (ev_X3_isWrongAt_c1 (by omega) zQ_zh1) rfl (by omega) (by omega) (by omega) rfl rfl (Nat.le_of_ble_eq_true rfl) (retE fun zv26 zq26 zp26 => ?_)
    obtain ⟨zv26_, zQw, zFw⟩ := zp26
    subst zv26_
    have zT_qw := (zFw _ (by first | (simp; done) | (simp; omega))).trans zT_zh1
    have zT2_qw := (zFw _ (by first | (simp; done) | (simp; omega))).trans zT2_zh1
    have zQ4_qw := (zFw _ (by first | (simp; done) | (simp; omega))).trans zQ4_zh1
    have zQ5_qw := (zFw _ (by first | (simp; done) | (simp; omega))).trans zQ5_zh1
    have zQ6_qw := (zFw _ (by first | (simp; done) | (simp; omega))).trans zQ6_zh1
    have zQ7_qw := (zFw _ (by first | (simp; done) | (simp; omega))).trans zQ7_zh1
    have zQ8_qw := (zFw _ (by first | (simp; done) | (simp; omega))).trans zQ8_zh1
    exact j_zret hc he dX1_readsEaters_29 rfl (by omega) (by omega) (Or.inl rfl) ⟨_, rfl, RdP.bad (f := i - 1) (X' := (xSe X, xEa X, xCo X, xMi X, xRo X, xSw X + 1, xCn X, xHv X, xWs X, xSk X, xWt X)) (by unfold stW; rw [if_pos (by omega)]) (by omega) zQw ⟨zQ4_qw, zQ5_qw, zQ6_qw, zQ7_qw, zQ8_qw⟩ (by omega) (by omega) (Fr.tr ((by rw [← ezh1]; exact Fr.push (Fr.rf isLr _) ⟨by decide, by decide⟩)) (zFw.mono fun z zz => (by rw [zz]; exact ⟨by decide, by decide⟩)))⟩
set_option maxRecDepth 100000 in
set_option maxHeartbeats 4000000 in
theorem ev_X1_readsHarvest {k : WC} {d : Nat} {h : AH} {b : Int → Int} {n i nu : Int} {X : DrS} (hd : 3 ≤ d) (zQ : LrO h i (-1) nu X) (zA : LrA h X) (zT : TpA h b n) (hT : TpOK b n) (hi0 : 0 ≤ i) (hi1 : i ≤ n) (hX : XOK X) (hi9 : 1 ≤ i) : Ev k d mdX1_readsHarvest h [vR (3, 0)] 0 0 (pe fun v h' => RdP (stH b n i X) n h h' v) := by
  obtain ⟨hn0, hn1, hb⟩ := id hT
  obtain ⟨x1, x2, x3, x4, x5, x6, x7, x8, x9, x10, x11, x12, x13, x14, x15, x16⟩ := id hX
  refine Ev.mk (by decide +kernel) [_, _, _] rfl (Nat.le_of_ble_eq_true rfl) (fun w hc he => ?_)
  refine j_aload_n hc dX1_readsHarvest_0 rfl ?_
  refine j_iconst hc dX1_readsHarvest_1 ?_
  refine j_aload_n hc dX1_readsHarvest_2 rfl ?_
  refine j_get hc dX1_readsHarvest_3 fX1_58 zQ rfl ?_
  refine j_iconst hc dX1_readsHarvest_6 ?_
  refine j_isub hc dX1_readsHarvest_7 ?_
  refine j_callV (d' := d - 1) hc dX1_readsHarvest_8 vX1_92 zQ (ev_X1_readsNumber (b := b) (n := n) (i := i) (lo := 0) (hi := (xSe X - 1)) (X := X) (by omega) zQ ⟨zT.1, zT.2⟩ hT (by omega) (by omega) ⟨by omega, by omega⟩ ⟨by omega, by omega⟩) rfl (by omega) (by omega) (by omega) rfl rfl (Nat.le_of_ble_eq_true rfl) (retE fun zv8 zq8 zp8 => ?_)
  obtain ⟨nu8, zv8_, zQ8, znu8, zF8⟩ := zp8
  subst zv8_
  obtain ⟨za1, zb1, zc1_, zd1, ze1⟩ := nuS_b (b := b) (n := n) (i := i) (lo := 0) (hi := (xSe X - 1)) (by omega) (by omega)
  have zT_q8 := (zF8 _ (by first | (simp; done) | (simp; omega))).trans zT.1
  have zT2_q8 := (zF8 _ (by first | (simp; done) | (simp; omega))).trans zT.2
  have zQ4_q8 := (zF8 _ (by first | (simp; done) | (simp; omega))).trans zA.1
  have zQ5_q8 := (zF8 _ (by first | (simp; done) | (simp; omega))).trans zA.2.1
  have zQ6_q8 := (zF8 _ (by first | (simp; done) | (simp; omega))).trans zA.2.2.1
  have zQ7_q8 := (zF8 _ (by first | (simp; done) | (simp; omega))).trans zA.2.2.2.1
  have zQ8_q8 := (zF8 _ (by first | (simp; done) | (simp; omega))).trans zA.2.2.2.2
  refine j_if_ne (b := 0) (tgt := 16) hc dX1_readsHarvest_11 (by decide) (by split <;> exact ⟨by omega, by omega⟩) (fun zc1 => ?_) (fun zc1 => ?_)
  · have zu1 : (nuS b n i 0 (xSe X - 1)).1 = -1 := one_pos zc1
    have zQ8g : LrO zq8 (nuS b n i 0 (xSe X - 1)).2.1 (-1) (nuS b n i 0 (xSe X - 1)).2.2 X := by
      have zz := zQ8
      rw [znu8 zu1, zu1] at zz
      exact zz
    have ze1 := ze1 zu1
    obtain ⟨zy1, zy2, zy3, zy4, zy5, zy6⟩ := x16 (nuS b n i 0 (xSe X - 1)).2.2 (by omega) (by omega)
    refine j_aload_n hc dX1_readsHarvest_16 rfl ?_
    refine j_get hc dX1_readsHarvest_17 fX1_96 zQ8g rfl ?_
    refine j_istore_n (L' := [_, _, _]) hc dX1_readsHarvest_20 (Nat.le_of_ble_eq_true rfl) rfl ?_
    refine j_aload_n hc dX1_readsHarvest_21 rfl ?_
    refine j_get hc dX1_readsHarvest_22 fX1_15 zQ8g rfl ?_
    refine j_iload_n hc dX1_readsHarvest_25 rfl ?_
    refine j_iald hc dX1_readsHarvest_26 zQ5_q8 (by omega) (by omega) ?_
    refine j_iconst hc dX1_readsHarvest_27 ?_
    refine j_icmp_lt (tgt := 42) hc dX1_readsHarvest_28 (by decide) ⟨by omega, by omega⟩ ⟨by omega, by omega⟩ (fun zc2 => ?_) (fun zc2 => ?_)
    · refine j_aload_n hc dX1_readsHarvest_42 rfl ?_
      refine j_iconst hc dX1_readsHarvest_43 ?_
      refine j_bipush hc dX1_readsHarvest_44 (by decide) ?_
      refine j_callV (d' := d - 1) hc dX1_readsHarvest_46 vX1_92 zQ8g (ev_X1_readsNumber (b := b) (n := n) (i := (nuS b n i 0 (xSe X - 1)).2.1) (lo := 0) (hi := 20) (X := X) (by omega) zQ8g ⟨zT_q8, zT2_q8⟩ hT (by omega) (by omega) ⟨by omega, by omega⟩ ⟨by omega, by omega⟩) rfl (by omega) (by omega) (by omega) rfl rfl (Nat.le_of_ble_eq_true rfl) (retE fun zv46 zq46 zp46 => ?_)
      obtain ⟨nu46, zv46_, zQ46, znu46, zF46⟩ := zp46
      subst zv46_
      obtain ⟨za2, zb2, zc2_, zd2, ze2⟩ := nuS_b (b := b) (n := n) (i := (nuS b n i 0 (xSe X - 1)).2.1) (lo := 0) (hi := 20) (by omega) (by omega)
      have zT_q46 := (zF46 _ (by first | (simp; done) | (simp; omega))).trans zT_q8
      have zT2_q46 := (zF46 _ (by first | (simp; done) | (simp; omega))).trans zT2_q8
      have zQ4_q46 := (zF46 _ (by first | (simp; done) | (simp; omega))).trans zQ4_q8
      have zQ5_q46 := (zF46 _ (by first | (simp; done) | (simp; omega))).trans zQ5_q8
      have zQ6_q46 := (zF46 _ (by first | (simp; done) | (simp; omega))).trans zQ6_q8
      have zQ7_q46 := (zF46 _ (by first | (simp; done) | (simp; omega))).trans zQ7_q8
      have zQ8_q46 := (zF46 _ (by first | (simp; done) | (simp; omega))).trans zQ8_q8
      refine j_if_ne (b := 0) (tgt := 54) hc dX1_readsHarvest_49 (by decide) (by split <;> exact ⟨by omega, by omega⟩) (fun zc3 => ?_) (fun zc3 => ?_)
      · have zu2 : (nuS b n (nuS b n i 0 (xSe X - 1)).2.1 0 20).1 = -1 := one_pos zc3
        have zQ46g : LrO zq46 (nuS b n (nuS b n i 0 (xSe X - 1)).2.1 0 20).2.1 (-1) (nuS b n (nuS b n i 0 (xSe X - 1)).2.1 0 20).2.2 X := by
          have zz := zQ46
          rw [znu46 zu2, zu2] at zz
          exact zz
        have ze2 := ze2 zu2
        refine j_iload_n hc dX1_readsHarvest_54 rfl ?_
        refine j_iconst hc dX1_readsHarvest_55 ?_
        refine j_imul hc dX1_readsHarvest_56 ?_
        refine j_aload_n hc dX1_readsHarvest_57 rfl ?_
        refine j_get hc dX1_readsHarvest_58 fX1_15 zQ46g rfl ?_
        refine j_iload_n hc dX1_readsHarvest_61 rfl ?_
        refine j_iald hc dX1_readsHarvest_62 zQ5_q46 (by omega) (by omega) ?_
        refine j_iadd hc dX1_readsHarvest_63 ?_
        refine j_istore_n (L' := [_, _, _]) hc dX1_readsHarvest_64 (Nat.le_of_ble_eq_true rfl) rfl ?_
        refine j_aload_n hc dX1_readsHarvest_65 rfl ?_
        refine j_get hc dX1_readsHarvest_66 fX1_21 zQ46g rfl ?_
        refine j_iload_n hc dX1_readsHarvest_69 rfl ?_
        refine j_aload_n hc dX1_readsHarvest_70 rfl ?_
        refine j_get hc dX1_readsHarvest_71 fX1_96 zQ46g rfl ?_
        refine j_iast hc dX1_readsHarvest_74 zQ7_q46 (by omega) (by omega) ?_
        generalize ezh1 : up _ _ _ = zh1
        have zQ_zh1 := (congrFun ezh1 _).symm.trans ((up_ne (by simp)).trans zQ46g)
        have zT_zh1 := (congrFun ezh1 _).symm.trans ((up_ne (by simp)).trans zT_q46)
        have zT2_zh1 := (congrFun ezh1 _).symm.trans ((up_ne (by simp)).trans zT2_q46)
        have zQ4_zh1 := (congrFun ezh1 _).symm.trans ((up_ne (by simp)).trans zQ4_q46)
        have zQ5_zh1 := (congrFun ezh1 _).symm.trans ((up_ne (by simp)).trans zQ5_q46)
        have zQ6_zh1 := (congrFun ezh1 _).symm.trans ((up_ne (by simp)).trans zQ6_q46)
        have zQ7_zh1 := (congrFun ezh1 _).symm.trans (up_same _ _ _)
        have zQ8_zh1 := (congrFun ezh1 _).symm.trans ((up_ne (by simp)).trans zQ8_q46)
        refine j_aload_n hc dX1_readsHarvest_75 rfl ?_
        refine j_iconst hc dX1_readsHarvest_76 ?_
        refine j_bipush hc dX1_readsHarvest_77 (by decide) ?_
        refine j_bipush hc dX1_readsHarvest_79 (by decide) ?_
        refine j_aload_n hc dX1_readsHarvest_81 rfl ?_
        refine j_get hc dX1_readsHarvest_82 fX1_18 zQ_zh1 rfl ?_
        refine j_iload_n hc dX1_readsHarvest_85 rfl ?_
        refine j_iald hc dX1_readsHarvest_86 zQ6_zh1 (by omega) (by omega) ?_
        refine j_isub hc dX1_readsHarvest_87 ?_
        refine j_mmin hc dX1_readsHarvest_88 mX1_105 mo_min ⟨by omega, by omega⟩ ⟨by omega, by omega⟩ (by omega) (by omega) rfl (by omega) (Nat.le_of_ble_eq_true rfl) ?_
        refine j_callV (d' := d - 1) hc dX1_readsHarvest_91 vX1_92 zQ_zh1 (ev_X1_readsNumber (b := b) (n := n) (i := (nuS b n (nuS b n i 0 (xSe X - 1)).2.1 0 20).2.1) (lo := 1) (hi := (min 9 (12 - xWs X (nuS b n i 0 (xSe X - 1)).2.2))) (X := X) (by omega) zQ_zh1 ⟨zT_zh1, zT2_zh1⟩ hT (by omega) (by omega) ⟨by omega, by omega⟩ ⟨by omega, by omega⟩) rfl (by omega) (by omega) (by omega) rfl rfl (Nat.le_of_ble_eq_true rfl) (retE fun zv91 zq91 zp91 => ?_)
        obtain ⟨nu91, zv91_, zQ91, znu91, zF91⟩ := zp91
        subst zv91_
        obtain ⟨za3, zb3, zc3_, zd3, ze3⟩ := nuS_b (b := b) (n := n) (i := (nuS b n (nuS b n i 0 (xSe X - 1)).2.1 0 20).2.1) (lo := 1) (hi := (min 9 (12 - xWs X (nuS b n i 0 (xSe X - 1)).2.2))) (by omega) (by omega)
        have zT_q91 := (zF91 _ (by first | (simp; done) | (simp; omega))).trans zT_zh1
        have zT2_q91 := (zF91 _ (by first | (simp; done) | (simp; omega))).trans zT2_zh1
        have zQ4_q91 := (zF91 _ (by first | (simp; done) | (simp; omega))).trans zQ4_zh1
        have zQ5_q91 := (zF91 _ (by first | (simp; done) | (simp; omega))).trans zQ5_zh1
        have zQ6_q91 := (zF91 _ (by first | (simp; done) | (simp; omega))).trans zQ6_zh1
        have zQ7_q91 := (zF91 _ (by first | (simp; done) | (simp; omega))).trans zQ7_zh1
        have zQ8_q91 := (zF91 _ (by first | (simp; done) | (simp; omega))).trans zQ8_zh1
        refine j_if_ne (b := 0) (tgt := 99) hc dX1_readsHarvest_94 (by decide) (by split <;> exact ⟨by omega, by omega⟩) (fun zc4 => ?_) (fun zc4 => ?_)
        · have zu3 : (nuS b n (nuS b n (nuS b n i 0 (xSe X - 1)).2.1 0 20).2.1 1 (min 9 (12 - xWs X (nuS b n i 0 (xSe X - 1)).2.2))).1 = -1 := one_pos zc4
          have zQ91g : LrO zq91 (nuS b n (nuS b n (nuS b n i 0 (xSe X - 1)).2.1 0 20).2.1 1 (min 9 (12 - xWs X (nuS b n i 0 (xSe X - 1)).2.2))).2.1 (-1) (nuS b n (nuS b n (nuS b n i 0 (xSe X - 1)).2.1 0 20).2.1 1 (min 9 (12 - xWs X (nuS b n i 0 (xSe X - 1)).2.2))).2.2 X := by
            have zz := zQ91
            rw [znu91 zu3, zu3] at zz
            exact zz
          have ze3 := ze3 zu3
          refine j_aload_n hc dX1_readsHarvest_99 rfl ?_
          refine j_get hc dX1_readsHarvest_100 fX1_24 zQ91g rfl ?_
          refine j_iload_n hc dX1_readsHarvest_103 rfl ?_
          refine j_aload_n hc dX1_readsHarvest_104 rfl ?_
          refine j_get hc dX1_readsHarvest_105 fX1_96 zQ91g rfl ?_
          refine j_iast hc dX1_readsHarvest_108 zQ8_q91 (by omega) (by omega) ?_
          generalize ezh2 : up _ _ _ = zh2
          have zQ_zh2 := (congrFun ezh2 _).symm.trans ((up_ne (by simp)).trans zQ91g)
          have zT_zh2 := (congrFun ezh2 _).symm.trans ((up_ne (by simp)).trans zT_q91)
          have zT2_zh2 := (congrFun ezh2 _).symm.trans ((up_ne (by simp)).trans zT2_q91)
          have zQ4_zh2 := (congrFun ezh2 _).symm.trans ((up_ne (by simp)).trans zQ4_q91)
          have zQ5_zh2 := (congrFun ezh2 _).symm.trans ((up_ne (by simp)).trans zQ5_q91)
          have zQ6_zh2 := (congrFun ezh2 _).symm.trans ((up_ne (by simp)).trans zQ6_q91)
          have zQ7_zh2 := (congrFun ezh2 _).symm.trans ((up_ne (by simp)).trans zQ7_q91)
          have zQ8_zh2 := (congrFun ezh2 _).symm.trans (up_same _ _ _)
          refine j_aload_n hc dX1_readsHarvest_109 rfl ?_
          refine j_get hc dX1_readsHarvest_110 fX1_18 zQ_zh2 rfl ?_
          refine j_iload_n hc dX1_readsHarvest_113 rfl ?_
          refine j_dup2 hc dX1_readsHarvest_114 rfl rfl ?_
          refine j_iald hc dX1_readsHarvest_115 zQ6_zh2 (by omega) (by omega) ?_
          refine j_aload_n hc dX1_readsHarvest_116 rfl ?_
          refine j_get hc dX1_readsHarvest_117 fX1_96 zQ_zh2 rfl ?_
          refine j_iadd hc dX1_readsHarvest_120 ?_
          refine j_iast hc dX1_readsHarvest_121 zQ6_zh2 (by omega) (by omega) ?_
          generalize ezh3 : up _ _ _ = zh3
          have zQ_zh3 := (congrFun ezh3 _).symm.trans ((up_ne (by simp)).trans zQ_zh2)
          have zT_zh3 := (congrFun ezh3 _).symm.trans ((up_ne (by simp)).trans zT_zh2)
          have zT2_zh3 := (congrFun ezh3 _).symm.trans ((up_ne (by simp)).trans zT2_zh2)
          have zQ4_zh3 := (congrFun ezh3 _).symm.trans ((up_ne (by simp)).trans zQ4_zh2)
          have zQ5_zh3 := (congrFun ezh3 _).symm.trans ((up_ne (by simp)).trans zQ5_zh2)
          have zQ6_zh3 := (congrFun ezh3 _).symm.trans (up_same _ _ _)
          have zQ7_zh3 := (congrFun ezh3 _).symm.trans ((up_ne (by simp)).trans zQ7_zh2)
          have zQ8_zh3 := (congrFun ezh3 _).symm.trans ((up_ne (by simp)).trans zQ8_zh2)
          refine j_aload_n hc dX1_readsHarvest_122 rfl ?_
          refine j_get hc dX1_readsHarvest_123 fX1_15 zQ_zh3 rfl ?_
          refine j_iload_n hc dX1_readsHarvest_126 rfl ?_
          refine j_dup2 hc dX1_readsHarvest_127 rfl rfl ?_
          refine j_iald hc dX1_readsHarvest_128 zQ5_zh3 (by omega) (by omega) ?_
          refine j_iconst hc dX1_readsHarvest_129 ?_
          refine j_iadd hc dX1_readsHarvest_130 ?_
          refine j_iast hc dX1_readsHarvest_131 zQ5_zh3 (by omega) (by omega) ?_
          generalize ezh4 : up _ _ _ = zh4
          have zQ_zh4 := (congrFun ezh4 _).symm.trans ((up_ne (by simp)).trans zQ_zh3)
          have zT_zh4 := (congrFun ezh4 _).symm.trans ((up_ne (by simp)).trans zT_zh3)
          have zT2_zh4 := (congrFun ezh4 _).symm.trans ((up_ne (by simp)).trans zT2_zh3)
          have zQ4_zh4 := (congrFun ezh4 _).symm.trans ((up_ne (by simp)).trans zQ4_zh3)
          have zQ5_zh4 := (congrFun ezh4 _).symm.trans (up_same _ _ _)
          have zQ6_zh4 := (congrFun ezh4 _).symm.trans ((up_ne (by simp)).trans zQ6_zh3)
          have zQ7_zh4 := (congrFun ezh4 _).symm.trans ((up_ne (by simp)).trans zQ7_zh3)
          have zQ8_zh4 := (congrFun ezh4 _).symm.trans ((up_ne (by simp)).trans zQ8_zh3)
          refine j_iconst hc dX1_readsHarvest_132 ?_
          have zeq := (show stH b n i X = _ by unfold stH; rw [if_neg (fun zz => zz zu1), if_neg (by omega), if_neg (fun zz => zz zu2), if_neg (fun zz => zz zu3)])
          exact j_zret hc he dX1_readsHarvest_133 rfl (by omega) (by omega) (Or.inr rfl) ⟨_, rfl, RdP.good zeq zQ_zh4 ⟨zQ4_zh4, zQ5_zh4, zQ6_zh4, zQ7_zh4, zQ8_zh4⟩ (by omega) (by omega) ((by rw [← ezh4]; exact Fr.push ((by rw [← ezh3]; exact Fr.push ((by rw [← ezh2]; exact Fr.push (Fr.tr ((by rw [← ezh1]; exact Fr.push (Fr.tr (Fr.tr (Fr.rf isLr _) (zF8.mono fun z zz => (by rw [zz]; exact ⟨by decide, by decide⟩))) (zF46.mono fun z zz => (by rw [zz]; exact ⟨by decide, by decide⟩))) ⟨by decide, by decide⟩)) (zF91.mono fun z zz => (by rw [zz]; exact ⟨by decide, by decide⟩))) ⟨by decide, by decide⟩)) ⟨by decide, by decide⟩)) ⟨by decide, by decide⟩))⟩
        · have zu3 : ¬ (nuS b n (nuS b n (nuS b n i 0 (xSe X - 1)).2.1 0 20).2.1 1 (min 9 (12 - xWs X (nuS b n i 0 (xSe X - 1)).2.2))).1 = -1 := one_neg zc4
          refine j_iconst hc dX1_readsHarvest_97 ?_
          exact j_zret hc he dX1_readsHarvest_98 rfl (by omega) (by omega) (Or.inl rfl) ⟨_, rfl, RdP.bad (f := (nuS b n (nuS b n (nuS b n i 0 (xSe X - 1)).2.1 0 20).2.1 1 (min 9 (12 - xWs X (nuS b n i 0 (xSe X - 1)).2.2))).1) (X' := (xSe X, xEa X, xCo X, xMi X, xRo X, xSw X, xCn X, xHv X, xWs X, fu (xSk X) ((nuS b n i 0 (xSe X - 1)).2.2 * 4 + xHv X (nuS b n i 0 (xSe X - 1)).2.2) (nuS b n (nuS b n i 0 (xSe X - 1)).2.1 0 20).2.2, xWt X)) (by unfold stH; rw [if_neg (fun zz => zz zu1), if_neg (by omega), if_neg (fun zz => zz zu2), if_pos zu3]) zu3 zQ91 ⟨zQ4_q91, zQ5_q91, zQ6_q91, zQ7_q91, zQ8_q91⟩ (by omega) (by omega) (Fr.tr ((by rw [← ezh1]; exact Fr.push (Fr.tr (Fr.tr (Fr.rf isLr _) (zF8.mono fun z zz => (by rw [zz]; exact ⟨by decide, by decide⟩))) (zF46.mono fun z zz => (by rw [zz]; exact ⟨by decide, by decide⟩))) ⟨by decide, by decide⟩)) (zF91.mono fun z zz => (by rw [zz]; exact ⟨by decide, by decide⟩)))⟩
      · have zu2 : ¬ (nuS b n (nuS b n i 0 (xSe X - 1)).2.1 0 20).1 = -1 := one_neg zc3
        refine j_iconst hc dX1_readsHarvest_52 ?_
        exact j_zret hc he dX1_readsHarvest_53 rfl (by omega) (by omega) (Or.inl rfl) ⟨_, rfl, RdP.bad (f := (nuS b n (nuS b n i 0 (xSe X - 1)).2.1 0 20).1) (by unfold stH; rw [if_neg (fun zz => zz zu1), if_neg (by omega), if_pos zu2]) zu2 zQ46 ⟨zQ4_q46, zQ5_q46, zQ6_q46, zQ7_q46, zQ8_q46⟩ (by omega) (by omega) (Fr.tr (Fr.tr (Fr.rf isLr _) (zF8.mono fun z zz => (by rw [zz]; exact ⟨by decide, by decide⟩))) (zF46.mono fun z zz => (by rw [zz]; exact ⟨by decide, by decide⟩)))⟩
    · refine j_aload_n hc dX1_readsHarvest_31 rfl ?_
      refine j_aload_n hc dX1_readsHarvest_32 rfl ?_
      refine j_get hc dX1_readsHarvest_33 fX1_99 zQ8g rfl ?_
      refine j_iconst hc dX1_readsHarvest_36 ?_
      refine j_isub hc dX1_readsHarvest_37 ?_
      refine j_callU (d' := d - 1) hc dX1_readsHarvest_38 uX1_102_c1 zQ8g (ev_X3_isWrongAt_c1 (by omega) zQ8g) rfl (by omega) (by omega) (by omega) rfl rfl (Nat.le_of_ble_eq_true rfl) (retE fun zv38 zq38 zp38 => ?_)
      obtain ⟨zv38_, zQw, zFw⟩ := zp38
      subst zv38_
      have zT_qw := (zFw _ (by first | (simp; done) | (simp; omega))).trans zT_q8
      have zT2_qw := (zFw _ (by first | (simp; done) | (simp; omega))).trans zT2_q8
      have zQ4_qw := (zFw _ (by first | (simp; done) | (simp; omega))).trans zQ4_q8
      have zQ5_qw := (zFw _ (by first | (simp; done) | (simp; omega))).trans zQ5_q8
      have zQ6_qw := (zFw _ (by first | (simp; done) | (simp; omega))).trans zQ6_q8
      have zQ7_qw := (zFw _ (by first | (simp; done) | (simp; omega))).trans zQ7_q8
      have zQ8_qw := (zFw _ (by first | (simp; done) | (simp; omega))).trans zQ8_q8
      exact j_zret hc he dX1_readsHarvest_41 rfl (by omega) (by omega) (Or.inl rfl) ⟨_, rfl, RdP.bad (f := (nuS b n i 0 (xSe X - 1)).2.1 - 1) (by unfold stH; rw [if_neg (fun zz => zz zu1), if_pos (by omega)]) (by omega) zQw ⟨zQ4_qw, zQ5_qw, zQ6_qw, zQ7_qw, zQ8_qw⟩ (by omega) (by omega) (Fr.tr (Fr.tr (Fr.rf isLr _) (zF8.mono fun z zz => (by rw [zz]; exact ⟨by decide, by decide⟩))) (zFw.mono fun z zz => (by rw [zz]; exact ⟨by decide, by decide⟩)))⟩
  · have zu1 : ¬ (nuS b n i 0 (xSe X - 1)).1 = -1 := one_neg zc1
    refine j_iconst hc dX1_readsHarvest_14 ?_
    exact j_zret hc he dX1_readsHarvest_15 rfl (by omega) (by omega) (Or.inl rfl) ⟨_, rfl, RdP.bad (f := (nuS b n i 0 (xSe X - 1)).1) (by unfold stH; rw [if_pos zu1]) zu1 zQ8 ⟨zQ4_q8, zQ5_q8, zQ6_q8, zQ7_q8, zQ8_q8⟩ (by omega) (by omega) (Fr.tr (Fr.rf isLr _) (zF8.mono fun z zz => (by rw [zz]; exact ⟨by decide, by decide⟩)))⟩
