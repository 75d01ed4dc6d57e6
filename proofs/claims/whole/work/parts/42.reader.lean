/-! ===== the readers' common part ===== -/
def TpA (h : AH) (b : Int → Int) (n : Int) : Prop := h (1, 0) = some (oO 7 [vR (2, 0), vI n]) ∧ h (2, 0) = some (oI 240 b)
abbrev TpOK (b : Int → Int) (n : Int) : Prop := 0 ≤ n ∧ n ≤ 240 ∧ ∀ j : Int, 0 ≤ j → j < n → 1 ≤ b j ∧ b j ≤ 255
set_option maxRecDepth 100000 in
set_option maxHeartbeats 4000000 in
theorem ev_X3_goToBeginning_c1 {k : WC} {d : Nat} {h : AH} {o : Option Nm} {i ff : Int} {rs : List AV} (hd : 1 ≤ d) (zQ : h (3, 0) = some (oO 1 (vO o :: vI i :: vI ff :: rs))) : Ev k d mdX3_goToBeginning h [vR (3, 0)] 0 0 (pn fun h' => h' (3, 0) = some (oO 1 (vO o :: vI 0 :: vI (-1) :: rs)) ∧ Fr (fun z => z = (3, 0)) h h') := by
  refine Ev.mk (by decide +kernel) [_] rfl (Nat.le_of_ble_eq_true rfl) (fun w hc he => ?_)
  refine j_aload_n hc dX3_goToBeginning_0 rfl ?_
  refine j_iconst hc dX3_goToBeginning_1 ?_
  refine j_put (fs' := _ :: _ :: _ :: rs) hc dX3_goToBeginning_2 pX3_15_c1 zQ rfl rfl ?_
  generalize ezh1 : up _ _ _ = zh1
  have zQ_zh1 := (congrFun ezh1 _).symm.trans (up_same _ _ _)
  refine j_aload_n hc dX3_goToBeginning_5 rfl ?_
  refine j_iconst hc dX3_goToBeginning_6 ?_
  refine j_put (fs' := _ :: _ :: _ :: rs) hc dX3_goToBeginning_7 pX3_19_c1 zQ_zh1 rfl rfl ?_
  generalize ezh2 : up _ _ _ = zh2
  have zQ_zh2 := (congrFun ezh2 _).symm.trans (up_same _ _ _)
  exact j_vret hc he dX3_goToBeginning_10 rfl (by omega) (by omega) ⟨rfl, zQ_zh2, by rw [← ezh2, ← ezh1]; exact ((Fr.rf (fun z => z = (3, 0)) _).push rfl).push rfl⟩
set_option maxRecDepth 100000 in
set_option maxHeartbeats 4000000 in
theorem ev_X3_here_c1 {k : WC} {d : Nat} {h : AH} {b : Int → Int} {n i ff : Int} {rs : List AV} (hd : 1 ≤ d) (zQ : h (3, 0) = some (oO 1 (vR (1, 0) :: vI i :: vI ff :: rs))) (zT : TpA h b n) (hT : TpOK b n) (hi0 : 0 ≤ i) (hi1 : i ≤ 1000) : Ev k d mdX3_here h [vR (3, 0)] 0 0 (pr (vI (hrS b n i)) h) := by
  obtain ⟨hn0, hn1, hb⟩ := id hT
  refine Ev.mk (by decide +kernel) [_] rfl (Nat.le_of_ble_eq_true rfl) (fun w hc he => ?_)
  refine j_aload_n hc dX3_here_0 rfl ?_
  refine j_get hc dX3_here_1 fX3_15_c1 zQ rfl ?_
  refine j_if_lt (b := 0) (tgt := 36) hc dX3_here_4 (by decide) ⟨by omega, by omega⟩ (fun zc1 => ?_) (fun zc1 => ?_)
  · refine j_iconst hc dX3_here_36 ?_
    exact j_iret hc he dX3_here_37 rfl (by omega) (by omega) ⟨vI_eq (by unfold hrS; first | (exfalso; omega) | rw [if_pos ⟨by omega, by omega⟩] | rw [if_neg (by omega)]), rfl⟩
  · refine j_aload_n hc dX3_here_7 rfl ?_
    refine j_get hc dX3_here_8 fX3_15_c1 zQ rfl ?_
    refine j_aload_n hc dX3_here_11 rfl ?_
    refine j_get hc dX3_here_12 fX3_9_c1 zQ rfl ?_
    refine j_get hc dX3_here_15 fX3_22 zT.1 rfl ?_
    refine j_icmp_ge (tgt := 36) hc dX3_here_18 (by decide) ⟨by omega, by omega⟩ ⟨by omega, by omega⟩ (fun zc2 => ?_) (fun zc2 => ?_)
    · refine j_iconst hc dX3_here_36 ?_
      exact j_iret hc he dX3_here_37 rfl (by omega) (by omega) ⟨vI_eq (by unfold hrS; first | (exfalso; omega) | rw [if_pos ⟨by omega, by omega⟩] | rw [if_neg (by omega)]), rfl⟩
    · refine j_aload_n hc dX3_here_21 rfl ?_
      refine j_get hc dX3_here_22 fX3_9_c1 zQ rfl ?_
      refine j_get hc dX3_here_25 fX3_27 zT.1 rfl ?_
      refine j_aload_n hc dX3_here_28 rfl ?_
      refine j_get hc dX3_here_29 fX3_15_c1 zQ rfl ?_
      refine j_iald hc dX3_here_32 zT.2 (by omega) (by omega) ?_
      refine j_goto (tgt := 37) hc dX3_here_33 (by decide) ?_
      exact j_iret hc he dX3_here_37 rfl (by omega) (by omega) ⟨vI_eq (by unfold hrS; first | (exfalso; omega) | rw [if_pos ⟨by omega, by omega⟩] | rw [if_neg (by omega)]), rfl⟩
set_option maxRecDepth 100000 in
set_option maxHeartbeats 4000000 in
theorem lp_X3_skipBlanks_c1 {k : WC} {d : Nat} {w : MC} {h : AH} {b : Int → Int} {n i0 ff : Int} {rs : List AV} (hd : 1 ≤ d) (hT : TpOK b n) (hc : Cx w k d 0 0 mdX3_skipBlanks) (he : Ends w 0 0 (pn fun h' => h' (3, 0) = some (oO 1 (vR (1, 0) :: vI (skS b n i0) :: vI ff :: rs)) ∧ Fr (fun z => z = (3, 0)) h h')) : ∀ (zm : Nat) (i : Int) (h' : AH), (n - i).toNat = zm → 0 ≤ i → i ≤ 1000 → h' (3, 0) = some (oO 1 (vR (1, 0) :: vI i :: vI ff :: rs)) → TpA h' b n → Fr (fun z => z = (3, 0)) h h' → skS b n i = skS b n i0 → J w 0 0 5 [some (vR (3, 0)), some (vI i)] [] h' := by
  obtain ⟨hn0, hn1, hb⟩ := id hT
  intro zm
  induction zm using Nat.strongRecOn with
  | _ zm ih =>
    intro i h' hm hi0 hi1 zQ zT hfr hsk
    refine j_iload_n hc dX3_skipBlanks_5 rfl ?_
    refine j_aload_n hc dX3_skipBlanks_6 rfl ?_
    refine j_get hc dX3_skipBlanks_7 fX3_9_c1 zQ rfl ?_
    refine j_get hc dX3_skipBlanks_10 fX3_22 zT.1 rfl ?_
    refine j_icmp_ge (tgt := 46) hc dX3_skipBlanks_13 (by decide) ⟨by omega, by omega⟩ ⟨by omega, by omega⟩ (fun zc1 => ?_) (fun zc1 => ?_)
    · exact j_vret hc he dX3_skipBlanks_46 rfl (by omega) (by omega) ⟨rfl, by rw [← hsk, skS_stop (by omega)]; exact zQ, hfr⟩
    · have zbi := hb i (by omega) (by omega)
      refine j_aload_n hc dX3_skipBlanks_16 rfl ?_
      refine j_get hc dX3_skipBlanks_17 fX3_9_c1 zQ rfl ?_
      refine j_get hc dX3_skipBlanks_20 fX3_27 zT.1 rfl ?_
      refine j_iload_n hc dX3_skipBlanks_23 rfl ?_
      refine j_iald hc dX3_skipBlanks_24 zT.2 (by omega) (by omega) ?_
      refine j_bipush hc dX3_skipBlanks_25 (by decide) ?_
      refine j_icmp_ne (tgt := 46) hc dX3_skipBlanks_27 (by decide) ⟨by omega, by omega⟩ ⟨by omega, by omega⟩ (fun zc2 => ?_) (fun zc2 => ?_)
      · exact j_vret hc he dX3_skipBlanks_46 rfl (by omega) (by omega) ⟨rfl, by rw [← hsk, skS_stop (by omega)]; exact zQ, hfr⟩
      · refine j_aload_n hc dX3_skipBlanks_30 rfl ?_
        refine j_dup hc dX3_skipBlanks_31 rfl ?_
        refine j_get hc dX3_skipBlanks_32 fX3_15_c1 zQ rfl ?_
        refine j_iconst hc dX3_skipBlanks_35 ?_
        refine j_iadd hc dX3_skipBlanks_36 ?_
        refine j_put (fs' := _ :: _ :: _ :: rs) hc dX3_skipBlanks_37 pX3_15_c1 zQ rfl rfl ?_
        generalize ezh1 : up _ _ _ = zh1
        have zQ_zh1 := (congrFun ezh1 _).symm.trans (up_same _ _ _)
        have zT_zh1 := (congrFun ezh1 _).symm.trans ((up_ne (by simp)).trans zT.1)
        have zT2_zh1 := (congrFun ezh1 _).symm.trans ((up_ne (by simp)).trans zT.2)
        refine j_iinc (L' := [_, _]) hc dX3_skipBlanks_40 rfl (Nat.le_of_ble_eq_true rfl) rfl ?_
        refine j_goto (tgt := 5) hc dX3_skipBlanks_43 (by decide) ?_
        exact ih _ (by omega) (i + 1) _ rfl (by omega) (by omega) zQ_zh1 ⟨zT_zh1, zT2_zh1⟩ (by rw [← ezh1]; exact hfr.push rfl) (by rw [skS_step (by omega) (by assumption)]; exact hsk)
set_option maxRecDepth 100000 in
set_option maxHeartbeats 4000000 in
theorem ev_X3_skipBlanks_c1 {k : WC} {d : Nat} {h : AH} {b : Int → Int} {n i ff : Int} {rs : List AV} (hd : 1 ≤ d) (zQ : h (3, 0) = some (oO 1 (vR (1, 0) :: vI i :: vI ff :: rs))) (zT : TpA h b n) (hT : TpOK b n) (hi0 : 0 ≤ i) (hi1 : i ≤ 1000) : Ev k d mdX3_skipBlanks h [vR (3, 0)] 0 0 (pn fun h' => h' (3, 0) = some (oO 1 (vR (1, 0) :: vI (skS b n i) :: vI ff :: rs)) ∧ Fr (fun z => z = (3, 0)) h h') := by
  obtain ⟨hn0, hn1, hb⟩ := id hT
  refine Ev.mk (by decide +kernel) [_, _] rfl (Nat.le_of_ble_eq_true rfl) (fun w hc he => ?_)
  refine j_aload_n hc dX3_skipBlanks_0 rfl ?_
  refine j_get hc dX3_skipBlanks_1 fX3_15_c1 zQ rfl ?_
  refine j_istore_n (L' := [_, _]) hc dX3_skipBlanks_4 (Nat.le_of_ble_eq_true rfl) rfl ?_
  exact lp_X3_skipBlanks_c1 hd hT hc he _ i h rfl hi0 hi1 zQ zT (Fr.rf _ _) rfl
set_option maxRecDepth 100000 in
set_option maxHeartbeats 4000000 in
theorem ev_X3_isWrongAt_c1 {k : WC} {d : Nat} {h : AH} {o : Option Nm} {i p : Int} {rs : List AV} (hd : 1 ≤ d) (zQ : h (3, 0) = some (oO 1 (vO o :: vI i :: vI (-1) :: rs))) : Ev k d mdX3_isWrongAt h [vR (3, 0), vI p] 0 0 (pe fun v h' => v = vI 0 ∧ h' (3, 0) = some (oO 1 (vO o :: vI i :: vI p :: rs)) ∧ Fr (fun z => z = (3, 0)) h h') := by
  refine Ev.mk (by decide +kernel) [_, _] rfl (Nat.le_of_ble_eq_true rfl) (fun w hc he => ?_)
  refine j_aload_n hc dX3_isWrongAt_0 rfl ?_
  refine j_get hc dX3_isWrongAt_1 fX3_19_c1 zQ rfl ?_
  refine j_iconst hc dX3_isWrongAt_4 ?_
  refine j_icmp_ne (tgt := 13) hc dX3_isWrongAt_5 (by decide) ⟨by omega, by omega⟩ ⟨by omega, by omega⟩ (fun zc1 => ?_) (fun zc1 => ?_)
  · exact absurd rfl zc1
  · refine j_aload_n hc dX3_isWrongAt_8 rfl ?_
    refine j_iload_n hc dX3_isWrongAt_9 rfl ?_
    refine j_put (fs' := _ :: _ :: _ :: rs) hc dX3_isWrongAt_10 pX3_19_c1 zQ rfl rfl ?_
    generalize ezh1 : up _ _ _ = zh1
    have zQ_zh1 := (congrFun ezh1 _).symm.trans (up_same _ _ _)
    refine j_iconst hc dX3_isWrongAt_13 ?_
    exact j_zret hc he dX3_isWrongAt_14 rfl (by omega) (by omega) (by first | exact Or.inl rfl | exact Or.inr rfl) ⟨_, rfl, rfl, zQ_zh1, by rw [← ezh1]; exact (Fr.rf (fun z => z = (3, 0)) _).push rfl⟩
set_option maxRecDepth 100000 in
set_option maxHeartbeats 4000000 in
theorem ev_X3_takes_c1 {k : WC} {d : Nat} {h : AH} {b : Int → Int} {n i ff : Int} {rs : List AV} {cc : Int} (hd : 2 ≤ d) (zQ : h (3, 0) = some (oO 1 (vR (1, 0) :: vI i :: vI ff :: rs))) (zT : TpA h b n) (hT : TpOK b n) (hi0 : 0 ≤ i) (hi1 : i ≤ n) (hc0 : 0 ≤ cc) (hc1 : cc ≤ 255) : Ev k d mdX3_takes h [vR (3, 0), vI cc] 0 0 (pe fun v h' => v = vI (if hrS b n (skS b n i) = cc then 1 else 0) ∧ h' (3, 0) = some (oO 1 (vR (1, 0) :: vI (if hrS b n (skS b n i) = cc then skS b n i + 1 else skS b n i) :: vI ff :: rs)) ∧ Fr (fun z => z = (3, 0)) h h') := by
  obtain ⟨hn0, hn1, hb⟩ := id hT
  obtain ⟨zs1, zs2, -⟩ := skS_b b n i
  have zs2 := zs2 (by omega)
  have zh := hrS_b hb (skS b n i)
  refine Ev.mk (by decide +kernel) [_, _] rfl (Nat.le_of_ble_eq_true rfl) (fun w hc he => ?_)
  refine j_aload_n hc dX3_takes_0 rfl ?_
  refine j_callU (d' := d - 1) hc dX3_takes_1 uX3_31_c1 zQ (ev_X3_skipBlanks_c1 (by omega) zQ zT hT hi0 (by omega)) rfl (by omega) (by omega) (by omega) rfl rfl (Nat.le_of_ble_eq_true rfl) (retN fun zq1 zp1 => ?_)
  obtain ⟨zQ1, zF1⟩ := zp1
  have zT_q1 := (zF1 _ (by first | (simp; done) | (simp; omega))).trans zT.1
  have zT2_q1 := (zF1 _ (by first | (simp; done) | (simp; omega))).trans zT.2
  have zt1 : TpA zq1 b n := ⟨zT_q1, zT2_q1⟩
  refine j_aload_n hc dX3_takes_4 rfl ?_
  refine j_callU (d' := d - 1) hc dX3_takes_5 uX3_34_c1 zQ1 (ev_X3_here_c1 (by omega) zQ1 zt1 hT (by omega) (by omega)) rfl (by omega) (by omega) (by omega) rfl rfl (Nat.le_of_ble_eq_true rfl) (ret1 ?_)
  refine j_iload_n hc dX3_takes_8 rfl ?_
  refine j_icmp_eq (tgt := 14) hc dX3_takes_9 (by decide) ⟨by omega, by omega⟩ ⟨by omega, by omega⟩ (fun zc1 => ?_) (fun zc1 => ?_)
  · refine j_aload_n hc dX3_takes_14 rfl ?_
    refine j_dup hc dX3_takes_15 rfl ?_
    refine j_get hc dX3_takes_16 fX3_15_c1 zQ1 rfl ?_
    refine j_iconst hc dX3_takes_19 ?_
    refine j_iadd hc dX3_takes_20 ?_
    refine j_put (fs' := _ :: _ :: _ :: rs) hc dX3_takes_21 pX3_15_c1 zQ1 rfl rfl ?_
    generalize ezh1 : up _ _ _ = zh1
    have zQ_zh1 := (congrFun ezh1 _).symm.trans (up_same _ _ _)
    have zT_zh1 := (congrFun ezh1 _).symm.trans ((up_ne (by simp)).trans zT_q1)
    have zT2_zh1 := (congrFun ezh1 _).symm.trans ((up_ne (by simp)).trans zT2_q1)
    refine j_iconst hc dX3_takes_24 ?_
    exact j_zret hc he dX3_takes_25 rfl (by omega) (by omega) (by first | exact Or.inl rfl | exact Or.inr rfl) ⟨_, rfl, by rw [if_pos (by assumption)], by rw [if_pos (by assumption)]; exact zQ_zh1, by rw [← ezh1]; exact zF1.push rfl⟩
  · refine j_iconst hc dX3_takes_12 ?_
    exact j_zret hc he dX3_takes_13 rfl (by omega) (by omega) (by first | exact Or.inl rfl | exact Or.inr rfl) ⟨_, rfl, by rw [if_neg (by assumption)], by rw [if_neg (by assumption)]; exact zQ1, zF1⟩
set_option maxRecDepth 100000 in
set_option maxHeartbeats 4000000 in
theorem ev_X3_needs_c1 {k : WC} {d : Nat} {h : AH} {b : Int → Int} {n i : Int} {rs : List AV} {cc : Int} (hd : 2 ≤ d) (zQ : h (3, 0) = some (oO 1 (vR (1, 0) :: vI i :: vI (-1) :: rs))) (zT : TpA h b n) (hT : TpOK b n) (hi0 : 0 ≤ i) (hi1 : i ≤ n) (hc0 : 0 ≤ cc) (hc1 : cc ≤ 255) : Ev k d mdX3_needs h [vR (3, 0), vI cc] 0 0 (pe fun v h' => v = vI (if hrS b n (skS b n i) = cc then 1 else 0) ∧ h' (3, 0) = some (oO 1 (vR (1, 0) :: vI (if hrS b n (skS b n i) = cc then skS b n i + 1 else skS b n i) :: vI (if hrS b n (skS b n i) = cc then -1 else skS b n i) :: rs)) ∧ Fr (fun z => z = (3, 0)) h h') := by
  obtain ⟨hn0, hn1, hb⟩ := id hT
  obtain ⟨zs1, zs2, -⟩ := skS_b b n i
  have zs2 := zs2 (by omega)
  have zh := hrS_b hb (skS b n i)
  refine Ev.mk (by decide +kernel) [_, _] rfl (Nat.le_of_ble_eq_true rfl) (fun w hc he => ?_)
  refine j_aload_n hc dX3_needs_0 rfl ?_
  refine j_callU (d' := d - 1) hc dX3_needs_1 uX3_31_c1 zQ (ev_X3_skipBlanks_c1 (by omega) zQ zT hT hi0 (by omega)) rfl (by omega) (by omega) (by omega) rfl rfl (Nat.le_of_ble_eq_true rfl) (retN fun zq1 zp1 => ?_)
  obtain ⟨zQ1, zF1⟩ := zp1
  have zT_q1 := (zF1 _ (by first | (simp; done) | (simp; omega))).trans zT.1
  have zT2_q1 := (zF1 _ (by first | (simp; done) | (simp; omega))).trans zT.2
  have zt1 : TpA zq1 b n := ⟨zT_q1, zT2_q1⟩
  refine j_aload_n hc dX3_needs_4 rfl ?_
  refine j_callU (d' := d - 1) hc dX3_needs_5 uX3_34_c1 zQ1 (ev_X3_here_c1 (by omega) zQ1 zt1 hT (by omega) (by omega)) rfl (by omega) (by omega) (by omega) rfl rfl (Nat.le_of_ble_eq_true rfl) (ret1 ?_)
  refine j_iload_n hc dX3_needs_8 rfl ?_
  refine j_icmp_eq (tgt := 21) hc dX3_needs_9 (by decide) ⟨by omega, by omega⟩ ⟨by omega, by omega⟩ (fun zc1 => ?_) (fun zc1 => ?_)
  · refine j_aload_n hc dX3_needs_21 rfl ?_
    refine j_dup hc dX3_needs_22 rfl ?_
    refine j_get hc dX3_needs_23 fX3_15_c1 zQ1 rfl ?_
    refine j_iconst hc dX3_needs_26 ?_
    refine j_iadd hc dX3_needs_27 ?_
    refine j_put (fs' := _ :: _ :: _ :: rs) hc dX3_needs_28 pX3_15_c1 zQ1 rfl rfl ?_
    generalize ezh1 : up _ _ _ = zh1
    have zQ_zh1 := (congrFun ezh1 _).symm.trans (up_same _ _ _)
    have zT_zh1 := (congrFun ezh1 _).symm.trans ((up_ne (by simp)).trans zT_q1)
    have zT2_zh1 := (congrFun ezh1 _).symm.trans ((up_ne (by simp)).trans zT2_q1)
    refine j_iconst hc dX3_needs_31 ?_
    exact j_zret hc he dX3_needs_32 rfl (by omega) (by omega) (by first | exact Or.inl rfl | exact Or.inr rfl) ⟨_, rfl, by rw [if_pos (by assumption)], by rw [if_pos (by assumption), if_pos (by assumption)]; exact zQ_zh1, by rw [← ezh1]; exact zF1.push rfl⟩
  · refine j_aload_n hc dX3_needs_12 rfl ?_
    refine j_aload_n hc dX3_needs_13 rfl ?_
    refine j_get hc dX3_needs_14 fX3_15_c1 zQ1 rfl ?_
    refine j_callU (d' := d - 1) hc dX3_needs_17 uX3_38_c1 zQ1 (ev_X3_isWrongAt_c1 (by omega) zQ1) rfl (by omega) (by omega) (by omega) rfl rfl (Nat.le_of_ble_eq_true rfl) (retE fun zv17 zq17 zp17 => ?_)
    obtain ⟨zv, zQ17, zF17⟩ := zp17
    subst zv
    exact j_zret hc he dX3_needs_20 rfl (by omega) (by omega) (Or.inl rfl) ⟨_, rfl, by rw [if_neg (by assumption)], by rw [if_neg (by assumption), if_neg (by assumption)]; exact zQ17, zF1.tr zF17⟩
set_option maxRecDepth 100000 in
set_option maxHeartbeats 4000000 in
theorem ev_X3_faultAtEnd_c1 {k : WC} {d : Nat} {h : AH} {b : Int → Int} {n i ff : Int} {rs : List AV} (hd : 1 ≤ d) (zQ : h (3, 0) = some (oO 1 (vR (1, 0) :: vI i :: vI ff :: rs))) (zT : TpA h b n) (hT : TpOK b n) (hi0 : 0 ≤ i) (hi1 : i ≤ n) (hf0 : -1 ≤ ff) (hf1 : ff ≤ n) : Ev k d mdX3_faultAtEnd h [vR (3, 0)] 0 0 (pe fun v h' => v = vI (if ff = -1 ∧ i < n then i else ff) ∧ (∃ ff', h' (3, 0) = some (oO 1 (vR (1, 0) :: vI i :: vI ff' :: rs))) ∧ Fr (fun z => z = (3, 0)) h h') := by
  obtain ⟨hn0, hn1, hb⟩ := id hT
  refine Ev.mk (by decide +kernel) [_] rfl (Nat.le_of_ble_eq_true rfl) (fun w hc he => ?_)
  refine j_aload_n hc dX3_faultAtEnd_0 rfl ?_
  refine j_get hc dX3_faultAtEnd_1 fX3_19_c1 zQ rfl ?_
  refine j_iconst hc dX3_faultAtEnd_4 ?_
  refine j_icmp_ne (tgt := 30) hc dX3_faultAtEnd_5 (by decide) ⟨by omega, by omega⟩ ⟨by omega, by omega⟩ (fun zc1 => ?_) (fun zc1 => ?_)
  · refine j_aload_n hc dX3_faultAtEnd_30 rfl ?_
    refine j_get hc dX3_faultAtEnd_31 fX3_19_c1 zQ rfl ?_
    exact j_iret hc he dX3_faultAtEnd_34 rfl (by omega) (by omega) ⟨_, rfl, by rw [if_neg (by omega)], ⟨_, zQ⟩, Fr.rf _ _⟩
  · refine j_aload_n hc dX3_faultAtEnd_8 rfl ?_
    refine j_get hc dX3_faultAtEnd_9 fX3_15_c1 zQ rfl ?_
    refine j_aload_n hc dX3_faultAtEnd_12 rfl ?_
    refine j_get hc dX3_faultAtEnd_13 fX3_9_c1 zQ rfl ?_
    refine j_get hc dX3_faultAtEnd_16 fX3_22 zT.1 rfl ?_
    refine j_icmp_ge (tgt := 30) hc dX3_faultAtEnd_19 (by decide) ⟨by omega, by omega⟩ ⟨by omega, by omega⟩ (fun zc2 => ?_) (fun zc2 => ?_)
    · refine j_aload_n hc dX3_faultAtEnd_30 rfl ?_
      refine j_get hc dX3_faultAtEnd_31 fX3_19_c1 zQ rfl ?_
      exact j_iret hc he dX3_faultAtEnd_34 rfl (by omega) (by omega) ⟨_, rfl, by rw [if_neg (by omega)], ⟨_, zQ⟩, Fr.rf _ _⟩
    · refine j_aload_n hc dX3_faultAtEnd_22 rfl ?_
      refine j_aload_n hc dX3_faultAtEnd_23 rfl ?_
      refine j_get hc dX3_faultAtEnd_24 fX3_15_c1 zQ rfl ?_
      refine j_put (fs' := _ :: _ :: _ :: rs) hc dX3_faultAtEnd_27 pX3_19_c1 zQ rfl rfl ?_
      generalize ezh1 : up _ _ _ = zh1
      have zQ_zh1 := (congrFun ezh1 _).symm.trans (up_same _ _ _)
      have zT_zh1 := (congrFun ezh1 _).symm.trans ((up_ne (by simp)).trans zT.1)
      have zT2_zh1 := (congrFun ezh1 _).symm.trans ((up_ne (by simp)).trans zT.2)
      refine j_aload_n hc dX3_faultAtEnd_30 rfl ?_
      refine j_get hc dX3_faultAtEnd_31 fX3_19_c1 zQ_zh1 rfl ?_
      exact j_iret hc he dX3_faultAtEnd_34 rfl (by omega) (by omega) ⟨_, rfl, by rw [if_pos ⟨by assumption, by omega⟩], ⟨_, zQ_zh1⟩, by rw [← ezh1]; exact (Fr.rf (fun z => z = (3, 0)) _).push rfl⟩
set_option maxRecDepth 100000 in
set_option maxHeartbeats 4000000 in
theorem ev_X3_goToBeginning_c4 {k : WC} {d : Nat} {h : AH} {o : Option Nm} {i ff : Int} {rs : List AV} (hd : 1 ≤ d) (zQ : h (9, 0) = some (oO 4 (vO o :: vI i :: vI ff :: rs))) : Ev k d mdX3_goToBeginning h [vR (9, 0)] 0 0 (pn fun h' => h' (9, 0) = some (oO 4 (vO o :: vI 0 :: vI (-1) :: rs)) ∧ Fr (fun z => z = (9, 0)) h h') := by
  refine Ev.mk (by decide +kernel) [_] rfl (Nat.le_of_ble_eq_true rfl) (fun w hc he => ?_)
  refine j_aload_n hc dX3_goToBeginning_0 rfl ?_
  refine j_iconst hc dX3_goToBeginning_1 ?_
  refine j_put (fs' := _ :: _ :: _ :: rs) hc dX3_goToBeginning_2 pX3_15_c4 zQ rfl rfl ?_
  generalize ezh1 : up _ _ _ = zh1
  have zQ_zh1 := (congrFun ezh1 _).symm.trans (up_same _ _ _)
  refine j_aload_n hc dX3_goToBeginning_5 rfl ?_
  refine j_iconst hc dX3_goToBeginning_6 ?_
  refine j_put (fs' := _ :: _ :: _ :: rs) hc dX3_goToBeginning_7 pX3_19_c4 zQ_zh1 rfl rfl ?_
  generalize ezh2 : up _ _ _ = zh2
  have zQ_zh2 := (congrFun ezh2 _).symm.trans (up_same _ _ _)
  exact j_vret hc he dX3_goToBeginning_10 rfl (by omega) (by omega) ⟨rfl, zQ_zh2, by rw [← ezh2, ← ezh1]; exact ((Fr.rf (fun z => z = (9, 0)) _).push rfl).push rfl⟩
set_option maxRecDepth 100000 in
set_option maxHeartbeats 4000000 in
theorem ev_X3_here_c4 {k : WC} {d : Nat} {h : AH} {b : Int → Int} {n i ff : Int} {rs : List AV} (hd : 1 ≤ d) (zQ : h (9, 0) = some (oO 4 (vR (1, 0) :: vI i :: vI ff :: rs))) (zT : TpA h b n) (hT : TpOK b n) (hi0 : 0 ≤ i) (hi1 : i ≤ 1000) : Ev k d mdX3_here h [vR (9, 0)] 0 0 (pr (vI (hrS b n i)) h) := by
  obtain ⟨hn0, hn1, hb⟩ := id hT
  refine Ev.mk (by decide +kernel) [_] rfl (Nat.le_of_ble_eq_true rfl) (fun w hc he => ?_)
  refine j_aload_n hc dX3_here_0 rfl ?_
  refine j_get hc dX3_here_1 fX3_15_c4 zQ rfl ?_
  refine j_if_lt (b := 0) (tgt := 36) hc dX3_here_4 (by decide) ⟨by omega, by omega⟩ (fun zc1 => ?_) (fun zc1 => ?_)
  · refine j_iconst hc dX3_here_36 ?_
    exact j_iret hc he dX3_here_37 rfl (by omega) (by omega) ⟨vI_eq (by unfold hrS; first | (exfalso; omega) | rw [if_pos ⟨by omega, by omega⟩] | rw [if_neg (by omega)]), rfl⟩
  · refine j_aload_n hc dX3_here_7 rfl ?_
    refine j_get hc dX3_here_8 fX3_15_c4 zQ rfl ?_
    refine j_aload_n hc dX3_here_11 rfl ?_
    refine j_get hc dX3_here_12 fX3_9_c4 zQ rfl ?_
    refine j_get hc dX3_here_15 fX3_22 zT.1 rfl ?_
    refine j_icmp_ge (tgt := 36) hc dX3_here_18 (by decide) ⟨by omega, by omega⟩ ⟨by omega, by omega⟩ (fun zc2 => ?_) (fun zc2 => ?_)
    · refine j_iconst hc dX3_here_36 ?_
      exact j_iret hc he dX3_here_37 rfl (by omega) (by omega) ⟨vI_eq (by unfold hrS; first | (exfalso; omega) | rw [if_pos ⟨by omega, by omega⟩] | rw [if_neg (by omega)]), rfl⟩
    · refine j_aload_n hc dX3_here_21 rfl ?_
      refine j_get hc dX3_here_22 fX3_9_c4 zQ rfl ?_
      refine j_get hc dX3_here_25 fX3_27 zT.1 rfl ?_
      refine j_aload_n hc dX3_here_28 rfl ?_
      refine j_get hc dX3_here_29 fX3_15_c4 zQ rfl ?_
      refine j_iald hc dX3_here_32 zT.2 (by omega) (by omega) ?_
      refine j_goto (tgt := 37) hc dX3_here_33 (by decide) ?_
      exact j_iret hc he dX3_here_37 rfl (by omega) (by omega) ⟨vI_eq (by unfold hrS; first | (exfalso; omega) | rw [if_pos ⟨by omega, by omega⟩] | rw [if_neg (by omega)]), rfl⟩
set_option maxRecDepth 100000 in
set_option maxHeartbeats 4000000 in
theorem lp_X3_skipBlanks_c4 {k : WC} {d : Nat} {w : MC} {h : AH} {b : Int → Int} {n i0 ff : Int} {rs : List AV} (hd : 1 ≤ d) (hT : TpOK b n) (hc : Cx w k d 0 0 mdX3_skipBlanks) (he : Ends w 0 0 (pn fun h' => h' (9, 0) = some (oO 4 (vR (1, 0) :: vI (skS b n i0) :: vI ff :: rs)) ∧ Fr (fun z => z = (9, 0)) h h')) : ∀ (zm : Nat) (i : Int) (h' : AH), (n - i).toNat = zm → 0 ≤ i → i ≤ 1000 → h' (9, 0) = some (oO 4 (vR (1, 0) :: vI i :: vI ff :: rs)) → TpA h' b n → Fr (fun z => z = (9, 0)) h h' → skS b n i = skS b n i0 → J w 0 0 5 [some (vR (9, 0)), some (vI i)] [] h' := by
  obtain ⟨hn0, hn1, hb⟩ := id hT
  intro zm
  induction zm using Nat.strongRecOn with
  | _ zm ih =>
    intro i h' hm hi0 hi1 zQ zT hfr hsk
    refine j_iload_n hc dX3_skipBlanks_5 rfl ?_
    refine j_aload_n hc dX3_skipBlanks_6 rfl ?_
    refine j_get hc dX3_skipBlanks_7 fX3_9_c4 zQ rfl ?_
    refine j_get hc dX3_skipBlanks_10 fX3_22 zT.1 rfl ?_
    refine j_icmp_ge (tgt := 46) hc dX3_skipBlanks_13 (by decide) ⟨by omega, by omega⟩ ⟨by omega, by omega⟩ (fun zc1 => ?_) (fun zc1 => ?_)
    · exact j_vret hc he dX3_skipBlanks_46 rfl (by omega) (by omega) ⟨rfl, by rw [← hsk, skS_stop (by omega)]; exact zQ, hfr⟩
    · have zbi := hb i (by omega) (by omega)
      refine j_aload_n hc dX3_skipBlanks_16 rfl ?_
      refine j_get hc dX3_skipBlanks_17 fX3_9_c4 zQ rfl ?_
      refine j_get hc dX3_skipBlanks_20 fX3_27 zT.1 rfl ?_
      refine j_iload_n hc dX3_skipBlanks_23 rfl ?_
      refine j_iald hc dX3_skipBlanks_24 zT.2 (by omega) (by omega) ?_
      refine j_bipush hc dX3_skipBlanks_25 (by decide) ?_
      refine j_icmp_ne (tgt := 46) hc dX3_skipBlanks_27 (by decide) ⟨by omega, by omega⟩ ⟨by omega, by omega⟩ (fun zc2 => ?_) (fun zc2 => ?_)
      · exact j_vret hc he dX3_skipBlanks_46 rfl (by omega) (by omega) ⟨rfl, by rw [← hsk, skS_stop (by omega)]; exact zQ, hfr⟩
      · refine j_aload_n hc dX3_skipBlanks_30 rfl ?_
        refine j_dup hc dX3_skipBlanks_31 rfl ?_
        refine j_get hc dX3_skipBlanks_32 fX3_15_c4 zQ rfl ?_
        refine j_iconst hc dX3_skipBlanks_35 ?_
        refine j_iadd hc dX3_skipBlanks_36 ?_
        refine j_put (fs' := _ :: _ :: _ :: rs) hc dX3_skipBlanks_37 pX3_15_c4 zQ rfl rfl ?_
        generalize ezh1 : up _ _ _ = zh1
        have zQ_zh1 := (congrFun ezh1 _).symm.trans (up_same _ _ _)
        have zT_zh1 := (congrFun ezh1 _).symm.trans ((up_ne (by simp)).trans zT.1)
        have zT2_zh1 := (congrFun ezh1 _).symm.trans ((up_ne (by simp)).trans zT.2)
        refine j_iinc (L' := [_, _]) hc dX3_skipBlanks_40 rfl (Nat.le_of_ble_eq_true rfl) rfl ?_
        refine j_goto (tgt := 5) hc dX3_skipBlanks_43 (by decide) ?_
        exact ih _ (by omega) (i + 1) _ rfl (by omega) (by omega) zQ_zh1 ⟨zT_zh1, zT2_zh1⟩ (by rw [← ezh1]; exact hfr.push rfl) (by rw [skS_step (by omega) (by assumption)]; exact hsk)
set_option maxRecDepth 100000 in
set_option maxHeartbeats 4000000 in
theorem ev_X3_skipBlanks_c4 {k : WC} {d : Nat} {h : AH} {b : Int → Int} {n i ff : Int} {rs : List AV} (hd : 1 ≤ d) (zQ : h (9, 0) = some (oO 4 (vR (1, 0) :: vI i :: vI ff :: rs))) (zT : TpA h b n) (hT : TpOK b n) (hi0 : 0 ≤ i) (hi1 : i ≤ 1000) : Ev k d mdX3_skipBlanks h [vR (9, 0)] 0 0 (pn fun h' => h' (9, 0) = some (oO 4 (vR (1, 0) :: vI (skS b n i) :: vI ff :: rs)) ∧ Fr (fun z => z = (9, 0)) h h') := by
  obtain ⟨hn0, hn1, hb⟩ := id hT
  refine Ev.mk (by decide +kernel) [_, _] rfl (Nat.le_of_ble_eq_true rfl) (fun w hc he => ?_)
  refine j_aload_n hc dX3_skipBlanks_0 rfl ?_
  refine j_get hc dX3_skipBlanks_1 fX3_15_c4 zQ rfl ?_
  refine j_istore_n (L' := [_, _]) hc dX3_skipBlanks_4 (Nat.le_of_ble_eq_true rfl) rfl ?_
  exact lp_X3_skipBlanks_c4 hd hT hc he _ i h rfl hi0 hi1 zQ zT (Fr.rf _ _) rfl
set_option maxRecDepth 100000 in
set_option maxHeartbeats 4000000 in
theorem ev_X3_isWrongAt_c4 {k : WC} {d : Nat} {h : AH} {o : Option Nm} {i p : Int} {rs : List AV} (hd : 1 ≤ d) (zQ : h (9, 0) = some (oO 4 (vO o :: vI i :: vI (-1) :: rs))) : Ev k d mdX3_isWrongAt h [vR (9, 0), vI p] 0 0 (pe fun v h' => v = vI 0 ∧ h' (9, 0) = some (oO 4 (vO o :: vI i :: vI p :: rs)) ∧ Fr (fun z => z = (9, 0)) h h') := by
  refine Ev.mk (by decide +kernel) [_, _] rfl (Nat.le_of_ble_eq_true rfl) (fun w hc he => ?_)
  refine j_aload_n hc dX3_isWrongAt_0 rfl ?_
  refine j_get hc dX3_isWrongAt_1 fX3_19_c4 zQ rfl ?_
  refine j_iconst hc dX3_isWrongAt_4 ?_
  refine j_icmp_ne (tgt := 13) hc dX3_isWrongAt_5 (by decide) ⟨by omega, by omega⟩ ⟨by omega, by omega⟩ (fun zc1 => ?_) (fun zc1 => ?_)
  · exact absurd rfl zc1
  · refine j_aload_n hc dX3_isWrongAt_8 rfl ?_
    refine j_iload_n hc dX3_isWrongAt_9 rfl ?_
    refine j_put (fs' := _ :: _ :: _ :: rs) hc dX3_isWrongAt_10 pX3_19_c4 zQ rfl rfl ?_
    generalize ezh1 : up _ _ _ = zh1
    have zQ_zh1 := (congrFun ezh1 _).symm.trans (up_same _ _ _)
    refine j_iconst hc dX3_isWrongAt_13 ?_
    exact j_zret hc he dX3_isWrongAt_14 rfl (by omega) (by omega) (by first | exact Or.inl rfl | exact Or.inr rfl) ⟨_, rfl, rfl, zQ_zh1, by rw [← ezh1]; exact (Fr.rf (fun z => z = (9, 0)) _).push rfl⟩
set_option maxRecDepth 100000 in
set_option maxHeartbeats 4000000 in
theorem ev_X3_takes_c4 {k : WC} {d : Nat} {h : AH} {b : Int → Int} {n i ff : Int} {rs : List AV} {cc : Int} (hd : 2 ≤ d) (zQ : h (9, 0) = some (oO 4 (vR (1, 0) :: vI i :: vI ff :: rs))) (zT : TpA h b n) (hT : TpOK b n) (hi0 : 0 ≤ i) (hi1 : i ≤ n) (hc0 : 0 ≤ cc) (hc1 : cc ≤ 255) : Ev k d mdX3_takes h [vR (9, 0), vI cc] 0 0 (pe fun v h' => v = vI (if hrS b n (skS b n i) = cc then 1 else 0) ∧ h' (9, 0) = some (oO 4 (vR (1, 0) :: vI (if hrS b n (skS b n i) = cc then skS b n i + 1 else skS b n i) :: vI ff :: rs)) ∧ Fr (fun z => z = (9, 0)) h h') := by
  obtain ⟨hn0, hn1, hb⟩ := id hT
  obtain ⟨zs1, zs2, -⟩ := skS_b b n i
  have zs2 := zs2 (by omega)
  have zh := hrS_b hb (skS b n i)
  refine Ev.mk (by decide +kernel) [_, _] rfl (Nat.le_of_ble_eq_true rfl) (fun w hc he => ?_)
  refine j_aload_n hc dX3_takes_0 rfl ?_
  refine j_callU (d' := d - 1) hc dX3_takes_1 uX3_31_c4 zQ (ev_X3_skipBlanks_c4 (by omega) zQ zT hT hi0 (by omega)) rfl (by omega) (by omega) (by omega) rfl rfl (Nat.le_of_ble_eq_true rfl) (retN fun zq1 zp1 => ?_)
  obtain ⟨zQ1, zF1⟩ := zp1
  have zT_q1 := (zF1 _ (by first | (simp; done) | (simp; omega))).trans zT.1
  have zT2_q1 := (zF1 _ (by first | (simp; done) | (simp; omega))).trans zT.2
  have zt1 : TpA zq1 b n := ⟨zT_q1, zT2_q1⟩
  refine j_aload_n hc dX3_takes_4 rfl ?_
  refine j_callU (d' := d - 1) hc dX3_takes_5 uX3_34_c4 zQ1 (ev_X3_here_c4 (by omega) zQ1 zt1 hT (by omega) (by omega)) rfl (by omega) (by omega) (by omega) rfl rfl (Nat.le_of_ble_eq_true rfl) (ret1 ?_)
  refine j_iload_n hc dX3_takes_8 rfl ?_
  refine j_icmp_eq (tgt := 14) hc dX3_takes_9 (by decide) ⟨by omega, by omega⟩ ⟨by omega, by omega⟩ (fun zc1 => ?_) (fun zc1 => ?_)
  · refine j_aload_n hc dX3_takes_14 rfl ?_
    refine j_dup hc dX3_takes_15 rfl ?_
    refine j_get hc dX3_takes_16 fX3_15_c4 zQ1 rfl ?_
    refine j_iconst hc dX3_takes_19 ?_
    refine j_iadd hc dX3_takes_20 ?_
    refine j_put (fs' := _ :: _ :: _ :: rs) hc dX3_takes_21 pX3_15_c4 zQ1 rfl rfl ?_
    generalize ezh1 : up _ _ _ = zh1
    have zQ_zh1 := (congrFun ezh1 _).symm.trans (up_same _ _ _)
    have zT_zh1 := (congrFun ezh1 _).symm.trans ((up_ne (by simp)).trans zT_q1)
    have zT2_zh1 := (congrFun ezh1 _).symm.trans ((up_ne (by simp)).trans zT2_q1)
    refine j_iconst hc dX3_takes_24 ?_
    exact j_zret hc he dX3_takes_25 rfl (by omega) (by omega) (by first | exact Or.inl rfl | exact Or.inr rfl) ⟨_, rfl, by rw [if_pos (by assumption)], by rw [if_pos (by assumption)]; exact zQ_zh1, by rw [← ezh1]; exact zF1.push rfl⟩
  · refine j_iconst hc dX3_takes_12 ?_
    exact j_zret hc he dX3_takes_13 rfl (by omega) (by omega) (by first | exact Or.inl rfl | exact Or.inr rfl) ⟨_, rfl, by rw [if_neg (by assumption)], by rw [if_neg (by assumption)]; exact zQ1, zF1⟩
set_option maxRecDepth 100000 in
set_option maxHeartbeats 4000000 in
theorem ev_X3_needs_c4 {k : WC} {d : Nat} {h : AH} {b : Int → Int} {n i : Int} {rs : List AV} {cc : Int} (hd : 2 ≤ d) (zQ : h (9, 0) = some (oO 4 (vR (1, 0) :: vI i :: vI (-1) :: rs))) (zT : TpA h b n) (hT : TpOK b n) (hi0 : 0 ≤ i) (hi1 : i ≤ n) (hc0 : 0 ≤ cc) (hc1 : cc ≤ 255) : Ev k d mdX3_needs h [vR (9, 0), vI cc] 0 0 (pe fun v h' => v = vI (if hrS b n (skS b n i) = cc then 1 else 0) ∧ h' (9, 0) = some (oO 4 (vR (1, 0) :: vI (if hrS b n (skS b n i) = cc then skS b n i + 1 else skS b n i) :: vI (if hrS b n (skS b n i) = cc then -1 else skS b n i) :: rs)) ∧ Fr (fun z => z = (9, 0)) h h') := by
  obtain ⟨hn0, hn1, hb⟩ := id hT
  obtain ⟨zs1, zs2, -⟩ := skS_b b n i
  have zs2 := zs2 (by omega)
  have zh := hrS_b hb (skS b n i)
  refine Ev.mk (by decide +kernel) [_, _] rfl (Nat.le_of_ble_eq_true rfl) (fun w hc he => ?_)
  refine j_aload_n hc dX3_needs_0 rfl ?_
  refine j_callU (d' := d - 1) hc dX3_needs_1 uX3_31_c4 zQ (ev_X3_skipBlanks_c4 (by omega) zQ zT hT hi0 (by omega)) rfl (by omega) (by omega) (by omega) rfl rfl (Nat.le_of_ble_eq_true rfl) (retN fun zq1 zp1 => ?_)
  obtain ⟨zQ1, zF1⟩ := zp1
  have zT_q1 := (zF1 _ (by first | (simp; done) | (simp; omega))).trans zT.1
  have zT2_q1 := (zF1 _ (by first | (simp; done) | (simp; omega))).trans zT.2
  have zt1 : TpA zq1 b n := ⟨zT_q1, zT2_q1⟩
  refine j_aload_n hc dX3_needs_4 rfl ?_
  refine j_callU (d' := d - 1) hc dX3_needs_5 uX3_34_c4 zQ1 (ev_X3_here_c4 (by omega) zQ1 zt1 hT (by omega) (by omega)) rfl (by omega) (by omega) (by omega) rfl rfl (Nat.le_of_ble_eq_true rfl) (ret1 ?_)
  refine j_iload_n hc dX3_needs_8 rfl ?_
  refine j_icmp_eq (tgt := 21) hc dX3_needs_9 (by decide) ⟨by omega, by omega⟩ ⟨by omega, by omega⟩ (fun zc1 => ?_) (fun zc1 => ?_)
  · refine j_aload_n hc dX3_needs_21 rfl ?_
    refine j_dup hc dX3_needs_22 rfl ?_
    refine j_get hc dX3_needs_23 fX3_15_c4 zQ1 rfl ?_
    refine j_iconst hc dX3_needs_26 ?_
    refine j_iadd hc dX3_needs_27 ?_
    refine j_put (fs' := _ :: _ :: _ :: rs) hc dX3_needs_28 pX3_15_c4 zQ1 rfl rfl ?_
    generalize ezh1 : up _ _ _ = zh1
    have zQ_zh1 := (congrFun ezh1 _).symm.trans (up_same _ _ _)
    have zT_zh1 := (congrFun ezh1 _).symm.trans ((up_ne (by simp)).trans zT_q1)
    have zT2_zh1 := (congrFun ezh1 _).symm.trans ((up_ne (by simp)).trans zT2_q1)
    refine j_iconst hc dX3_needs_31 ?_
    exact j_zret hc he dX3_needs_32 rfl (by omega) (by omega) (by first | exact Or.inl rfl | exact Or.inr rfl) ⟨_, rfl, by rw [if_pos (by assumption)], by rw [if_pos (by assumption), if_pos (by assumption)]; exact zQ_zh1, by rw [← ezh1]; exact zF1.push rfl⟩
  · refine j_aload_n hc dX3_needs_12 rfl ?_
    refine j_aload_n hc dX3_needs_13 rfl ?_
    refine j_get hc dX3_needs_14 fX3_15_c4 zQ1 rfl ?_
    refine j_callU (d' := d - 1) hc dX3_needs_17 uX3_38_c4 zQ1 (ev_X3_isWrongAt_c4 (by omega) zQ1) rfl (by omega) (by omega) (by omega) rfl rfl (Nat.le_of_ble_eq_true rfl) (retE fun zv17 zq17 zp17 => ?_)
    obtain ⟨zv, zQ17, zF17⟩ := zp17
    subst zv
    exact j_zret hc he dX3_needs_20 rfl (by omega) (by omega) (Or.inl rfl) ⟨_, rfl, by rw [if_neg (by assumption)], by rw [if_neg (by assumption), if_neg (by assumption)]; exact zQ17, zF1.tr zF17⟩
set_option maxRecDepth 100000 in
set_option maxHeartbeats 4000000 in
theorem ev_X3_faultAtEnd_c4 {k : WC} {d : Nat} {h : AH} {b : Int → Int} {n i ff : Int} {rs : List AV} (hd : 1 ≤ d) (zQ : h (9, 0) = some (oO 4 (vR (1, 0) :: vI i :: vI ff :: rs))) (zT : TpA h b n) (hT : TpOK b n) (hi0 : 0 ≤ i) (hi1 : i ≤ n) (hf0 : -1 ≤ ff) (hf1 : ff ≤ n) : Ev k d mdX3_faultAtEnd h [vR (9, 0)] 0 0 (pe fun v h' => v = vI (if ff = -1 ∧ i < n then i else ff) ∧ (∃ ff', h' (9, 0) = some (oO 4 (vR (1, 0) :: vI i :: vI ff' :: rs))) ∧ Fr (fun z => z = (9, 0)) h h') := by
  obtain ⟨hn0, hn1, hb⟩ := id hT
  refine Ev.mk (by decide +kernel) [_] rfl (Nat.le_of_ble_eq_true rfl) (fun w hc he => ?_)
  refine j_aload_n hc dX3_faultAtEnd_0 rfl ?_
  refine j_get hc dX3_faultAtEnd_1 fX3_19_c4 zQ rfl ?_
  refine j_iconst hc dX3_faultAtEnd_4 ?_
  refine j_icmp_ne (tgt := 30) hc dX3_faultAtEnd_5 (by decide) ⟨by omega, by omega⟩ ⟨by omega, by omega⟩ (fun zc1 => ?_) (fun zc1 => ?_)
  · refine j_aload_n hc dX3_faultAtEnd_30 rfl ?_
    refine j_get hc dX3_faultAtEnd_31 fX3_19_c4 zQ rfl ?_
    exact j_iret hc he dX3_faultAtEnd_34 rfl (by omega) (by omega) ⟨_, rfl, by rw [if_neg (by omega)], ⟨_, zQ⟩, Fr.rf _ _⟩
  · refine j_aload_n hc dX3_faultAtEnd_8 rfl ?_
    refine j_get hc dX3_faultAtEnd_9 fX3_15_c4 zQ rfl ?_
    refine j_aload_n hc dX3_faultAtEnd_12 rfl ?_
    refine j_get hc dX3_faultAtEnd_13 fX3_9_c4 zQ rfl ?_
    refine j_get hc dX3_faultAtEnd_16 fX3_22 zT.1 rfl ?_
    refine j_icmp_ge (tgt := 30) hc dX3_faultAtEnd_19 (by decide) ⟨by omega, by omega⟩ ⟨by omega, by omega⟩ (fun zc2 => ?_) (fun zc2 => ?_)
    · refine j_aload_n hc dX3_faultAtEnd_30 rfl ?_
      refine j_get hc dX3_faultAtEnd_31 fX3_19_c4 zQ rfl ?_
      exact j_iret hc he dX3_faultAtEnd_34 rfl (by omega) (by omega) ⟨_, rfl, by rw [if_neg (by omega)], ⟨_, zQ⟩, Fr.rf _ _⟩
    · refine j_aload_n hc dX3_faultAtEnd_22 rfl ?_
      refine j_aload_n hc dX3_faultAtEnd_23 rfl ?_
      refine j_get hc dX3_faultAtEnd_24 fX3_15_c4 zQ rfl ?_
      refine j_put (fs' := _ :: _ :: _ :: rs) hc dX3_faultAtEnd_27 pX3_19_c4 zQ rfl rfl ?_
      generalize ezh1 : up _ _ _ = zh1
      have zQ_zh1 := (congrFun ezh1 _).symm.trans (up_same _ _ _)
      have zT_zh1 := (congrFun ezh1 _).symm.trans ((up_ne (by simp)).trans zT.1)
      have zT2_zh1 := (congrFun ezh1 _).symm.trans ((up_ne (by simp)).trans zT.2)
      refine j_aload_n hc dX3_faultAtEnd_30 rfl ?_
      refine j_get hc dX3_faultAtEnd_31 fX3_19_c4 zQ_zh1 rfl ?_
      exact j_iret hc he dX3_faultAtEnd_34 rfl (by omega) (by omega) ⟨_, rfl, by rw [if_pos ⟨by assumption, by omega⟩], ⟨_, zQ_zh1⟩, by rw [← ezh1]; exact (Fr.rf (fun z => z = (9, 0)) _).push rfl⟩
set_option maxRecDepth 100000 in
set_option maxHeartbeats 4000000 in
theorem ev_X3_isDigit {k : WC} {d : Nat} {h : AH} {x : Int} (hd : 1 ≤ d) (hx : inI x) : Ev k d mdX3_isDigit h [vI x] 0 0 (pr (vI (if dgS x then 1 else 0)) h) := by
  refine Ev.mk (by decide +kernel) [_] rfl (Nat.le_of_ble_eq_true rfl) (fun w hc he => ?_)
  refine j_iload_n hc dX3_isDigit_0 rfl ?_
  refine j_bipush hc dX3_isDigit_1 (by decide) ?_
  refine j_icmp_lt (tgt := 16) hc dX3_isDigit_3 (by decide) ⟨by omega, by omega⟩ ⟨by omega, by omega⟩ (fun zc1 => ?_) (fun zc1 => ?_)
  · refine j_iconst hc dX3_isDigit_16 ?_
    exact j_zret hc he dX3_isDigit_17 rfl (by omega) (by omega) (by first | exact Or.inl rfl | exact Or.inr rfl) ⟨vI_eq (by first | rw [if_pos ⟨by omega, by omega⟩] | rw [if_neg (by omega)]), rfl⟩
  · refine j_iload_n hc dX3_isDigit_6 rfl ?_
    refine j_bipush hc dX3_isDigit_7 (by decide) ?_
    refine j_icmp_gt (tgt := 16) hc dX3_isDigit_9 (by decide) ⟨by omega, by omega⟩ ⟨by omega, by omega⟩ (fun zc2 => ?_) (fun zc2 => ?_)
    · refine j_iconst hc dX3_isDigit_16 ?_
      exact j_zret hc he dX3_isDigit_17 rfl (by omega) (by omega) (by first | exact Or.inl rfl | exact Or.inr rfl) ⟨vI_eq (by first | rw [if_pos ⟨by omega, by omega⟩] | rw [if_neg (by omega)]), rfl⟩
    · refine j_iconst hc dX3_isDigit_12 ?_
      refine j_goto (tgt := 17) hc dX3_isDigit_13 (by decide) ?_
      exact j_zret hc he dX3_isDigit_17 rfl (by omega) (by omega) (by first | exact Or.inl rfl | exact Or.inr rfl) ⟨vI_eq (by first | rw [if_pos ⟨by omega, by omega⟩] | rw [if_neg (by omega)]), rfl⟩
