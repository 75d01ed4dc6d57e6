/-! ===== the rule's own methods ===== -/
set_option maxRecDepth 100000 in
set_option maxHeartbeats 4000000 in
theorem ev_X4_push {k : WC} {d : Nat} {h : AH} {r : Int} {cl : Nat} {cf lt : Int → Int} {t : List Int} {v : Int} (hd : 1 ≤ d) (hU : RuleAt h r cl cf t lt) (hl : t.length ≤ 64)  : Ev k d mdX4_push h [vR (60, r), vI v] 0 0 (pn fun h' => RuleAt h' r cl cf (psh t v) lt ∧ Fr (isRule r) h h') := by
  obtain ⟨zu60, zu61, ⟨zg, zu62, zsk⟩, zu63⟩ := id hU
  refine Ev.mk (by decide +kernel) [_, _] rfl (Nat.le_of_ble_eq_true rfl) (fun w hc he => ?_)
  refine j_aload_n hc dX4_push_0 rfl ?_
  refine j_get hc dX4_push_1 fX4_21 zu60 rfl ?_
  refine j_aload_n hc dX4_push_4 rfl ?_
  refine j_get hc dX4_push_5 fX4_15 zu60 rfl ?_
  refine j_alenP hc dX4_push_8 zu62 (by decide) ?_
  refine j_icmp_ge (tgt := 32) hc dX4_push_9 (by decide) ⟨by omega, by omega⟩ ⟨by omega, by omega⟩ (fun zc1 => ?_) (fun zc1 => ?_)
  · exact j_vret hc he dX4_push_32 rfl (by omega) (by omega) ⟨rfl, by unfold psh; rw [if_neg (by omega)]; exact hU, Fr.rf _ _⟩
  · refine j_aload_n hc dX4_push_12 rfl ?_
    refine j_get hc dX4_push_13 fX4_15 zu60 rfl ?_
    refine j_aload_n hc dX4_push_16 rfl ?_
    refine j_get hc dX4_push_17 fX4_21 zu60 rfl ?_
    refine j_iload_n hc dX4_push_20 rfl ?_
    refine j_iast hc dX4_push_21 zu62 (by omega) (by omega) ?_
    generalize ezh1 : up _ _ _ = zh1
    have zU_zh1 := (congrFun ezh1 _).symm.trans ((up_ne (by simp)).trans zu60)
    have zU61_zh1 := (congrFun ezh1 _).symm.trans ((up_ne (by simp)).trans zu61)
    have zU62_zh1 := (congrFun ezh1 _).symm.trans (up_same _ _ _)
    have zU63_zh1 := (congrFun ezh1 _).symm.trans ((up_ne (by simp)).trans zu63)
    refine j_aload_n hc dX4_push_22 rfl ?_
    refine j_dup hc dX4_push_23 rfl ?_
    refine j_get hc dX4_push_24 fX4_21 zU_zh1 rfl ?_
    refine j_iconst hc dX4_push_27 ?_
    refine j_iadd hc dX4_push_28 ?_
    refine j_put (fs' := [_, _, _, _]) hc dX4_push_29 pX4_21 zU_zh1 rfl rfl ?_
    generalize ezh2 : up _ _ _ = zh2
    have zU_zh2 := (congrFun ezh2 _).symm.trans (up_same _ _ _)
    have zU61_zh2 := (congrFun ezh2 _).symm.trans ((up_ne (by simp)).trans zU61_zh1)
    have zU62_zh2 := (congrFun ezh2 _).symm.trans ((up_ne (by simp)).trans zU62_zh1)
    have zU63_zh2 := (congrFun ezh2 _).symm.trans ((up_ne (by simp)).trans zU63_zh1)
    exact j_vret hc he dX4_push_32 rfl (by omega) (by omega) ⟨rfl, by unfold psh; rw [if_pos (by omega)]; exact ⟨zU_zh2, zU61_zh2, ⟨_, zU62_zh2, fu_same _ _ _, SkR_fu (Int.le_refl _) zsk⟩, zU63_zh2⟩, by rw [← ezh2, ← ezh1]; exact (Fr.up (Or.inr (Or.inl rfl))).push (Or.inl rfl)⟩
set_option maxRecDepth 100000 in
set_option maxHeartbeats 4000000 in
theorem ev_X4_pull {k : WC} {d : Nat} {h : AH} {r : Int} {cl : Nat} {cf lt : Int → Int} {t : List Int} (hd : 1 ≤ d) (hU : RuleAt h r cl cf t lt) (hl : t.length ≤ 64)  : Ev k d mdX4_pull h [vR (60, r)] 0 0 (pe fun v h' => v = vI (pll t).1 ∧ RuleAt h' r cl cf (pll t).2 lt ∧ Fr (isRule r) h h') := by
  obtain ⟨zu60, zu61, ⟨zg, zu62, zsk⟩, zu63⟩ := id hU
  refine Ev.mk (by decide +kernel) [_] rfl (Nat.le_of_ble_eq_true rfl) (fun w hc he => ?_)
  refine j_aload_n hc dX4_pull_0 rfl ?_
  refine j_get hc dX4_pull_1 fX4_21 zu60 rfl ?_
  refine j_if_gt (b := 0) (tgt := 9) hc dX4_pull_4 (by decide) ⟨by omega, by omega⟩ (fun zc1 => ?_) (fun zc1 => ?_)
  · obtain ⟨zv, zt, rfl⟩ : ∃ zv zt, t = zv :: zt := List.exists_cons_of_ne_nil (fun ze => by rw [ze] at zc1; simp at zc1)
    have zle : ((zv :: zt).length : Int) = zt.length + 1 := rfl
    refine j_aload_n hc dX4_pull_9 rfl ?_
    refine j_dup hc dX4_pull_10 rfl ?_
    refine j_get hc dX4_pull_11 fX4_21 zu60 rfl ?_
    refine j_iconst hc dX4_pull_14 ?_
    refine j_isub hc dX4_pull_15 ?_
    refine j_put (fs' := [_, _, _, _]) hc dX4_pull_16 pX4_21 zu60 rfl rfl ?_
    generalize ezh1 : up _ _ _ = zh1
    have zU_zh1 := (congrFun ezh1 _).symm.trans (up_same _ _ _)
    have zU61_zh1 := (congrFun ezh1 _).symm.trans ((up_ne (by simp)).trans zu61)
    have zU62_zh1 := (congrFun ezh1 _).symm.trans ((up_ne (by simp)).trans zu62)
    have zU63_zh1 := (congrFun ezh1 _).symm.trans ((up_ne (by simp)).trans zu63)
    refine j_aload_n hc dX4_pull_19 rfl ?_
    refine j_get hc dX4_pull_20 fX4_15 zU_zh1 rfl ?_
    refine j_aload_n hc dX4_pull_23 rfl ?_
    refine j_get hc dX4_pull_24 fX4_21 zU_zh1 rfl ?_
    have zix : ((zv :: zt).length : Int) - 1 = zt.length := by omega
    refine j_iald hc dX4_pull_27 zU62_zh1 (by omega) (by omega) ?_
    exact j_iret hc he dX4_pull_28 rfl (by omega) (by omega) ⟨_, rfl, by rw [zix, zsk.1]; rfl, ⟨(by rw [zix] at zU_zh1; exact zU_zh1), zU61_zh1, ⟨_, zU62_zh1, zsk.2⟩, zU63_zh1⟩, by rw [← ezh1]; exact Fr.up (Or.inl rfl)⟩
  · refine j_iconst hc dX4_pull_7 ?_
    exact j_iret hc he dX4_pull_8 rfl (by omega) (by omega) ⟨_, rfl, by rw [List.eq_nil_of_length_eq_zero (show t.length = 0 by omega)]; rfl, by rw [List.eq_nil_of_length_eq_zero (show t.length = 0 by omega)] at hU ⊢; exact hU, Fr.rf _ _⟩
set_option maxRecDepth 100000 in
set_option maxHeartbeats 4000000 in
theorem ev_X4_isTrue {k : WC} {d : Nat} {h : AH} {q x z : Int} (hd : 1 ≤ d) (hq : inI q) (hx : inI x) (hz : inI z) : Ev k d mdX4_isTrue h [vI q, vI x, vI z] 0 0 (pr (vI (trS q x z)) h) := by
  refine Ev.mk (by decide +kernel) [_, _, _] rfl (Nat.le_of_ble_eq_true rfl) (fun w hc he => ?_)
  refine j_iload_n hc dX4_isTrue_0 rfl ?_
  rcases (by omega : (q < -13 ∨ -10 < q) ∨ q = -13 ∨ q = -12 ∨ q = -11 ∨ q = -10) with zc1 | zc1 | zc1 | zc1 | zc1
  · refine j_tableOut (tgt := 79) hc dX4_isTrue_1 ⟨by omega, by omega⟩ zc1 (by decide) ?_
    refine j_iload_n hc dX4_isTrue_79 rfl ?_
    refine j_if_ne (b := 0) (tgt := 87) hc dX4_isTrue_80 (by decide) ⟨by omega, by omega⟩ (fun zc2 => ?_) (fun zc2 => ?_)
    · refine j_iconst hc dX4_isTrue_87 ?_
      refine j_goto (tgt := 92) hc dX4_isTrue_88 (by decide) ?_
      exact j_zret hc he dX4_isTrue_92 rfl (by omega) (by omega) (by first | exact Or.inl rfl | exact Or.inr rfl) ⟨vI_eq (by unfold trS; (try subst zc1); repeat (first | rw [if_pos (by omega)] | rw [if_neg (by omega)])), rfl⟩
    · refine j_iload_n hc dX4_isTrue_83 rfl ?_
      refine j_if_eq (b := 0) (tgt := 91) hc dX4_isTrue_84 (by decide) ⟨by omega, by omega⟩ (fun zc3 => ?_) (fun zc3 => ?_)
      · refine j_iconst hc dX4_isTrue_91 ?_
        exact j_zret hc he dX4_isTrue_92 rfl (by omega) (by omega) (by first | exact Or.inl rfl | exact Or.inr rfl) ⟨vI_eq (by unfold trS; (try subst zc1); repeat (first | rw [if_pos (by omega)] | rw [if_neg (by omega)])), rfl⟩
      · refine j_iconst hc dX4_isTrue_87 ?_
        refine j_goto (tgt := 92) hc dX4_isTrue_88 (by decide) ?_
        exact j_zret hc he dX4_isTrue_92 rfl (by omega) (by omega) (by first | exact Or.inl rfl | exact Or.inr rfl) ⟨vI_eq (by unfold trS; (try subst zc1); repeat (first | rw [if_pos (by omega)] | rw [if_neg (by omega)])), rfl⟩
  · refine j_tableIn (tgt := 65) (off := 64) hc dX4_isTrue_1 ⟨by omega, by omega⟩ (by omega) (by omega) (by rw [zc1]; rfl) (by decide) ?_
    refine j_iload_n hc dX4_isTrue_65 rfl ?_
    refine j_if_eq (b := 0) (tgt := 77) hc dX4_isTrue_66 (by decide) ⟨by omega, by omega⟩ (fun zc4 => ?_) (fun zc4 => ?_)
    · refine j_iconst hc dX4_isTrue_77 ?_
      exact j_zret hc he dX4_isTrue_78 rfl (by omega) (by omega) (by first | exact Or.inl rfl | exact Or.inr rfl) ⟨vI_eq (by unfold trS; (try subst zc1); repeat (first | rw [if_pos (by omega)] | rw [if_neg (by omega)])), rfl⟩
    · refine j_iload_n hc dX4_isTrue_69 rfl ?_
      refine j_if_eq (b := 0) (tgt := 77) hc dX4_isTrue_70 (by decide) ⟨by omega, by omega⟩ (fun zc5 => ?_) (fun zc5 => ?_)
      · refine j_iconst hc dX4_isTrue_77 ?_
        exact j_zret hc he dX4_isTrue_78 rfl (by omega) (by omega) (by first | exact Or.inl rfl | exact Or.inr rfl) ⟨vI_eq (by unfold trS; (try subst zc1); repeat (first | rw [if_pos (by omega)] | rw [if_neg (by omega)])), rfl⟩
      · refine j_iconst hc dX4_isTrue_73 ?_
        refine j_goto (tgt := 78) hc dX4_isTrue_74 (by decide) ?_
        exact j_zret hc he dX4_isTrue_78 rfl (by omega) (by omega) (by first | exact Or.inl rfl | exact Or.inr rfl) ⟨vI_eq (by unfold trS; (try subst zc1); repeat (first | rw [if_pos (by omega)] | rw [if_neg (by omega)])), rfl⟩
  · refine j_tableIn (tgt := 54) (off := 53) hc dX4_isTrue_1 ⟨by omega, by omega⟩ (by omega) (by omega) (by rw [zc1]; rfl) (by decide) ?_
    refine j_iload_n hc dX4_isTrue_54 rfl ?_
    refine j_iload_n hc dX4_isTrue_55 rfl ?_
    refine j_icmp_le (tgt := 63) hc dX4_isTrue_56 (by decide) ⟨by omega, by omega⟩ ⟨by omega, by omega⟩ (fun zc6 => ?_) (fun zc6 => ?_)
    · refine j_iconst hc dX4_isTrue_63 ?_
      exact j_zret hc he dX4_isTrue_64 rfl (by omega) (by omega) (by first | exact Or.inl rfl | exact Or.inr rfl) ⟨vI_eq (by unfold trS; (try subst zc1); repeat (first | rw [if_pos (by omega)] | rw [if_neg (by omega)])), rfl⟩
    · refine j_iconst hc dX4_isTrue_59 ?_
      refine j_goto (tgt := 64) hc dX4_isTrue_60 (by decide) ?_
      exact j_zret hc he dX4_isTrue_64 rfl (by omega) (by omega) (by first | exact Or.inl rfl | exact Or.inr rfl) ⟨vI_eq (by unfold trS; (try subst zc1); repeat (first | rw [if_pos (by omega)] | rw [if_neg (by omega)])), rfl⟩
  · refine j_tableIn (tgt := 43) (off := 42) hc dX4_isTrue_1 ⟨by omega, by omega⟩ (by omega) (by omega) (by rw [zc1]; rfl) (by decide) ?_
    refine j_iload_n hc dX4_isTrue_43 rfl ?_
    refine j_iload_n hc dX4_isTrue_44 rfl ?_
    refine j_icmp_ge (tgt := 52) hc dX4_isTrue_45 (by decide) ⟨by omega, by omega⟩ ⟨by omega, by omega⟩ (fun zc7 => ?_) (fun zc7 => ?_)
    · refine j_iconst hc dX4_isTrue_52 ?_
      exact j_zret hc he dX4_isTrue_53 rfl (by omega) (by omega) (by first | exact Or.inl rfl | exact Or.inr rfl) ⟨vI_eq (by unfold trS; (try subst zc1); repeat (first | rw [if_pos (by omega)] | rw [if_neg (by omega)])), rfl⟩
    · refine j_iconst hc dX4_isTrue_48 ?_
      refine j_goto (tgt := 53) hc dX4_isTrue_49 (by decide) ?_
      exact j_zret hc he dX4_isTrue_53 rfl (by omega) (by omega) (by first | exact Or.inl rfl | exact Or.inr rfl) ⟨vI_eq (by unfold trS; (try subst zc1); repeat (first | rw [if_pos (by omega)] | rw [if_neg (by omega)])), rfl⟩
  · refine j_tableIn (tgt := 32) (off := 31) hc dX4_isTrue_1 ⟨by omega, by omega⟩ (by omega) (by omega) (by rw [zc1]; rfl) (by decide) ?_
    refine j_iload_n hc dX4_isTrue_32 rfl ?_
    refine j_iload_n hc dX4_isTrue_33 rfl ?_
    refine j_icmp_ne (tgt := 41) hc dX4_isTrue_34 (by decide) ⟨by omega, by omega⟩ ⟨by omega, by omega⟩ (fun zc8 => ?_) (fun zc8 => ?_)
    · refine j_iconst hc dX4_isTrue_41 ?_
      exact j_zret hc he dX4_isTrue_42 rfl (by omega) (by omega) (by first | exact Or.inl rfl | exact Or.inr rfl) ⟨vI_eq (by unfold trS; (try subst zc1); repeat (first | rw [if_pos (by omega)] | rw [if_neg (by omega)])), rfl⟩
    · refine j_iconst hc dX4_isTrue_37 ?_
      refine j_goto (tgt := 42) hc dX4_isTrue_38 (by decide) ?_
      exact j_zret hc he dX4_isTrue_42 rfl (by omega) (by omega) (by first | exact Or.inl rfl | exact Or.inr rfl) ⟨vI_eq (by unfold trS; (try subst zc1); repeat (first | rw [if_pos (by omega)] | rw [if_neg (by omega)])), rfl⟩
set_option maxRecDepth 100000 in
set_option maxHeartbeats 4000000 in
theorem ev_X4_reckoned {k : WC} {d : Nat} {h : AH} {q x z : Int} (hd : 1 ≤ d) (hq : inI q) (hx : inI x) (hz : inI z) : Ev k d mdX4_reckoned h [vI q, vL x, vL z] 0 0 (pr (vI (rkS q x z)) h) := by
  have zmb := imul_b hx hz
  have ztb := tdiv_b (y := z) hx
  refine Ev.mk (by decide +kernel) [_, _, _, _, _, _, _] rfl (Nat.le_of_ble_eq_true rfl) (fun w hc he => ?_)
  refine j_iload_n hc dX4_reckoned_0 rfl ?_
  rcases (by omega : (q < -8 ∨ -6 < q) ∨ q = -8 ∨ q = -7 ∨ q = -6) with zc1 | zc1 | zc1 | zc1
  · refine j_tableOut (tgt := 52) hc dX4_reckoned_1 ⟨by omega, by omega⟩ zc1 (by decide) ?_
    refine j_lload_n hc dX4_reckoned_52 rfl ?_
    refine j_lconst (x := 0) hc dX4_reckoned_53 (by decide) ?_
    refine j_lcmp hc dX4_reckoned_54 ⟨by omega, by omega⟩ ⟨by omega, by omega⟩ ?_
    refine j_if_ne (b := 0) (tgt := 62) hc dX4_reckoned_55 (by decide) (by unfold lc; split <;> (try split) <;> exact ⟨by omega, by omega⟩) (fun zc2 => ?_) (fun zc2 => ?_)
    · have zc_2 : z ≠ 0 := by unfold lc at zc2; split at zc2 <;> (try split at zc2) <;> omega
      refine j_lload_n hc dX4_reckoned_62 rfl ?_
      refine j_lload_n hc dX4_reckoned_63 rfl ?_
      refine j_ldiv hc dX4_reckoned_64 ⟨by omega, by omega⟩ ⟨by omega, by omega⟩ (by omega) ?_
      refine j_lstore (L' := [_, _, _, _, _, _, _]) hc dX4_reckoned_65 (Nat.le_of_ble_eq_true rfl) rfl ?_
      refine j_ldc2 (x := -1000000) hc dX4_reckoned_67 kX4_44 (by decide) ?_
      refine j_ldc2 (x := 1000000) hc dX4_reckoned_70 kX4_46 (by decide) ?_
      refine j_lload hc dX4_reckoned_73 rfl ?_
      refine j_mminL hc dX4_reckoned_75 mX4_48 mo_minL ⟨by omega, by omega⟩ ⟨by omega, by omega⟩ (by omega) (by omega) rfl (by omega) (Nat.le_of_ble_eq_true rfl) ?_
      refine j_mmaxL hc dX4_reckoned_78 mX4_54 mo_maxL ⟨by omega, by omega⟩ ⟨by omega, by omega⟩ (by omega) (by omega) rfl (by omega) (Nat.le_of_ble_eq_true rfl) ?_
      refine j_l2i hc dX4_reckoned_81 ?_
      exact j_iret hc he dX4_reckoned_82 rfl (by omega) (by omega) ⟨vI_eq (by unfold rkS clS; (try subst zc1); repeat (first | rw [if_pos (by omega)] | rw [if_neg (by omega)])), rfl⟩
    · have zc_3 : z = 0 := by unfold lc at zc2; split at zc2 <;> (try split at zc2) <;> omega
      refine j_lconst (x := 0) hc dX4_reckoned_58 (by decide) ?_
      refine j_goto (tgt := 65) hc dX4_reckoned_59 (by decide) ?_
      refine j_lstore (L' := [_, _, _, _, _, _, _]) hc dX4_reckoned_65 (Nat.le_of_ble_eq_true rfl) rfl ?_
      refine j_ldc2 (x := -1000000) hc dX4_reckoned_67 kX4_44 (by decide) ?_
      refine j_ldc2 (x := 1000000) hc dX4_reckoned_70 kX4_46 (by decide) ?_
      refine j_lload hc dX4_reckoned_73 rfl ?_
      refine j_mminL hc dX4_reckoned_75 mX4_48 mo_minL ⟨by omega, by omega⟩ ⟨by omega, by omega⟩ (by omega) (by omega) rfl (by omega) (Nat.le_of_ble_eq_true rfl) ?_
      refine j_mmaxL hc dX4_reckoned_78 mX4_54 mo_maxL ⟨by omega, by omega⟩ ⟨by omega, by omega⟩ (by omega) (by omega) rfl (by omega) (Nat.le_of_ble_eq_true rfl) ?_
      refine j_l2i hc dX4_reckoned_81 ?_
      exact j_iret hc he dX4_reckoned_82 rfl (by omega) (by omega) ⟨vI_eq (by unfold rkS clS; (try subst zc1); repeat (first | rw [if_pos (by omega)] | rw [if_neg (by omega)])), rfl⟩
  · refine j_tableIn (tgt := 44) (off := 43) hc dX4_reckoned_1 ⟨by omega, by omega⟩ (by omega) (by omega) (by rw [zc1]; rfl) (by decide) ?_
    refine j_lload_n hc dX4_reckoned_44 rfl ?_
    refine j_lload_n hc dX4_reckoned_45 rfl ?_
    refine j_lmul hc dX4_reckoned_46 ?_
    refine j_lstore (L' := [_, _, _, _, _, _, _]) hc dX4_reckoned_47 (Nat.le_of_ble_eq_true rfl) rfl ?_
    refine j_goto (tgt := 67) hc dX4_reckoned_49 (by decide) ?_
    refine j_ldc2 (x := -1000000) hc dX4_reckoned_67 kX4_44 (by decide) ?_
    refine j_ldc2 (x := 1000000) hc dX4_reckoned_70 kX4_46 (by decide) ?_
    refine j_lload hc dX4_reckoned_73 rfl ?_
    refine j_mminL hc dX4_reckoned_75 mX4_48 mo_minL ⟨by omega, by omega⟩ ⟨by omega, by omega⟩ (by omega) (by omega) rfl (by omega) (Nat.le_of_ble_eq_true rfl) ?_
    refine j_mmaxL hc dX4_reckoned_78 mX4_54 mo_maxL ⟨by omega, by omega⟩ ⟨by omega, by omega⟩ (by omega) (by omega) rfl (by omega) (Nat.le_of_ble_eq_true rfl) ?_
    refine j_l2i hc dX4_reckoned_81 ?_
    exact j_iret hc he dX4_reckoned_82 rfl (by omega) (by omega) ⟨vI_eq (by unfold rkS clS; (try subst zc1); repeat (first | rw [if_pos (by omega)] | rw [if_neg (by omega)])), rfl⟩
  · refine j_tableIn (tgt := 36) (off := 35) hc dX4_reckoned_1 ⟨by omega, by omega⟩ (by omega) (by omega) (by rw [zc1]; rfl) (by decide) ?_
    refine j_lload_n hc dX4_reckoned_36 rfl ?_
    refine j_lload_n hc dX4_reckoned_37 rfl ?_
    refine j_lsub hc dX4_reckoned_38 ?_
    refine j_lstore (L' := [_, _, _, _, _, _, _]) hc dX4_reckoned_39 (Nat.le_of_ble_eq_true rfl) rfl ?_
    refine j_goto (tgt := 67) hc dX4_reckoned_41 (by decide) ?_
    refine j_ldc2 (x := -1000000) hc dX4_reckoned_67 kX4_44 (by decide) ?_
    refine j_ldc2 (x := 1000000) hc dX4_reckoned_70 kX4_46 (by decide) ?_
    refine j_lload hc dX4_reckoned_73 rfl ?_
    refine j_mminL hc dX4_reckoned_75 mX4_48 mo_minL ⟨by omega, by omega⟩ ⟨by omega, by omega⟩ (by omega) (by omega) rfl (by omega) (Nat.le_of_ble_eq_true rfl) ?_
    refine j_mmaxL hc dX4_reckoned_78 mX4_54 mo_maxL ⟨by omega, by omega⟩ ⟨by omega, by omega⟩ (by omega) (by omega) rfl (by omega) (Nat.le_of_ble_eq_true rfl) ?_
    refine j_l2i hc dX4_reckoned_81 ?_
    exact j_iret hc he dX4_reckoned_82 rfl (by omega) (by omega) ⟨vI_eq (by unfold rkS clS; (try subst zc1); repeat (first | rw [if_pos (by omega)] | rw [if_neg (by omega)])), rfl⟩
  · refine j_tableIn (tgt := 28) (off := 27) hc dX4_reckoned_1 ⟨by omega, by omega⟩ (by omega) (by omega) (by rw [zc1]; rfl) (by decide) ?_
    refine j_lload_n hc dX4_reckoned_28 rfl ?_
    refine j_lload_n hc dX4_reckoned_29 rfl ?_
    refine j_ladd hc dX4_reckoned_30 ?_
    refine j_lstore (L' := [_, _, _, _, _, _, _]) hc dX4_reckoned_31 (Nat.le_of_ble_eq_true rfl) rfl ?_
    refine j_goto (tgt := 67) hc dX4_reckoned_33 (by decide) ?_
    refine j_ldc2 (x := -1000000) hc dX4_reckoned_67 kX4_44 (by decide) ?_
    refine j_ldc2 (x := 1000000) hc dX4_reckoned_70 kX4_46 (by decide) ?_
    refine j_lload hc dX4_reckoned_73 rfl ?_
    refine j_mminL hc dX4_reckoned_75 mX4_48 mo_minL ⟨by omega, by omega⟩ ⟨by omega, by omega⟩ (by omega) (by omega) rfl (by omega) (Nat.le_of_ble_eq_true rfl) ?_
    refine j_mmaxL hc dX4_reckoned_78 mX4_54 mo_maxL ⟨by omega, by omega⟩ ⟨by omega, by omega⟩ (by omega) (by omega) rfl (by omega) (Nat.le_of_ble_eq_true rfl) ?_
    refine j_l2i hc dX4_reckoned_81 ?_
    exact j_iret hc he dX4_reckoned_82 rfl (by omega) (by omega) ⟨vI_eq (by unfold rkS clS; (try subst zc1); repeat (first | rw [if_pos (by omega)] | rw [if_neg (by omega)])), rfl⟩
set_option maxRecDepth 100000 in
set_option maxHeartbeats 4000000 in
theorem ev_X4_take {k : WC} {d : Nat} {h : AH} {r : Int} {cl : Nat} {cf lt : Int → Int} {t : List Int} {q : Int} (hd : 2 ≤ d) (hU : RuleAt h r cl cf t lt) (hl : t.length ≤ 64) (ht : allI t) (hlt : ∀ j, 0 ≤ j → j ≤ 4 → inI (lt j)) (hq : inI q) : Ev k d mdX4_take h [vR (60, r), vI q] 0 0 (pn fun h' => RuleAt h' r cl cf (tkR lt q t) lt ∧ Fr (isRule r) h h') := by
  obtain ⟨zu60, zu61, ⟨zg, zu62, zsk⟩, zu63⟩ := id hU
  have zp1 := pll_ok ht
  have zp2 := pll_ok zp1.2
  have zl1 := pll_len hl
  have zl2 := pll_len zl1
  refine Ev.mk (by decide +kernel) [_, _, _, _] rfl (Nat.le_of_ble_eq_true rfl) (fun w hc he => ?_)
  refine j_iload_n hc dX4_take_0 rfl ?_
  refine j_if_lt (b := 0) (tgt := 12) hc dX4_take_1 (by decide) ⟨by omega, by omega⟩ (fun zc1 => ?_) (fun zc1 => ?_)
  · refine j_iload_n hc dX4_take_12 rfl ?_
    refine j_bipush hc dX4_take_13 (by decide) ?_
    refine j_icmp_lt (tgt := 33) hc dX4_take_15 (by decide) ⟨by omega, by omega⟩ ⟨by omega, by omega⟩ (fun zc2 => ?_) (fun zc2 => ?_)
    · refine j_iload_n hc dX4_take_33 rfl ?_
      refine j_bipush hc dX4_take_34 (by decide) ?_
      refine j_icmp_ne (tgt := 58) hc dX4_take_36 (by decide) ⟨by omega, by omega⟩ ⟨by omega, by omega⟩ (fun zc3 => ?_) (fun zc3 => ?_)
      · refine j_aload_n hc dX4_take_58 rfl ?_
        refine j_callV (d' := d - 1) hc dX4_take_59 vX4_25 hU.1 (ev_X4_pull (by omega) hU hl) rfl (by omega) (by omega) (by omega) rfl rfl (Nat.le_of_ble_eq_true rfl) (retE fun zv59 zq59 zp59 => ?_)
        obtain ⟨rfl, zU59, zF59⟩ := zp59
        refine j_istore_n (L' := [_, _, _, _]) hc dX4_take_62 (Nat.le_of_ble_eq_true rfl) rfl ?_
        refine j_aload_n hc dX4_take_63 rfl ?_
        refine j_callV (d' := d - 1) hc dX4_take_64 vX4_25 zU59.1 (ev_X4_pull (by omega) zU59 zl1) rfl (by omega) (by omega) (by omega) rfl rfl (Nat.le_of_ble_eq_true rfl) (retE fun zv64 zq64 zp64 => ?_)
        obtain ⟨rfl, zU64, zF64⟩ := zp64
        refine j_istore_n (L' := [_, _, _, _]) hc dX4_take_67 (Nat.le_of_ble_eq_true rfl) rfl ?_
        refine j_aload_n hc dX4_take_68 rfl ?_
        refine j_iload_n hc dX4_take_69 rfl ?_
        refine j_bipush hc dX4_take_70 (by decide) ?_
        refine j_icmp_lt (tgt := 86) hc dX4_take_72 (by decide) ⟨by omega, by omega⟩ ⟨by omega, by omega⟩ (fun zc4 => ?_) (fun zc4 => ?_)
        · refine j_iload_n hc dX4_take_86 rfl ?_
          refine j_iload_n hc dX4_take_87 rfl ?_
          refine j_iload_n hc dX4_take_88 rfl ?_
          refine j_callS (d' := d - 1) hc dX4_take_89 sX4_40 (ev_X4_isTrue (by omega) ⟨by omega, by omega⟩ zp2.1 zp1.1) rfl (by omega) (by omega) (by omega) rfl rfl (Nat.le_of_ble_eq_true rfl) (ret1 ?_)
          refine j_if_eq (b := 0) (tgt := 99) hc dX4_take_92 (by decide) (by have zt9 := trS_01 q (pll (pll t).2).1 (pll t).1; exact ⟨by omega, by omega⟩) (fun zc5 => ?_) (fun zc5 => ?_)
          · have ztr := zc5
            refine j_iconst hc dX4_take_99 ?_
            refine j_callV (d' := d - 1) hc dX4_take_100 vX4_33 zU64.1 (ev_X4_push (by omega) zU64 zl2) rfl (by omega) (by omega) (by omega) rfl rfl (Nat.le_of_ble_eq_true rfl) (retN fun zq100 zp100 => ?_)
            obtain ⟨zU100, zF100⟩ := zp100
            exact j_vret hc he dX4_take_103 rfl (by omega) (by omega) ⟨rfl, by unfold tkR; (repeat (first | rw [if_pos (by omega)] | rw [if_neg (by omega)])); first | exact zU100 | (rw [ztr]; exact zU100), ((zF59.tr zF64).tr zF100)⟩
          · have ztr : trS q (pll (pll t).2).1 (pll t).1 = 1 := by have zt9 := trS_01 q (pll (pll t).2).1 (pll t).1; omega
            refine j_iconst hc dX4_take_95 ?_
            refine j_goto (tgt := 100) hc dX4_take_96 (by decide) ?_
            refine j_callV (d' := d - 1) hc dX4_take_100 vX4_33 zU64.1 (ev_X4_push (by omega) zU64 zl2) rfl (by omega) (by omega) (by omega) rfl rfl (Nat.le_of_ble_eq_true rfl) (retN fun zq100 zp100 => ?_)
            obtain ⟨zU100, zF100⟩ := zp100
            exact j_vret hc he dX4_take_103 rfl (by omega) (by omega) ⟨rfl, by unfold tkR; (repeat (first | rw [if_pos (by omega)] | rw [if_neg (by omega)])); first | exact zU100 | (rw [ztr]; exact zU100), ((zF59.tr zF64).tr zF100)⟩
        · refine j_iload_n hc dX4_take_75 rfl ?_
          refine j_iload_n hc dX4_take_76 rfl ?_
          refine j_i2l hc dX4_take_77 zp2.1 ?_
          refine j_iload_n hc dX4_take_78 rfl ?_
          refine j_i2l hc dX4_take_79 zp1.1 ?_
          refine j_callS (d' := d - 1) hc dX4_take_80 sX4_36 (ev_X4_reckoned (by omega) ⟨by omega, by omega⟩ zp2.1 zp1.1) rfl (by omega) (by omega) (by omega) rfl rfl (Nat.le_of_ble_eq_true rfl) (ret1 ?_)
          refine j_goto (tgt := 100) hc dX4_take_83 (by decide) ?_
          refine j_callV (d' := d - 1) hc dX4_take_100 vX4_33 zU64.1 (ev_X4_push (by omega) zU64 zl2) rfl (by omega) (by omega) (by omega) rfl rfl (Nat.le_of_ble_eq_true rfl) (retN fun zq100 zp100 => ?_)
          obtain ⟨zU100, zF100⟩ := zp100
          exact j_vret hc he dX4_take_103 rfl (by omega) (by omega) ⟨rfl, by unfold tkR; (repeat (first | rw [if_pos (by omega)] | rw [if_neg (by omega)])); first | exact zU100 | (rw [ztr]; exact zU100), ((zF59.tr zF64).tr zF100)⟩
      · refine j_aload_n hc dX4_take_39 rfl ?_
        refine j_aload_n hc dX4_take_40 rfl ?_
        refine j_callV (d' := d - 1) hc dX4_take_41 vX4_25 hU.1 (ev_X4_pull (by omega) hU hl) rfl (by omega) (by omega) (by omega) rfl rfl (Nat.le_of_ble_eq_true rfl) (retE fun zv41 zq41 zp41 => ?_)
        obtain ⟨rfl, zU41, zF41⟩ := zp41
        refine j_if_ne (b := 0) (tgt := 51) hc dX4_take_44 (by decide) zp1.1 (fun zc6 => ?_) (fun zc6 => ?_)
        · refine j_iconst hc dX4_take_51 ?_
          refine j_callV (d' := d - 1) hc dX4_take_52 vX4_33 zU41.1 (ev_X4_push (by omega) zU41 zl1) rfl (by omega) (by omega) (by omega) rfl rfl (Nat.le_of_ble_eq_true rfl) (retN fun zq52 zp52 => ?_)
          obtain ⟨zU52, zF52⟩ := zp52
          refine j_goto (tgt := 103) hc dX4_take_55 (by decide) ?_
          exact j_vret hc he dX4_take_103 rfl (by omega) (by omega) ⟨rfl, by unfold tkR; (repeat (first | rw [if_pos (by omega)] | rw [if_neg (by omega)])); first | exact zU52 | (rw [ztr]; exact zU52), (zF41.tr zF52)⟩
        · refine j_iconst hc dX4_take_47 ?_
          refine j_goto (tgt := 52) hc dX4_take_48 (by decide) ?_
          refine j_callV (d' := d - 1) hc dX4_take_52 vX4_33 zU41.1 (ev_X4_push (by omega) zU41 zl1) rfl (by omega) (by omega) (by omega) rfl rfl (Nat.le_of_ble_eq_true rfl) (retN fun zq52 zp52 => ?_)
          obtain ⟨zU52, zF52⟩ := zp52
          refine j_goto (tgt := 103) hc dX4_take_55 (by decide) ?_
          exact j_vret hc he dX4_take_103 rfl (by omega) (by omega) ⟨rfl, by unfold tkR; (repeat (first | rw [if_pos (by omega)] | rw [if_neg (by omega)])); first | exact zU52 | (rw [ztr]; exact zU52), (zF41.tr zF52)⟩
    · refine j_aload_n hc dX4_take_18 rfl ?_
      refine j_aload_n hc dX4_take_19 rfl ?_
      refine j_get hc dX4_take_20 fX4_18 hU.1 rfl ?_
      refine j_iconst hc dX4_take_23 ?_
      refine j_iload_n hc dX4_take_24 rfl ?_
      refine j_isub hc dX4_take_25 ?_
      refine j_iald hc dX4_take_26 hU.2.2.2 (by omega) (by omega) ?_
      refine j_callV (d' := d - 1) hc dX4_take_27 vX4_33 hU.1 (ev_X4_push (by omega) hU hl) rfl (by omega) (by omega) (by omega) rfl rfl (Nat.le_of_ble_eq_true rfl) (retN fun zq27 zp27 => ?_)
      obtain ⟨zU27, zF27⟩ := zp27
      refine j_goto (tgt := 103) hc dX4_take_30 (by decide) ?_
      exact j_vret hc he dX4_take_103 rfl (by omega) (by omega) ⟨rfl, by unfold tkR; (repeat (first | rw [if_pos (by omega)] | rw [if_neg (by omega)])); first | exact zU27 | (rw [ztr]; exact zU27), zF27⟩
  · refine j_aload_n hc dX4_take_4 rfl ?_
    refine j_iload_n hc dX4_take_5 rfl ?_
    refine j_callV (d' := d - 1) hc dX4_take_6 vX4_33 hU.1 (ev_X4_push (by omega) hU hl) rfl (by omega) (by omega) (by omega) rfl rfl (Nat.le_of_ble_eq_true rfl) (retN fun zq6 zp6 => ?_)
    obtain ⟨zU6, zF6⟩ := zp6
    refine j_goto (tgt := 103) hc dX4_take_9 (by decide) ?_
    exact j_vret hc he dX4_take_103 rfl (by omega) (by omega) ⟨rfl, by unfold tkR; (repeat (first | rw [if_pos (by omega)] | rw [if_neg (by omega)])); first | exact zU6 | (rw [ztr]; exact zU6), zF6⟩
set_option maxRecDepth 100000 in
set_option maxHeartbeats 4000000 in
theorem lp_X4_worthOf {k : WC} {d : Nat} {w : MC} {h : AH} {r : Int} {cl : Nat} {cf lt : Int → Int} {a s n p q R : Int} (hd : 3 ≤ d) (hcf : ∀ j : Int, 0 ≤ j → j < cl → inI (cf j)) (hcl : cl < 536870912) (hlt : ∀ j, 0 ≤ j → j ≤ 4 → inI (lt j)) (hc : Cx w k d 0 0 mdX4_worthOf) (he : Ends w 0 0 (pe fun v h' => v = vI R ∧ (∃ t, RuleAt h' r cl cf t lt ∧ t.length ≤ 64 ∧ allI t) ∧ Fr (isRule r) h h')) : ∀ (zm : Nat) (i : Int) (t : List Int) (ps : Int) (h' : AH) (z8 : Option AV), (cl - i).toNat = zm → 0 ≤ i → i ≤ cl → RuleAt h' r cl cf t lt → allI t → t.length ≤ 64 → (ps = 0 ∨ ps = 1) → rnC cf lt (cl - i).toNat i t ps = R → Fr (isRule r) h h' → J w 0 0 48 [some (vR (60, r)), some (vI a), some (vI s), some (vI n), some (vI p), some (vI q), some (vI ps), some (vI i), z8] [] h' := by
  intro zm
  induction zm using Nat.strongRecOn with
  | _ zm ih =>
    intro i t ps h' z8 hm hi0 hi1 hU ht hl hps hr hfr
    have zp1 := pll_ok ht
    have zl1 := pll_len hl
    refine j_iload hc dX4_worthOf_48 rfl ?_
    refine j_aload_n hc dX4_worthOf_50 rfl ?_
    refine j_get hc dX4_worthOf_51 fX4_9 hU.1 rfl ?_
    refine j_alenP hc dX4_worthOf_54 hU.2.1 (by decide) ?_
    refine j_icmp_ge (tgt := 137) hc dX4_worthOf_55 (by decide) ⟨by omega, by omega⟩ ⟨by omega, by omega⟩ (fun zc1 => ?_) (fun zc1 => ?_)
    · refine j_iconst hc dX4_worthOf_137 ?_
      exact j_iret hc he dX4_worthOf_138 rfl (by omega) (by omega) ⟨_, rfl, by rw [← hr, show ((cl : Int) - i).toNat = 0 by omega]; rfl, ⟨t, hU, hl, ht⟩, hfr⟩
    · have zcf := hcf i hi0 (by omega)
      rw [show ((cl : Int) - i).toNat = (cl - (i + 1)).toNat + 1 by omega] at hr
      simp only [rnC] at hr
      refine j_aload_n hc dX4_worthOf_58 rfl ?_
      refine j_get hc dX4_worthOf_59 fX4_9 hU.1 rfl ?_
      refine j_iload hc dX4_worthOf_62 rfl ?_
      refine j_iald hc dX4_worthOf_64 hU.2.1 (by omega) (by omega) ?_
      refine j_istore (L' := [_, _, _, _, _, _, _, _, _]) hc dX4_worthOf_65 (Nat.le_of_ble_eq_true rfl) rfl ?_
      refine j_iload hc dX4_worthOf_67 rfl ?_
      refine j_if_eq (b := 0) (tgt := 89) hc dX4_worthOf_69 (by decide) ⟨by omega, by omega⟩ (fun zc2 => ?_) (fun zc2 => ?_)
      · have zpn := zc2
        refine j_iload hc dX4_worthOf_89 rfl ?_
        refine j_bipush hc dX4_worthOf_91 (by decide) ?_
        refine j_icmp_ne (tgt := 101) hc dX4_worthOf_93 (by decide) zcf ⟨by omega, by omega⟩ (fun zc3 => ?_) (fun zc3 => ?_)
        · refine j_iload hc dX4_worthOf_101 rfl ?_
          refine j_bipush hc dX4_worthOf_103 (by decide) ?_
          refine j_icmp_ne (tgt := 125) hc dX4_worthOf_105 (by decide) zcf ⟨by omega, by omega⟩ (fun zc4 => ?_) (fun zc4 => ?_)
          · refine j_aload_n hc dX4_worthOf_125 rfl ?_
            refine j_iload hc dX4_worthOf_126 rfl ?_
            refine j_callV (d' := d - 1) hc dX4_worthOf_128 vX4_29 hU.1 (ev_X4_take (by omega) hU hl ht hlt zcf) rfl (by omega) (by omega) (by omega) rfl rfl (Nat.le_of_ble_eq_true rfl) (retN fun zq128 zp128 => ?_)
            obtain ⟨zU128, zF128⟩ := zp128
            refine j_iinc (L' := [_, _, _, _, _, _, _, _, _]) hc dX4_worthOf_131 rfl (Nat.le_of_ble_eq_true rfl) rfl ?_
            refine j_goto (tgt := 48) hc dX4_worthOf_134 (by decide) ?_
            exact ih _ (by omega) (i + 1) _ _ zq128 _ rfl (by omega) (by omega) zU128 (tkR_ok ht hl hlt zcf).1 (tkR_ok ht hl hlt zcf).2 (Or.inl zpn) (by rw [← hr, if_pos zpn, if_neg (by omega), if_neg (by omega), zpn]) (hfr.tr zF128)
          · refine j_aload_n hc dX4_worthOf_108 rfl ?_
            refine j_callV (d' := d - 1) hc dX4_worthOf_109 vX4_25 hU.1 (ev_X4_pull (by omega) hU hl) rfl (by omega) (by omega) (by omega) rfl rfl (Nat.le_of_ble_eq_true rfl) (retE fun zv109 zq109 zp109 => ?_)
            obtain ⟨rfl, zU109, zF109⟩ := zp109
            refine j_if_ne (b := 0) (tgt := 119) hc dX4_worthOf_112 (by decide) zp1.1 (fun zc5 => ?_) (fun zc5 => ?_)
            · refine j_iconst hc dX4_worthOf_119 ?_
              refine j_istore (L' := [_, _, _, _, _, _, _, _, _]) hc dX4_worthOf_120 (Nat.le_of_ble_eq_true rfl) rfl ?_
              refine j_goto (tgt := 131) hc dX4_worthOf_122 (by decide) ?_
              refine j_iinc (L' := [_, _, _, _, _, _, _, _, _]) hc dX4_worthOf_131 rfl (Nat.le_of_ble_eq_true rfl) rfl ?_
              refine j_goto (tgt := 48) hc dX4_worthOf_134 (by decide) ?_
              exact ih _ (by omega) (i + 1) _ _ zq109 _ rfl (by omega) (by omega) zU109 zp1.2 zl1 (by first | exact Or.inl rfl | exact Or.inr rfl) (by rw [← hr, if_pos zpn, if_neg (by omega), if_pos (by omega)]; congr 1; first | rw [if_pos (by omega)] | rw [if_neg (by omega)]) (hfr.tr zF109)
            · refine j_iconst hc dX4_worthOf_115 ?_
              refine j_goto (tgt := 120) hc dX4_worthOf_116 (by decide) ?_
              refine j_istore (L' := [_, _, _, _, _, _, _, _, _]) hc dX4_worthOf_120 (Nat.le_of_ble_eq_true rfl) rfl ?_
              refine j_goto (tgt := 131) hc dX4_worthOf_122 (by decide) ?_
              refine j_iinc (L' := [_, _, _, _, _, _, _, _, _]) hc dX4_worthOf_131 rfl (Nat.le_of_ble_eq_true rfl) rfl ?_
              refine j_goto (tgt := 48) hc dX4_worthOf_134 (by decide) ?_
              exact ih _ (by omega) (i + 1) _ _ zq109 _ rfl (by omega) (by omega) zU109 zp1.2 zl1 (by first | exact Or.inl rfl | exact Or.inr rfl) (by rw [← hr, if_pos zpn, if_neg (by omega), if_pos (by omega)]; congr 1; first | rw [if_pos (by omega)] | rw [if_neg (by omega)]) (hfr.tr zF109)
        · refine j_aload_n hc dX4_worthOf_96 rfl ?_
          refine j_callV (d' := d - 1) hc dX4_worthOf_97 vX4_25 hU.1 (ev_X4_pull (by omega) hU hl) rfl (by omega) (by omega) (by omega) rfl rfl (Nat.le_of_ble_eq_true rfl) (retE fun zv97 zq97 zp97 => ?_)
          obtain ⟨rfl, zU97, zF97⟩ := zp97
          exact j_iret hc he dX4_worthOf_100 rfl (by omega) (by omega) ⟨_, rfl, by rw [← hr, if_pos zpn, if_pos (by omega)], ⟨_, zU97, zl1, zp1.2⟩, hfr.tr zF97⟩
      · have zpn := zc2
        refine j_iload hc dX4_worthOf_72 rfl ?_
        refine j_bipush hc dX4_worthOf_74 (by decide) ?_
        refine j_icmp_eq (tgt := 83) hc dX4_worthOf_76 (by decide) zcf ⟨by omega, by omega⟩ (fun zc6 => ?_) (fun zc6 => ?_)
        · refine j_iconst hc dX4_worthOf_83 ?_
          refine j_istore (L' := [_, _, _, _, _, _, _, _, _]) hc dX4_worthOf_84 (Nat.le_of_ble_eq_true rfl) rfl ?_
          refine j_goto (tgt := 131) hc dX4_worthOf_86 (by decide) ?_
          refine j_iinc (L' := [_, _, _, _, _, _, _, _, _]) hc dX4_worthOf_131 rfl (Nat.le_of_ble_eq_true rfl) rfl ?_
          refine j_goto (tgt := 48) hc dX4_worthOf_134 (by decide) ?_
          exact ih _ (by omega) (i + 1) t _ h' _ rfl (by omega) (by omega) hU ht hl (by first | exact Or.inl rfl | exact Or.inr rfl) (by rw [← hr]; try rw [if_neg zpn]; congr 1; first | rw [if_pos (by omega)] | rw [if_neg (by omega)]) hfr
        · refine j_iconst hc dX4_worthOf_79 ?_
          refine j_goto (tgt := 84) hc dX4_worthOf_80 (by decide) ?_
          refine j_istore (L' := [_, _, _, _, _, _, _, _, _]) hc dX4_worthOf_84 (Nat.le_of_ble_eq_true rfl) rfl ?_
          refine j_goto (tgt := 131) hc dX4_worthOf_86 (by decide) ?_
          refine j_iinc (L' := [_, _, _, _, _, _, _, _, _]) hc dX4_worthOf_131 rfl (Nat.le_of_ble_eq_true rfl) rfl ?_
          refine j_goto (tgt := 48) hc dX4_worthOf_134 (by decide) ?_
          exact ih _ (by omega) (i + 1) t _ h' _ rfl (by omega) (by omega) hU ht hl (by first | exact Or.inl rfl | exact Or.inr rfl) (by rw [← hr]; try rw [if_neg zpn]; congr 1; first | rw [if_pos (by omega)] | rw [if_neg (by omega)]) hfr
set_option maxRecDepth 100000 in
set_option maxHeartbeats 4000000 in
theorem ev_X4_worthOf {k : WC} {d : Nat} {h : AH} {r : Int} {cl : Nat} {cf lt : Int → Int} {t : List Int} {a s n p q : Int} (hd : 3 ≤ d) (hU : RuleAt h r cl cf t lt) (hl : t.length ≤ 64) (hcf : ∀ j : Int, 0 ≤ j → j < cl → inI (cf j)) (hcl : cl < 536870912) (ha : inI a) (hs : inI s) (hn : inI n) (hp : inI p) (hq : inI q) : Ev k d mdX4_worthOf h [vR (60, r), vI a, vI s, vI n, vI p, vI q] 0 0 (pe fun v h' => v = vI (woS cf cl a s n p q) ∧ (∃ t lt, RuleAt h' r cl cf t lt ∧ t.length ≤ 64) ∧ Fr (isRule r) h h') := by
  obtain ⟨zu60, zu61, ⟨zg, zu62, zsk⟩, zu63⟩ := id hU
  refine Ev.mk (by decide +kernel) [_, _, _, _, _, _, _, _, _] rfl (Nat.le_of_ble_eq_true rfl) (fun w hc he => ?_)
  refine j_aload_n hc dX4_worthOf_0 rfl ?_
  refine j_get hc dX4_worthOf_1 fX4_18 zu60 rfl ?_
  refine j_iconst hc dX4_worthOf_4 ?_
  refine j_iload_n hc dX4_worthOf_5 rfl ?_
  refine j_iast hc dX4_worthOf_6 zu63 (by omega) (by omega) ?_
  generalize ezh1 : up _ _ _ = zh1
  have zU_zh1 := (congrFun ezh1 _).symm.trans ((up_ne (by simp)).trans zu60)
  have zU61_zh1 := (congrFun ezh1 _).symm.trans ((up_ne (by simp)).trans zu61)
  have zU62_zh1 := (congrFun ezh1 _).symm.trans ((up_ne (by simp)).trans zu62)
  have zU63_zh1 := (congrFun ezh1 _).symm.trans (up_same _ _ _)
  refine j_aload_n hc dX4_worthOf_7 rfl ?_
  refine j_get hc dX4_worthOf_8 fX4_18 zU_zh1 rfl ?_
  refine j_iconst hc dX4_worthOf_11 ?_
  refine j_iload_n hc dX4_worthOf_12 rfl ?_
  refine j_iast hc dX4_worthOf_13 zU63_zh1 (by omega) (by omega) ?_
  generalize ezh2 : up _ _ _ = zh2
  have zU_zh2 := (congrFun ezh2 _).symm.trans ((up_ne (by simp)).trans zU_zh1)
  have zU61_zh2 := (congrFun ezh2 _).symm.trans ((up_ne (by simp)).trans zU61_zh1)
  have zU62_zh2 := (congrFun ezh2 _).symm.trans ((up_ne (by simp)).trans zU62_zh1)
  have zU63_zh2 := (congrFun ezh2 _).symm.trans (up_same _ _ _)
  refine j_aload_n hc dX4_worthOf_14 rfl ?_
  refine j_get hc dX4_worthOf_15 fX4_18 zU_zh2 rfl ?_
  refine j_iconst hc dX4_worthOf_18 ?_
  refine j_iload_n hc dX4_worthOf_19 rfl ?_
  refine j_iast hc dX4_worthOf_20 zU63_zh2 (by omega) (by omega) ?_
  generalize ezh3 : up _ _ _ = zh3
  have zU_zh3 := (congrFun ezh3 _).symm.trans ((up_ne (by simp)).trans zU_zh2)
  have zU61_zh3 := (congrFun ezh3 _).symm.trans ((up_ne (by simp)).trans zU61_zh2)
  have zU62_zh3 := (congrFun ezh3 _).symm.trans ((up_ne (by simp)).trans zU62_zh2)
  have zU63_zh3 := (congrFun ezh3 _).symm.trans (up_same _ _ _)
  refine j_aload_n hc dX4_worthOf_21 rfl ?_
  refine j_get hc dX4_worthOf_22 fX4_18 zU_zh3 rfl ?_
  refine j_iconst hc dX4_worthOf_25 ?_
  refine j_iload hc dX4_worthOf_26 rfl ?_
  refine j_iast hc dX4_worthOf_28 zU63_zh3 (by omega) (by omega) ?_
  generalize ezh4 : up _ _ _ = zh4
  have zU_zh4 := (congrFun ezh4 _).symm.trans ((up_ne (by simp)).trans zU_zh3)
  have zU61_zh4 := (congrFun ezh4 _).symm.trans ((up_ne (by simp)).trans zU61_zh3)
  have zU62_zh4 := (congrFun ezh4 _).symm.trans ((up_ne (by simp)).trans zU62_zh3)
  have zU63_zh4 := (congrFun ezh4 _).symm.trans (up_same _ _ _)
  refine j_aload_n hc dX4_worthOf_29 rfl ?_
  refine j_get hc dX4_worthOf_30 fX4_18 zU_zh4 rfl ?_
  refine j_iconst hc dX4_worthOf_33 ?_
  refine j_iload hc dX4_worthOf_34 rfl ?_
  refine j_iast hc dX4_worthOf_36 zU63_zh4 (by omega) (by omega) ?_
  generalize ezh5 : up _ _ _ = zh5
  have zU_zh5 := (congrFun ezh5 _).symm.trans ((up_ne (by simp)).trans zU_zh4)
  have zU61_zh5 := (congrFun ezh5 _).symm.trans ((up_ne (by simp)).trans zU61_zh4)
  have zU62_zh5 := (congrFun ezh5 _).symm.trans ((up_ne (by simp)).trans zU62_zh4)
  have zU63_zh5 := (congrFun ezh5 _).symm.trans (up_same _ _ _)
  refine j_aload_n hc dX4_worthOf_37 rfl ?_
  refine j_iconst hc dX4_worthOf_38 ?_
  refine j_put (fs' := [_, _, _, _]) hc dX4_worthOf_39 pX4_21 zU_zh5 rfl rfl ?_
  generalize ezh6 : up _ _ _ = zh6
  have zU_zh6 := (congrFun ezh6 _).symm.trans (up_same _ _ _)
  have zU61_zh6 := (congrFun ezh6 _).symm.trans ((up_ne (by simp)).trans zU61_zh5)
  have zU62_zh6 := (congrFun ezh6 _).symm.trans ((up_ne (by simp)).trans zU62_zh5)
  have zU63_zh6 := (congrFun ezh6 _).symm.trans ((up_ne (by simp)).trans zU63_zh5)
  refine j_iconst hc dX4_worthOf_42 ?_
  refine j_istore (L' := [_, _, _, _, _, _, _, _, _]) hc dX4_worthOf_43 (Nat.le_of_ble_eq_true rfl) rfl ?_
  refine j_iconst hc dX4_worthOf_45 ?_
  refine j_istore (L' := [_, _, _, _, _, _, _, _, _]) hc dX4_worthOf_46 (Nat.le_of_ble_eq_true rfl) rfl ?_
  have zlt : ∀ j : Int, 0 ≤ j → j ≤ 4 → fu (fu (fu (fu (fu lt 0 a) 1 s) 2 n) 3 p) 4 q j = l5 a s n p q j := fun j z0 z1 => by
    unfold l5 fu
    repeat' split
    all_goals first | rfl | (exfalso; omega)
  have he9 : Ends w 0 0 (pe fun v h' => v = vI (woS cf cl a s n p q) ∧ (∃ t, RuleAt h' r cl cf t (fu (fu (fu (fu (fu lt 0 a) 1 s) 2 n) 3 p) 4 q) ∧ t.length ≤ 64 ∧ allI t) ∧ Fr (isRule r) h h') := Ends.mono he (fun v h' hp => by
    obtain ⟨v, rfl, rfl, ⟨t, z1, z2, -⟩, z4⟩ := hp
    exact ⟨_, rfl, rfl, ⟨t, _, z1, z2⟩, z4⟩)
  exact lp_X4_worthOf hd hcf hcl (fun j z0 z1 => by rw [zlt j z0 z1]; exact l5_b ha hs hn hp hq j) hc he9 _ 0 [] 0 zh6 _ rfl (by omega) (by omega) ⟨zU_zh6, zU61_zh6, ⟨zg, zU62_zh6, trivial⟩, zU63_zh6⟩ (fun v hv => by cases hv) (by simp) (Or.inl rfl) (by unfold woS; rw [rnC_congr zlt]; congr 1) (by rw [← ezh6, ← ezh5, ← ezh4, ← ezh3, ← ezh2, ← ezh1]; exact (((((Fr.up (Or.inr (Or.inr rfl))).push (Or.inr (Or.inr rfl))).push (Or.inr (Or.inr rfl))).push (Or.inr (Or.inr rfl))).push (Or.inr (Or.inr rfl))).push (Or.inl rfl))
