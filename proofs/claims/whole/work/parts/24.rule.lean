/-! ===== the rule's own methods ===== -/
set_option maxRecDepth 100000 in
set_option maxHeartbeats 4000000 in
theorem ev_X4_push {k : WC} {d : Nat} {h : AH} {r : Int} {cl : Nat} {cf lt : Int → Int} {t : List Int} {v : Int} (hd : 1 ≤ d) (hU : RuleAt h r cl cf t lt) (hl : t.length ≤ 64)  : Ev k d mdX4_push h [vR (60, r), vI v] 0 0 (pn fun h' => RuleAt h' r cl cf (psh t v) lt ∧ Fr (isRule r) h h') := by
  obtain ⟨zu60, zu61, ⟨zg, zu62, zsk⟩, zu63⟩ := id hU
  refine Ev.mk (by decide +kernel) [_, _] rfl (Nat.le_of_ble_eq_true rfl) (fun w hc he => ?_)
  refine j_aload_n hc dX4_push_0 rfl ?_
  refine j_get hc dX4_push_1 fX4_21 zu60 rfl ?_
  refine j_aload_n hc dX4_push_4 rfl ?_
  refine j_get hc dX4_push_5 fX4_15 zu60 rfl ?_
  refine j_alenP hc dX4_push_8 zu62 (by decide) ?_
  refine j_icmp_ge (tgt := 32) hc dX4_push_9 (by decide) ⟨by omega, by omega⟩ ⟨by omega, by omega⟩ (fun zc1 => ?_) (fun zc1 => ?_)
  · exact j_vret hc he dX4_push_32 rfl (by omega) (by omega) ⟨rfl, by unfold psh; rw [if_neg (by omega)]; exact hU, Fr.rf _ _⟩
  · refine j_aload_n hc dX4_push_12 rfl ?_
    refine j_get hc dX4_push_13 fX4_15 zu60 rfl ?_
    refine j_aload_n hc dX4_push_16 rfl ?_
    refine j_get hc dX4_push_17 fX4_21 zu60 rfl ?_
    refine j_iload_n hc dX4_push_20 rfl ?_
    refine j_iast hc dX4_push_21 zu62 (by omega) (by omega) ?_
    generalize ezh1 : up _ _ _ = zh1
    have zU_zh1 := (congrFun ezh1 _).symm.trans ((up_ne (by simp)).trans zu60)
    have zU61_zh1 := (congrFun ezh1 _).symm.trans ((up_ne (by simp)).trans zu61)
    have zU62_zh1 := (congrFun ezh1 _).symm.trans (up_same _ _ _)
    have zU63_zh1 := (congrFun ezh1 _).symm.trans ((up_ne (by simp)).trans zu63)
    refine j_aload_n hc dX4_push_22 rfl ?_
    refine j_dup hc dX4_push_23 rfl ?_
    refine j_get hc dX4_push_24 fX4_21 zU_zh1 rfl ?_
    refine j_iconst hc dX4_push_27 ?_
    refine j_iadd hc dX4_push_28 ?_
    refine j_put (fs' := [_, _, _, _]) hc dX4_push_29 pX4_21 zU_zh1 rfl rfl ?_
    generalize ezh2 : up _ _ _ = zh2
    have zU_zh2 := (congrFun ezh2 _).symm.trans (up_same _ _ _)
    have zU61_zh2 := (congrFun ezh2 _).symm.trans ((up_ne (by simp)).trans zU61_zh1)
    have zU62_zh2 := (congrFun ezh2 _).symm.trans ((up_ne (by simp)).trans zU62_zh1)
    have zU63_zh2 := (congrFun ezh2 _).symm.trans ((up_ne (by simp)).trans zU63_zh1)
    exact j_vret hc he dX4_push_32 rfl (by omega) (by omega) ⟨rfl, by unfold psh; rw [if_pos (by omega)]; exact ⟨zU_zh2, zU61_zh2, ⟨_, zU62_zh2, fu_same _ _ _, SkR_fu (Int.le_refl _) zsk⟩, zU63_zh2⟩, by rw [← ezh2, ← ezh1]; exact (Fr.up (Or.inr (Or.inl rfl))).push (Or.inl rfl)⟩
set_option maxRecDepth 100000 in
set_option maxHeartbeats 4000000 in
theorem ev_X4_pull {k : WC} {d : Nat} {h : AH} {r : Int} {cl : Nat} {cf lt : Int → Int} {t : List Int} (hd : 1 ≤ d) (hU : RuleAt h r cl cf t lt) (hl : t.length ≤ 64)  : Ev k d mdX4_pull h [vR (60, r)] 0 0 (pe fun v h' => v = vI (pll t).1 ∧ RuleAt h' r cl cf (pll t).2 lt ∧ Fr (isRule r) h h') := by
  obtain ⟨zu60, zu61, ⟨zg, zu62, zsk⟩, zu63⟩ := id hU
  refine Ev.mk (by decide +kernel) [_] rfl (Nat.le_of_ble_eq_true rfl) (fun w hc he => ?_)
  refine j_aload_n hc dX4_pull_0 rfl ?_
  refine j_get hc dX4_pull_1 fX4_21 zu60 rfl ?_
  refine j_if_gt (b := 0) (tgt := 9) hc dX4_pull_4 (by decide) ⟨by omega, by omega⟩ (fun zc1 => ?_) (fun zc1 => ?_)
  · obtain ⟨zv, zt, rfl⟩ : ∃ zv zt, t = zv :: zt := List.exists_cons_of_ne_nil (fun ze => by rw [ze] at zc1; simp at zc1)
    have zle : ((zv :: zt).length : Int) = zt.length + 1 := rfl
    refine j_aload_n hc dX4_pull_9 rfl ?_
    refine j_dup hc dX4_pull_10 rfl ?_
    refine j_get hc dX4_pull_11 fX4_21 zu60 rfl ?_
    refine j_iconst hc dX4_pull_14 ?_
    refine j_isub hc dX4_pull_15 ?_
    refine j_put (fs' := [_, _, _, _]) hc dX4_pull_16 pX4_21 zu60 rfl rfl ?_
    generalize ezh1 : up _ _ _ = zh1
    have zU_zh1 := (congrFun ezh1 _).symm.trans (up_same _ _ _)
    have zU61_zh1 := (congrFun ezh1 _).symm.trans ((up_ne (by simp)).trans zu61)
    have zU62_zh1 := (congrFun ezh1 _).symm.trans ((up_ne (by simp)).trans zu62)
    have zU63_zh1 := (congrFun ezh1 _).symm.trans ((up_ne (by simp)).trans zu63)
    refine j_aload_n hc dX4_pull_19 rfl ?_
    refine j_get hc dX4_pull_20 fX4_15 zU_zh1 rfl ?_
    refine j_aload_n hc dX4_pull_23 rfl ?_
    refine j_get hc dX4_pull_24 fX4_21 zU_zh1 rfl ?_
    have zix : ((zv :: zt).length : Int) - 1 = zt.length := by omega
    refine j_iald hc dX4_pull_27 zU62_zh1 (by omega) (by omega) ?_
    exact j_iret hc he dX4_pull_28 rfl (by omega) (by omega) ⟨_, rfl, by rw [zix, zsk.1]; rfl, ⟨(by rw [zix] at zU_zh1; exact zU_zh1), zU61_zh1, ⟨_, zU62_zh1, zsk.2⟩, zU63_zh1⟩, by rw [← ezh1]; exact Fr.up (Or.inl rfl)⟩
  · refine j_iconst hc dX4_pull_7 ?_
    exact j_iret hc he dX4_pull_8 rfl (by omega) (by omega) ⟨_, rfl, by rw [List.eq_nil_of_length_eq_zero (show t.length = 0 by omega)]; rfl, by rw [List.eq_nil_of_length_eq_zero (show t.length = 0 by omega)] at hU ⊢; exact hU, Fr.rf _ _⟩
set_option maxRecDepth 100000 in
set_option maxHeartbeats 4000000 in
theorem ev_X4_isTrue {k : WC} {d : Nat} {h : AH} {q x z : Int} (hd : 1 ≤ d) (hq : inI q) (hx : inI x) (hz : inI z) : Ev k d mdX4_isTrue h [vI q, vI x, vI z] 0 0 (pr (vI (trS q x z)) h) := by
  refine Ev.mk (by decide +kernel) [_, _, _] rfl (Nat.le_of_ble_eq_true rfl) (fun w hc he => ?_)
  refine j_iload_n hc dX4_isTrue_0 rfl ?_
  rcases (by omega : (q < -13 ∨ -10 < q) ∨ q = -13 ∨ q = -12 ∨ q = -11 ∨ q = -10) with zc1 | zc1 | zc1 | zc1 | zc1
  · refine j_tableOut (tgt := 79) hc dX4_isTrue_1 ⟨by omega, by omega⟩ zc1 (by decide) ?_
    refine j_iload_n hc dX4_isTrue_79 rfl ?_
    refine j_if_ne (b := 0) (tgt := 87) hc dX4_isTrue_80 (by decide) ⟨by omega, by omega⟩ (fun zc2 => ?_) (fun zc2 => ?_)
    · refine j_iconst hc dX4_isTrue_87 ?_
      refine j_goto (tgt := 92) hc dX4_isTrue_88 (by decide) ?_
      exact j_zret hc he dX4_isTrue_92 rfl (by omega) (by omega) (by first | exact Or.inl rfl | exact Or.inr rfl) ⟨vI_eq (by unfold trS; (try subst zc1); repeat (first | rw [if_pos (by omega)] | rw [if_neg (by omega)])), rfl⟩
    · refine j_iload_n hc dX4_isTrue_83 rfl ?_
      refine j_if_eq (b := 0) (tgt := 91) hc dX4_isTrue_84 (by decide) ⟨by omega, by omega⟩ (fun zc3 => ?_) (fun zc3 => ?_)
      · refine j_iconst hc dX4_isTrue_91 ?_
        exact j_zret hc he dX4_isTrue_92 rfl (by omega) (by omega) (by first | exact Or.inl rfl | exact Or.inr rfl) ⟨vI_eq (by unfold trS; (try subst zc1); repeat (first | rw [if_pos (by omega)] | rw [if_neg (by omega)])), rfl⟩
      · refine j_iconst hc dX4_isTrue_87 ?_
        refine j_goto (tgt := 92) hc dX4_isTrue_88 (by decide) ?_
        exact j_zret hc he dX4_isTrue_92 rfl (by omega) (by omega) (by first | exact Or.inl rfl | exact Or.inr rfl) ⟨vI_eq (by unfold trS; (try subst zc1); repeat (first | rw [if_pos (by omega)] | rw [if_neg (by omega)])), rfl⟩
  · refine j_tableIn (tgt := 65) (off := 64) hc dX4_isTrue_1 ⟨by omega, by omega⟩ (by omega) (by omega) (by rw [zc1]; rfl) (by decide) ?_
    refine j_iload_n hc dX4_isTrue_65 rfl ?_
    refine j_if_eq (b := 0) (tgt := 77) hc dX4_isTrue_66 (by decide) ⟨by omega, by omega⟩ (fun zc4 => ?_) (fun zc4 => ?_)
    · refine j_iconst hc dX4_isTrue_77 ?_
      exact j_zret hc he dX4_isTrue_78 rfl (by omega) (by omega) (by first | exact Or.inl rfl | exact Or.inr rfl) ⟨vI_eq (by unfold trS; (try subst zc1); repeat (first | rw [if_pos (by omega)] | rw [if_neg (by omega)])), rfl⟩
    · refine j_iload_n hc dX4_isTrue_69 rfl ?_
      refine j_if_eq (b := 0) (tgt := 77) hc dX4_isTrue_70 (by decide) ⟨by omega, by omega⟩ (fun zc5 => ?_) (fun zc5 => ?_)
      · refine j_iconst hc dX4_isTrue_77 ?_
        exact j_zret hc he dX4_isTrue_78 rfl (by omega) (by omega) (by first | exact Or.inl rfl | exact Or.inr rfl) ⟨vI_eq (by unfold trS; (try subst zc1); repeat (first | rw [if_pos (by omega)] | rw [if_neg (by omega)])), rfl⟩
      · refine j_iconst hc dX4_isTrue_73 ?_
        refine j_goto (tgt := 78) hc dX4_isTrue_74 (by decide) ?_
        exact j_zret hc he dX4_isTrue_78 rfl (by omega) (by omega) (by first | exact Or.inl rfl | exact Or.inr rfl) ⟨vI_eq (by unfold trS; (try subst zc1); repeat (first | rw [if_pos (by omega)] | rw [if_neg (by omega)])), rfl⟩
  · refine j_tableIn (tgt := 54) (off := 53) hc dX4_isTrue_1 ⟨by omega, by omega⟩ (by omega) (by omega) (by rw [zc1]; rfl) (by decide) ?_
    refine j_iload_n hc dX4_isTrue_54 rfl ?_
    refine j_iload_n hc dX4_isTrue_55 rfl ?_
    refine j_icmp_le (tgt := 63) hc dX4_isTrue_56 (by decide) ⟨by omega, by omega⟩ ⟨by omega, by omega⟩ (fun zc6 => ?_) (fun zc6 => ?_)
    · refine j_iconst hc dX4_isTrue_63 ?_
      exact j_zret hc he dX4_isTrue_64 rfl (by omega) (by omega) (by first | exact Or.inl rfl | exact Or.inr rfl) ⟨vI_eq (by unfold trS; (try subst zc1); repeat (first | rw [if_pos (by omega)] | rw [if_neg (by omega)])), rfl⟩
    · refine j_iconst hc dX4_isTrue_59 ?_
      refine j_goto (tgt := 64) hc dX4_isTrue_60 (by decide) ?_
      exact j_zret hc he dX4_isTrue_64 rfl (by omega) (by omega) (by first | exact Or.inl rfl | exact Or.inr rfl) ⟨vI_eq (by unfold trS; (try subst zc1); repeat (first | rw [if_pos (by omega)] | rw [if_neg (by omega)])), rfl⟩
  · refine j_tableIn (tgt := 43) (off := 42) hc dX4_isTrue_1 ⟨by omega, by omega⟩ (by omega) (by omega) (by rw [zc1]; rfl) (by decide) ?_
    refine j_iload_n hc dX4_isTrue_43 rfl ?_
    refine j_iload_n hc dX4_isTrue_44 rfl ?_
    refine j_icmp_ge (tgt := 52) hc dX4_isTrue_45 (by decide) ⟨by omega, by omega⟩ ⟨by omega, by omega⟩ (fun zc7 => ?_) (fun zc7 => ?_)
    · refine j_iconst hc dX4_isTrue_52 ?_
      exact j_zret hc he dX4_isTrue_53 rfl (by omega) (by omega) (by first | exact Or.inl rfl | exact Or.inr rfl) ⟨vI_eq (by unfold trS; (try subst zc1); repeat (first | rw [if_pos (by omega)] | rw [if_neg (by omega)])), rfl⟩
    · refine j_iconst hc dX4_isTrue_48 ?_
      refine j_goto (tgt := 53) hc dX4_isTrue_49 (by decide) ?_
      exact j_zret hc he dX4_isTrue_53 rfl (by omega) (by omega) (by first | exact Or.inl rfl | exact Or.inr rfl) ⟨vI_eq (by unfold trS; (try subst zc1); repeat (first | rw [if_pos (by omega)] | rw [if_neg (by omega)])), rfl⟩
  · refine j_tableIn (tgt := 32) (off := 31) hc dX4_isTrue_1 ⟨by omega, by omega⟩ (by omega) (by omega) (by rw [zc1]; rfl) (by decide) ?_
    refine j_iload_n hc dX4_isTrue_32 rfl ?_
    refine j_iload_n hc dX4_isTrue_33 rfl ?_
    refine j_icmp_ne (tgt := 41) hc dX4_isTrue_34 (by decide) ⟨by omega, by omega⟩ ⟨by omega, by omega⟩ (fun zc8 => ?_) (fun zc8 => ?_)
    · refine j_iconst hc dX4_isTrue_41 ?_
      exact j_zret hc he dX4_isTrue_42 rfl (by omega) (by omega) (by first | exact Or.inl rfl | exact Or.inr rfl) ⟨vI_eq (by unfold trS; (try subst zc1); repeat (first | rw [if_pos (by omega)] | rw [if_neg (by omega)])), rfl⟩
    · refine j_iconst hc dX4_isTrue_37 ?_
      refine j_goto (tgt := 42) hc dX4_isTrue_38 (by decide) ?_
      exact j_zret hc he dX4_isTrue_42 rfl (by omega) (by omega) (by first | exact Or.inl rfl | exact Or.inr rfl) ⟨vI_eq (by unfold trS; (try subst zc1); repeat (first | rw [if_pos (by omega)] | rw [if_neg (by omega)])), rfl⟩
set_option maxRecDepth 100000 in
set_option maxHeartbeats 4000000 in
theorem ev_X4_reckoned {k : WC} {d : Nat} {h : AH} {q x z : Int} (hd : 1 ≤ d) (hq : inI q) (hx : inI x) (hz : inI z) : Ev k d mdX4_reckoned h [vI q, vL x, vL z] 0 0 (pr (vI (rkS q x z)) h) := by
  have zmb := imul_b hx hz
  have ztb := tdiv_b (y := z) hx
  refine Ev.mk (by decide +kernel) [_, _, _, _, _, _, _] rfl (Nat.le_of_ble_eq_true rfl) (fun w hc he => ?_)
  refine j_iload_n hc dX4_reckoned_0 rfl ?_
  rcases (by omega : (q < -8 ∨ -6 < q) ∨ q = -8 ∨ q = -7 ∨ q = -6) with zc1 | zc1 | zc1 | zc1
  · refine j_tableOut (tgt := 52) hc dX4_reckoned_1 ⟨by omega, by omega⟩ zc1 (by decide) ?_
    refine j_lload_n hc dX4_reckoned_52 rfl ?_
    refine j_lconst (x := 0) hc dX4_reckoned_53 (by decide) ?_
    refine j_lcmp hc dX4_reckoned_54 ⟨by omega, by omega⟩ ⟨by omega, by omega⟩ ?_
    refine j_if_ne (b := 0) (tgt := 62) hc dX4_reckoned_55 (by decide) (by unfold lc; split <;> (try split) <;> exact ⟨by omega, by omega⟩) (fun zc2 => ?_) (fun zc2 => ?_)
    · have zc_2 : z ≠ 0 := by unfold lc at zc2; split at zc2 <;> (try split at zc2) <;> omega
      refine j_lload_n hc dX4_reckoned_62 rfl ?_
      refine j_lload_n hc dX4_reckoned_63 rfl ?_
      refine j_ldiv hc dX4_reckoned_64 ⟨by omega, by omega⟩ ⟨by omega, by omega⟩ (by omega) ?_
      refine j_lstore (L' := [_, _, _, _, _, _, _]) hc dX4_reckoned_65 (Nat.le_of_ble_eq_true rfl) rfl ?_
      refine j_ldc2 (x := -1000000) hc dX4_reckoned_67 kX4_44 (by decide) ?_
      refine j_ldc2 (x := 1000000) hc dX4_reckoned_70 kX4_46 (by decide) ?_
      refine j_lload hc dX4_reckoned_73 rfl ?_
      refine j_mminL hc dX4_reckoned_75 mX4_48 mo_minL ⟨by omega, by omega⟩ ⟨by omega, by omega⟩ (by omega) (by omega) rfl (by omega) (Nat.le_of_ble_eq_true rfl) ?_
      refine j_mmaxL hc dX4_reckoned_78 mX4_54 mo_maxL ⟨by omega, by omega⟩ ⟨by omega, by omega⟩ (by omega) (by omega) rfl (by omega) (Nat.le_of_ble_eq_true rfl) ?_
      refine j_l2i hc dX4_reckoned_81 ?_
      exact j_iret hc he dX4_reckoned_82 rfl (by omega) (by omega) ⟨vI_eq (by unfold rkS clS; (try subst zc1); repeat (first | rw [if_pos (by omega)] | rw [if_neg (by omega)])), rfl⟩
    · have zc_3 : z = 0 := by unfold lc at zc2; split at zc2 <;> (try split at zc2) <;> omega
      refine j_lconst (x := 0) hc dX4_reckoned_58 (by decide) ?_
      refine j_goto (tgt := 65) hc dX4_reckoned_59 (by decide) ?_
      refine j_lstore (L' := [_, _, _, _, _, _, _]) hc dX4_reckoned_65 (Nat.le_of_ble_eq_true rfl) rfl ?_
      refine j_ldc2 (x := -1000000) hc dX4_reckoned_67 kX4_44 (by decide) ?_
      refine j_ldc2 (x := 1000000) hc dX4_reckoned_70 kX4_46 (by decide) ?_
      refine j_lload hc dX4_reckoned_73 rfl ?_
      refine j_mminL hc dX4_reckoned_75 mX4_48 mo_minL ⟨by omega, by omega⟩ ⟨by omega, by omega⟩ (by omega) (by omega) rfl (by omega) (Nat.le_of_ble_eq_true rfl) ?_
      refine j_mmaxL hc dX4_reckoned_78 mX4_54 mo_maxL ⟨by omega, by omega⟩ ⟨by omega, by omega⟩ (by omega) (by omega) rfl (by omega) (Nat.le_of_ble_eq_true rfl) ?_
      refine j_l2i hc dX4_reckoned_81 ?_
      exact j_iret hc he dX4_reckoned_82 rfl (by omega) (by omega) ⟨vI_eq (by unfold rkS clS; (try subst zc1); repeat (first | rw [if_pos (by omega)] | rw [if_neg (by omega)])), rfl⟩
  · refine j_tableIn (tgt := 44) (off := 43) hc dX4_reckoned_1 ⟨by omega, by omega⟩ (by omega) (by omega) (by rw [zc1]; rfl) (by decide) ?_
    refine j_lload_n hc dX4_reckoned_44 rfl ?_
    refine j_lload_n hc dX4_reckoned_45 rfl ?_
    refine j_lmul hc dX4_reckoned_46 ?_
    refine j_lstore (L' := [_, _, _, _, _, _, _]) hc dX4_reckoned_47 (Nat.le_of_ble_eq_true rfl) rfl ?_
    refine j_goto (tgt := 67) hc dX4_reckoned_49 (by decide) ?_
    refine j_ldc2 (x := -1000000) hc dX4_reckoned_67 kX4_44 (by decide) ?_
    refine j_ldc2 (x := 1000000) hc dX4_reckoned_70 kX4_46 (by decide) ?_
    refine j_lload hc dX4_reckoned_73 rfl ?_
    refine j_mminL hc dX4_reckoned_75 mX4_48 mo_minL ⟨by omega, by omega⟩ ⟨by omega, by omega⟩ (by omega) (by omega) rfl (by omega) (Nat.le_of_ble_eq_true rfl) ?_
    refine j_mmaxL hc dX4_reckoned_78 mX4_54 mo_maxL ⟨by omega, by omega⟩ ⟨by omega, by omega⟩ (by omega) (by omega) rfl (by omega) (Nat.le_of_ble_eq_true rfl) ?_
    refine j_l2i hc dX4_reckoned_81 ?_
    exact j_iret hc he dX4_reckoned_82 rfl (by omega) (by omega) ⟨vI_eq (by unfold rkS clS; (try subst zc1); repeat (first | rw [if_pos (by omega)] | rw [if_neg (by omega)])), rfl⟩
  · refine j_tableIn (tgt := 36) (off := 35) hc dX4_reckoned_1 ⟨by omega, by omega⟩ (by omega) (by omega) (by rw [zc1]; rfl) (by decide) ?_
    refine j_lload_n hc dX4_reckoned_36 rfl ?_
    refine j_lload_n hc dX4_reckoned_37 rfl ?_
    refine j_lsub hc dX4_reckoned_38 ?_
    refine j_lstore (L' := [_, _, _, _, _, _, _]) hc dX4_reckoned_39 (Nat.le_of_ble_eq_true rfl) rfl ?_
    refine j_goto (tgt := 67) hc dX4_reckoned_41 (by decide) ?_
    refine j_ldc2 (x := -1000000) hc dX4_reckoned_67 kX4_44 (by decide) ?_
    refine j_ldc2 (x := 1000000) hc dX4_reckoned_70 kX4_46 (by decide) ?_
    refine j_lload hc dX4_reckoned_73 rfl ?_
    refine j_mminL hc dX4_reckoned_75 mX4_48 mo_minL ⟨by omega, by omega⟩ ⟨by omega, by omega⟩ (by omega) (by omega) rfl (by omega) (Nat.le_of_ble_eq_true rfl) ?_
    refine j_mmaxL hc dX4_reckoned_78 mX4_54 mo_maxL ⟨by omega, by omega⟩ ⟨by omega, by omega⟩ (by omega) (by omega) rfl (by omega) (Nat.le_of_ble_eq_true rfl) ?_
    refine j_l2i hc dX4_reckoned_81 ?_
    exact j_iret hc he dX4_reckoned_82 rfl (by omega) (by omega) ⟨vI_eq (by unfold rkS clS; (try subst zc1); repeat (first | rw [if_pos (by omega)] | rw [if_neg (by omega)])), rfl⟩
  · refine j_tableIn (tgt := 28) (off := 27) hc dX4_reckoned_1 ⟨by omega, by omega⟩ (by omega) (by omega) (by rw [zc1]; rfl) (by decide) ?_
    refine j_lload_n hc dX4_reckoned_28 rfl ?_
    refine j_lload_n hc dX4_reckoned_29 rfl ?_
    refine j_ladd hc dX4_reckoned_30 ?_
    refine j_lstore (L' := [_, _, _, _, _, _, _]) hc dX4_reckoned_31 (Nat.le_of_ble_eq_true rfl) rfl ?_
    refine j_goto (tgt := 67) hc dX4_reckoned_33 (by decide) ?_
    refine j_ldc2 (x := -1000000) hc dX4_reckoned_67 kX4_44 (by decide) ?_
    refine j_ldc2 (x := 1000000) hc dX4_reckoned_70 kX4_46 (by decide) ?_
    refine j_lload hc dX4_reckoned_73 rfl ?_
    refine j_mminL hc dX4_reckoned_75 mX4_48 mo_minL ⟨by omega, by omega⟩ ⟨by omega, by omega⟩ (by omega) (by omega) rfl (by omega) (Nat.le_of_ble_eq_true rfl) ?_
    refine j_mmaxL hc dX4_reckoned_78 mX4_54 mo_maxL ⟨by omega, by omega⟩ ⟨by omega, by omega⟩ (by omega) (by omega) rfl (by omega) (Nat.le_of_ble_eq_true rfl) ?_
    refine j_l2i hc dX4_reckoned_81 ?_
    exact j_iret hc he dX4_reckoned_82 rfl (by omega) (by omega) ⟨vI_eq (by unfold rkS clS; (try subst zc1); repeat (first | rw [if_pos (by omega)] | rw [if_neg (by omega)])), rfl⟩
