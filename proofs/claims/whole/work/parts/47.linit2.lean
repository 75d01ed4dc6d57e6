/-! ===== the constructor of lands ===== -/
set_option maxRecDepth 100000 in
set_option maxHeartbeats 4000000 in
theorem lp_X0_init1 {k : WC} {d : Nat} {w : MC} {n1 n2 : Nat} {h : AH} {l : Int} {X : DrS} {D : LaS} (hd : 4 ≤ d) (hD : LOK D) (hc : Cx w k d 10 730 mdX0_init) (kont : ∀ (h' : AH) (f8 f9 : Int → Int) (z2 z3 z4 : Option AV), h' (30, l) = some (oO 0 [vI (xSe X), vI (xCo X), vI (xMi X), vI (xRo X), vR (31, l), vN, vN, vN, vN, vN, vR (37, l), vR (38, l), vR (39, l), vN, vI 0, vI 0, vN, vI 0, vI 0, vI 0]) → h' (31, l) = some (oI (lNe D) (lPa D)) → h' (38, l) = some (oI 41 f8) → h' (39, l) = some (oI 41 f9) → Fr (fun z => z = (38, l) ∨ z = (39, l)) h h' → (∀ j : Int, 0 ≤ j → j ≤ 40 → f8 j = btN D j.toNat) → (∀ j : Int, 0 ≤ j → j ≤ 40 → f9 j = bsN D j.toNat) → J w n1 n2 174 [some (vR (30, l)), some (vR (3, 0)), z2, z3, z4] [] h') : ∀ (zm : Nat) (x : Nat) (h' : AH) (f8 f9 : Int → Int) (z3 z4 : Option AV), 40 - x = zm → x ≤ 40 → h' (30, l) = some (oO 0 [vI (xSe X), vI (xCo X), vI (xMi X), vI (xRo X), vR (31, l), vN, vN, vN, vN, vN, vR (37, l), vR (38, l), vR (39, l), vN, vI 0, vI 0, vN, vI 0, vI 0, vI 0]) → h' (31, l) = some (oI (lNe D) (lPa D)) → h' (38, l) = some (oI 41 f8) → h' (39, l) = some (oI 41 f9) → Fr (fun z => z = (38, l) ∨ z = (39, l)) h h' → (∀ j : Int, 0 ≤ j → j ≤ x → f8 j = btN D j.toNat) → (∀ j : Int, 0 ≤ j → j ≤ x → f9 j = bsN D j.toNat) → J w n1 n2 73 [some (vR (30, l)), some (vR (3, 0)), some (vI ((x : Int) + 1)), z3, z4] [] h' := by
  intro zm
  induction zm using Nat.strongRecOn with
  | _ zm ih =>
    intro x h' f8 f9 z3 z4 hm hx zL z31 z38 z39 hfr hq8 hq9
    have d10 := hD.2.2.2.2.2.2.2.2.2.1
    have zt := tkS_b hD ((x : Int) + 1)
    have zb8 := btN_b hD x
    have z8x := hq8 x (by omega) (by omega)
    rw [show ((x : Int)).toNat = x by omega] at z8x
    refine j_iload_n hc dX0_init_73 rfl ?_
    refine j_bipush hc dX0_init_74 (by decide) ?_
    refine j_icmp_ge (tgt := 174) hc dX0_init_76 (by decide) ⟨by omega, by omega⟩ ⟨by omega, by omega⟩ (fun zc1 => ?_) (fun zc1 => ?_)
    · exact kont _ _ _ _ _ _ zL z31 z38 z39 hfr (fun j z0 z1 => hq8 j z0 (by omega)) (fun j z0 z1 => hq9 j z0 (by omega))
    · have zpa : ((x : Int) + 1 ≤ lNe D → tkS D ((x : Int) + 1) = ((x : Int) + 1) * lPa D ((x : Int) + 1 - 1)) ∧ (¬ (x : Int) + 1 ≤ lNe D → tkS D ((x : Int) + 1) = 0) := ⟨fun z => by unfold tkS; rw [if_pos ⟨by omega, z⟩], fun z => by unfold tkS; rw [if_neg (fun y => z y.2)]⟩
      refine j_iload_n hc dX0_init_79 rfl ?_
      refine j_aload_n hc dX0_init_80 rfl ?_
      refine j_get hc dX0_init_81 fX0_34 zL rfl ?_
      refine j_alenP hc dX0_init_84 z31 (by decide) ?_
      refine j_icmp_gt (tgt := 101) hc dX0_init_85 (by decide) ⟨by omega, by omega⟩ ⟨by omega, by omega⟩ (fun zc2 => ?_) (fun zc2 => ?_)
      · have ztk : tkS D ((x + 1 : Nat) : Int) = 0 := zpa.2 (by omega)
        refine j_iconst hc dX0_init_101 ?_
        refine j_istore_n (L' := [_, _, _, _, _]) hc dX0_init_102 (Nat.le_of_ble_eq_true rfl) rfl ?_
        have z81 : f8 ((x : Int) + 1 - 1) = btN D x := by rw [show (x : Int) + 1 - 1 = x by omega]; exact z8x
        refine j_iload_n hc dX0_init_103 rfl ?_
        refine j_aload_n hc dX0_init_104 rfl ?_
        refine j_get hc dX0_init_105 fX0_45 zL rfl ?_
        refine j_iload_n hc dX0_init_108 rfl ?_
        refine j_iconst hc dX0_init_109 ?_
        refine j_isub hc dX0_init_110 ?_
        refine j_iald hc dX0_init_111 z38 (by omega) (by omega) ?_
        refine j_icmp_le (tgt := 119) hc dX0_init_112 (by decide) ⟨by omega, by omega⟩ ⟨by omega, by omega⟩ (fun zc3 => ?_) (fun zc3 => ?_)
        · refine j_iconst hc dX0_init_119 ?_
          refine j_istore (L' := [_, _, _, _, _]) hc dX0_init_120 (Nat.le_of_ble_eq_true rfl) rfl ?_
          refine j_aload_n hc dX0_init_122 rfl ?_
          refine j_get hc dX0_init_123 fX0_45 zL rfl ?_
          refine j_iload_n hc dX0_init_126 rfl ?_
          refine j_iload hc dX0_init_127 rfl ?_
          refine j_if_eq (b := 0) (tgt := 136) hc dX0_init_129 (by decide) ⟨by omega, by omega⟩ (fun zc4 => ?_) (fun zc4 => ?_)
          · refine j_aload_n hc dX0_init_136 rfl ?_
            refine j_get hc dX0_init_137 fX0_45 zL rfl ?_
            refine j_iload_n hc dX0_init_140 rfl ?_
            refine j_iconst hc dX0_init_141 ?_
            refine j_isub hc dX0_init_142 ?_
            refine j_iald hc dX0_init_143 z38 (by omega) (by omega) ?_
            refine j_iast hc dX0_init_144 z38 (by omega) (by omega) ?_
            generalize ezh1 : up _ _ _ = zh1
            have zL_zh1 := (congrFun ezh1 _).symm.trans ((up_ne (by simp)).trans zL)
            have zL31_zh1 := (congrFun ezh1 _).symm.trans ((up_ne (by simp)).trans z31)
            have zL38_zh1 := (congrFun ezh1 _).symm.trans (up_same _ _ _)
            have zL39_zh1 := (congrFun ezh1 _).symm.trans ((up_ne (by simp)).trans z39)
            refine j_aload_n hc dX0_init_145 rfl ?_
            refine j_get hc dX0_init_146 fX0_48 zL_zh1 rfl ?_
            refine j_iload_n hc dX0_init_149 rfl ?_
            refine j_iload hc dX0_init_150 rfl ?_
            refine j_if_eq (b := 0) (tgt := 159) hc dX0_init_152 (by decide) ⟨by omega, by omega⟩ (fun zc5 => ?_) (fun zc5 => ?_)
            · refine j_aload_n hc dX0_init_159 rfl ?_
              refine j_get hc dX0_init_160 fX0_48 zL_zh1 rfl ?_
              refine j_iload_n hc dX0_init_163 rfl ?_
              refine j_iconst hc dX0_init_164 ?_
              refine j_isub hc dX0_init_165 ?_
              refine j_iald hc dX0_init_166 zL39_zh1 (by omega) (by omega) ?_
              refine j_iast hc dX0_init_167 zL39_zh1 (by omega) (by omega) ?_
              generalize ezh2 : up _ _ _ = zh2
              have zL_zh2 := (congrFun ezh2 _).symm.trans ((up_ne (by simp)).trans zL_zh1)
              have zL31_zh2 := (congrFun ezh2 _).symm.trans ((up_ne (by simp)).trans zL31_zh1)
              have zL38_zh2 := (congrFun ezh2 _).symm.trans ((up_ne (by simp)).trans zL38_zh1)
              have zL39_zh2 := (congrFun ezh2 _).symm.trans (up_same _ _ _)
              refine j_iinc (L' := [_, _, _, _, _]) hc dX0_init_168 rfl (Nat.le_of_ble_eq_true rfl) rfl ?_
              refine j_goto (tgt := 73) hc dX0_init_171 (by decide) ?_
              have zbt : btN D (x + 1) = _ := rfl
              exact ih _ (by omega) (x + 1) _ _ _ _ _ rfl (by omega) zL_zh2 zL31_zh2 zL38_zh2 zL39_zh2 (by rw [← ezh2, ← ezh1]; exact (hfr.push (Or.inl rfl)).push (Or.inr rfl)) (fun j z0 z1 => by
                by_cases zj : j = (x : Int) + 1
                · rw [zj, fu_same, show ((x : Int) + 1).toNat = x + 1 by omega]
                  simp only [btN]
                  rw [ztk]
                  first
                    | (exfalso; omega)
                    | (rw [if_pos (by omega)])
                    | (rw [if_neg (by omega)]; rw [show (x : Int) + 1 - 1 = x by omega, hq8 x (by omega) (by omega)]; rfl)
                · rw [fu_ne zj]; exact hq8 j z0 (by omega)) (fun j z0 z1 => by
                by_cases zj : j = (x : Int) + 1
                · rw [zj, fu_same, show ((x : Int) + 1).toNat = x + 1 by omega]
                  simp only [bsN]
                  rw [ztk]
                  first
                    | (exfalso; omega)
                    | (rw [if_pos (by omega)]; omega)
                    | (rw [if_neg (by omega)]; rw [show (x : Int) + 1 - 1 = x by omega, hq9 x (by omega) (by omega)]; rfl)
                · rw [fu_ne zj]; exact hq9 j z0 (by omega))
            · refine j_iload_n hc dX0_init_155 rfl ?_
              refine j_goto (tgt := 167) hc dX0_init_156 (by decide) ?_
              refine j_iast hc dX0_init_167 zL39_zh1 (by omega) (by omega) ?_
              generalize ezh3 : up _ _ _ = zh3
              have zL_zh3 := (congrFun ezh3 _).symm.trans ((up_ne (by simp)).trans zL_zh1)
              have zL31_zh3 := (congrFun ezh3 _).symm.trans ((up_ne (by simp)).trans zL31_zh1)
              have zL38_zh3 := (congrFun ezh3 _).symm.trans ((up_ne (by simp)).trans zL38_zh1)
              have zL39_zh3 := (congrFun ezh3 _).symm.trans (up_same _ _ _)
              refine j_iinc (L' := [_, _, _, _, _]) hc dX0_init_168 rfl (Nat.le_of_ble_eq_true rfl) rfl ?_
              refine j_goto (tgt := 73) hc dX0_init_171 (by decide) ?_
              have zbt : btN D (x + 1) = _ := rfl
              exact ih _ (by omega) (x + 1) _ _ _ _ _ rfl (by omega) zL_zh3 zL31_zh3 zL38_zh3 zL39_zh3 (by rw [← ezh3, ← ezh1]; exact (hfr.push (Or.inl rfl)).push (Or.inr rfl)) (fun j z0 z1 => by
                by_cases zj : j = (x : Int) + 1
                · rw [zj, fu_same, show ((x : Int) + 1).toNat = x + 1 by omega]
                  simp only [btN]
                  rw [ztk]
                  first
                    | (exfalso; omega)
                    | (rw [if_pos (by omega)])
                    | (rw [if_neg (by omega)]; rw [show (x : Int) + 1 - 1 = x by omega, hq8 x (by omega) (by omega)]; rfl)
                · rw [fu_ne zj]; exact hq8 j z0 (by omega)) (fun j z0 z1 => by
                by_cases zj : j = (x : Int) + 1
                · rw [zj, fu_same, show ((x : Int) + 1).toNat = x + 1 by omega]
                  simp only [bsN]
                  rw [ztk]
                  first
                    | (exfalso; omega)
                    | (rw [if_pos (by omega)]; omega)
                    | (rw [if_neg (by omega)]; rw [show (x : Int) + 1 - 1 = x by omega, hq9 x (by omega) (by omega)]; rfl)
                · rw [fu_ne zj]; exact hq9 j z0 (by omega))
          · refine j_iload_n hc dX0_init_132 rfl ?_
            refine j_goto (tgt := 144) hc dX0_init_133 (by decide) ?_
            refine j_iast hc dX0_init_144 z38 (by omega) (by omega) ?_
            generalize ezh4 : up _ _ _ = zh4
            have zL_zh4 := (congrFun ezh4 _).symm.trans ((up_ne (by simp)).trans zL)
            have zL31_zh4 := (congrFun ezh4 _).symm.trans ((up_ne (by simp)).trans z31)
            have zL38_zh4 := (congrFun ezh4 _).symm.trans (up_same _ _ _)
            have zL39_zh4 := (congrFun ezh4 _).symm.trans ((up_ne (by simp)).trans z39)
            refine j_aload_n hc dX0_init_145 rfl ?_
            refine j_get hc dX0_init_146 fX0_48 zL_zh4 rfl ?_
            refine j_iload_n hc dX0_init_149 rfl ?_
            refine j_iload hc dX0_init_150 rfl ?_
            refine j_if_eq (b := 0) (tgt := 159) hc dX0_init_152 (by decide) ⟨by omega, by omega⟩ (fun zc6 => ?_) (fun zc6 => ?_)
            · refine j_aload_n hc dX0_init_159 rfl ?_
              refine j_get hc dX0_init_160 fX0_48 zL_zh4 rfl ?_
              refine j_iload_n hc dX0_init_163 rfl ?_
              refine j_iconst hc dX0_init_164 ?_
              refine j_isub hc dX0_init_165 ?_
              refine j_iald hc dX0_init_166 zL39_zh4 (by omega) (by omega) ?_
              refine j_iast hc dX0_init_167 zL39_zh4 (by omega) (by omega) ?_
              generalize ezh5 : up _ _ _ = zh5
              have zL_zh5 := (congrFun ezh5 _).symm.trans ((up_ne (by simp)).trans zL_zh4)
              have zL31_zh5 := (congrFun ezh5 _).symm.trans ((up_ne (by simp)).trans zL31_zh4)
              have zL38_zh5 := (congrFun ezh5 _).symm.trans ((up_ne (by simp)).trans zL38_zh4)
              have zL39_zh5 := (congrFun ezh5 _).symm.trans (up_same _ _ _)
              refine j_iinc (L' := [_, _, _, _, _]) hc dX0_init_168 rfl (Nat.le_of_ble_eq_true rfl) rfl ?_
              refine j_goto (tgt := 73) hc dX0_init_171 (by decide) ?_
              have zbt : btN D (x + 1) = _ := rfl
              exact ih _ (by omega) (x + 1) _ _ _ _ _ rfl (by omega) zL_zh5 zL31_zh5 zL38_zh5 zL39_zh5 (by rw [← ezh5, ← ezh4]; exact (hfr.push (Or.inl rfl)).push (Or.inr rfl)) (fun j z0 z1 => by
                by_cases zj : j = (x : Int) + 1
                · rw [zj, fu_same, show ((x : Int) + 1).toNat = x + 1 by omega]
                  simp only [btN]
                  rw [ztk]
                  first
                    | (exfalso; omega)
                    | (rw [if_pos (by omega)])
                    | (rw [if_neg (by omega)]; rw [show (x : Int) + 1 - 1 = x by omega, hq8 x (by omega) (by omega)]; rfl)
                · rw [fu_ne zj]; exact hq8 j z0 (by omega)) (fun j z0 z1 => by
                by_cases zj : j = (x : Int) + 1
                · rw [zj, fu_same, show ((x : Int) + 1).toNat = x + 1 by omega]
                  simp only [bsN]
                  rw [ztk]
                  first
                    | (exfalso; omega)
                    | (rw [if_pos (by omega)]; omega)
                    | (rw [if_neg (by omega)]; rw [show (x : Int) + 1 - 1 = x by omega, hq9 x (by omega) (by omega)]; rfl)
                · rw [fu_ne zj]; exact hq9 j z0 (by omega))
            · refine j_iload_n hc dX0_init_155 rfl ?_
              refine j_goto (tgt := 167) hc dX0_init_156 (by decide) ?_
              refine j_iast hc dX0_init_167 zL39_zh4 (by omega) (by omega) ?_
              generalize ezh6 : up _ _ _ = zh6
              have zL_zh6 := (congrFun ezh6 _).symm.trans ((up_ne (by simp)).trans zL_zh4)
              have zL31_zh6 := (congrFun ezh6 _).symm.trans ((up_ne (by simp)).trans zL31_zh4)
              have zL38_zh6 := (congrFun ezh6 _).symm.trans ((up_ne (by simp)).trans zL38_zh4)
              have zL39_zh6 := (congrFun ezh6 _).symm.trans (up_same _ _ _)
              refine j_iinc (L' := [_, _, _, _, _]) hc dX0_init_168 rfl (Nat.le_of_ble_eq_true rfl) rfl ?_
              refine j_goto (tgt := 73) hc dX0_init_171 (by decide) ?_
              have zbt : btN D (x + 1) = _ := rfl
              exact ih _ (by omega) (x + 1) _ _ _ _ _ rfl (by omega) zL_zh6 zL31_zh6 zL38_zh6 zL39_zh6 (by rw [← ezh6, ← ezh4]; exact (hfr.push (Or.inl rfl)).push (Or.inr rfl)) (fun j z0 z1 => by
                by_cases zj : j = (x : Int) + 1
                · rw [zj, fu_same, show ((x : Int) + 1).toNat = x + 1 by omega]
                  simp only [btN]
                  rw [ztk]
                  first
                    | (exfalso; omega)
                    | (rw [if_pos (by omega)])
                    | (rw [if_neg (by omega)]; rw [show (x : Int) + 1 - 1 = x by omega, hq8 x (by omega) (by omega)]; rfl)
                · rw [fu_ne zj]; exact hq8 j z0 (by omega)) (fun j z0 z1 => by
                by_cases zj : j = (x : Int) + 1
                · rw [zj, fu_same, show ((x : Int) + 1).toNat = x + 1 by omega]
                  simp only [bsN]
                  rw [ztk]
                  first
                    | (exfalso; omega)
                    | (rw [if_pos (by omega)]; omega)
                    | (rw [if_neg (by omega)]; rw [show (x : Int) + 1 - 1 = x by omega, hq9 x (by omega) (by omega)]; rfl)
                · rw [fu_ne zj]; exact hq9 j z0 (by omega))
        · refine j_iconst hc dX0_init_115 ?_
          refine j_goto (tgt := 120) hc dX0_init_116 (by decide) ?_
          refine j_istore (L' := [_, _, _, _, _]) hc dX0_init_120 (Nat.le_of_ble_eq_true rfl) rfl ?_
          refine j_aload_n hc dX0_init_122 rfl ?_
          refine j_get hc dX0_init_123 fX0_45 zL rfl ?_
          refine j_iload_n hc dX0_init_126 rfl ?_
          refine j_iload hc dX0_init_127 rfl ?_
          refine j_if_eq (b := 0) (tgt := 136) hc dX0_init_129 (by decide) ⟨by omega, by omega⟩ (fun zc7 => ?_) (fun zc7 => ?_)
          · refine j_aload_n hc dX0_init_136 rfl ?_
            refine j_get hc dX0_init_137 fX0_45 zL rfl ?_
            refine j_iload_n hc dX0_init_140 rfl ?_
            refine j_iconst hc dX0_init_141 ?_
            refine j_isub hc dX0_init_142 ?_
            refine j_iald hc dX0_init_143 z38 (by omega) (by omega) ?_
            refine j_iast hc dX0_init_144 z38 (by omega) (by omega) ?_
            generalize ezh7 : up _ _ _ = zh7
            have zL_zh7 := (congrFun ezh7 _).symm.trans ((up_ne (by simp)).trans zL)
            have zL31_zh7 := (congrFun ezh7 _).symm.trans ((up_ne (by simp)).trans z31)
            have zL38_zh7 := (congrFun ezh7 _).symm.trans (up_same _ _ _)
            have zL39_zh7 := (congrFun ezh7 _).symm.trans ((up_ne (by simp)).trans z39)
            refine j_aload_n hc dX0_init_145 rfl ?_
            refine j_get hc dX0_init_146 fX0_48 zL_zh7 rfl ?_
            refine j_iload_n hc dX0_init_149 rfl ?_
            refine j_iload hc dX0_init_150 rfl ?_
            refine j_if_eq (b := 0) (tgt := 159) hc dX0_init_152 (by decide) ⟨by omega, by omega⟩ (fun zc8 => ?_) (fun zc8 => ?_)
            · refine j_aload_n hc dX0_init_159 rfl ?_
              refine j_get hc dX0_init_160 fX0_48 zL_zh7 rfl ?_
              refine j_iload_n hc dX0_init_163 rfl ?_
              refine j_iconst hc dX0_init_164 ?_
              refine j_isub hc dX0_init_165 ?_
              refine j_iald hc dX0_init_166 zL39_zh7 (by omega) (by omega) ?_
              refine j_iast hc dX0_init_167 zL39_zh7 (by omega) (by omega) ?_
              generalize ezh8 : up _ _ _ = zh8
              have zL_zh8 := (congrFun ezh8 _).symm.trans ((up_ne (by simp)).trans zL_zh7)
              have zL31_zh8 := (congrFun ezh8 _).symm.trans ((up_ne (by simp)).trans zL31_zh7)
              have zL38_zh8 := (congrFun ezh8 _).symm.trans ((up_ne (by simp)).trans zL38_zh7)
              have zL39_zh8 := (congrFun ezh8 _).symm.trans (up_same _ _ _)
              refine j_iinc (L' := [_, _, _, _, _]) hc dX0_init_168 rfl (Nat.le_of_ble_eq_true rfl) rfl ?_
              refine j_goto (tgt := 73) hc dX0_init_171 (by decide) ?_
              have zbt : btN D (x + 1) = _ := rfl
              exact ih _ (by omega) (x + 1) _ _ _ _ _ rfl (by omega) zL_zh8 zL31_zh8 zL38_zh8 zL39_zh8 (by rw [← ezh8, ← ezh7]; exact (hfr.push (Or.inl rfl)).push (Or.inr rfl)) (fun j z0 z1 => by
                by_cases zj : j = (x : Int) + 1
                · rw [zj, fu_same, show ((x : Int) + 1).toNat = x + 1 by omega]
                  simp only [btN]
                  rw [ztk]
                  first
                    | (exfalso; omega)
                    | (rw [if_pos (by omega)])
                    | (rw [if_neg (by omega)]; rw [show (x : Int) + 1 - 1 = x by omega, hq8 x (by omega) (by omega)]; rfl)
                · rw [fu_ne zj]; exact hq8 j z0 (by omega)) (fun j z0 z1 => by
                by_cases zj : j = (x : Int) + 1
                · rw [zj, fu_same, show ((x : Int) + 1).toNat = x + 1 by omega]
                  simp only [bsN]
                  rw [ztk]
                  first
                    | (exfalso; omega)
                    | (rw [if_pos (by omega)]; omega)
                    | (rw [if_neg (by omega)]; rw [show (x : Int) + 1 - 1 = x by omega, hq9 x (by omega) (by omega)]; rfl)
                · rw [fu_ne zj]; exact hq9 j z0 (by omega))
            · refine j_iload_n hc dX0_init_155 rfl ?_
              refine j_goto (tgt := 167) hc dX0_init_156 (by decide) ?_
              refine j_iast hc dX0_init_167 zL39_zh7 (by omega) (by omega) ?_
              generalize ezh9 : up _ _ _ = zh9
              have zL_zh9 := (congrFun ezh9 _).symm.trans ((up_ne (by simp)).trans zL_zh7)
              have zL31_zh9 := (congrFun ezh9 _).symm.trans ((up_ne (by simp)).trans zL31_zh7)
              have zL38_zh9 := (congrFun ezh9 _).symm.trans ((up_ne (by simp)).trans zL38_zh7)
              have zL39_zh9 := (congrFun ezh9 _).symm.trans (up_same _ _ _)
              refine j_iinc (L' := [_, _, _, _, _]) hc dX0_init_168 rfl (Nat.le_of_ble_eq_true rfl) rfl ?_
              refine j_goto (tgt := 73) hc dX0_init_171 (by decide) ?_
              have zbt : btN D (x + 1) = _ := rfl
              exact ih _ (by omega) (x + 1) _ _ _ _ _ rfl (by omega) zL_zh9 zL31_zh9 zL38_zh9 zL39_zh9 (by rw [← ezh9, ← ezh7]; exact (hfr.push (Or.inl rfl)).push (Or.inr rfl)) (fun j z0 z1 => by
                by_cases zj : j = (x : Int) + 1
                · rw [zj, fu_same, show ((x : Int) + 1).toNat = x + 1 by omega]
                  simp only [btN]
                  rw [ztk]
                  first
                    | (exfalso; omega)
                    | (rw [if_pos (by omega)])
                    | (rw [if_neg (by omega)]; rw [show (x : Int) + 1 - 1 = x by omega, hq8 x (by omega) (by omega)]; rfl)
                · rw [fu_ne zj]; exact hq8 j z0 (by omega)) (fun j z0 z1 => by
                by_cases zj : j = (x : Int) + 1
                · rw [zj, fu_same, show ((x : Int) + 1).toNat = x + 1 by omega]
                  simp only [bsN]
                  rw [ztk]
                  first
                    | (exfalso; omega)
                    | (rw [if_pos (by omega)]; omega)
                    | (rw [if_neg (by omega)]; rw [show (x : Int) + 1 - 1 = x by omega, hq9 x (by omega) (by omega)]; rfl)
                · rw [fu_ne zj]; exact hq9 j z0 (by omega))
          · refine j_iload_n hc dX0_init_132 rfl ?_
            refine j_goto (tgt := 144) hc dX0_init_133 (by decide) ?_
            refine j_iast hc dX0_init_144 z38 (by omega) (by omega) ?_
            generalize ezh10 : up _ _ _ = zh10
            have zL_zh10 := (congrFun ezh10 _).symm.trans ((up_ne (by simp)).trans zL)
            have zL31_zh10 := (congrFun ezh10 _).symm.trans ((up_ne (by simp)).trans z31)
            have zL38_zh10 := (congrFun ezh10 _).symm.trans (up_same _ _ _)
            have zL39_zh10 := (congrFun ezh10 _).symm.trans ((up_ne (by simp)).trans z39)
            refine j_aload_n hc dX0_init_145 rfl ?_
            refine j_get hc dX0_init_146 fX0_48 zL_zh10 rfl ?_
            refine j_iload_n hc dX0_init_149 rfl ?_
            refine j_iload hc dX0_init_150 rfl ?_
            refine j_if_eq (b := 0) (tgt := 159) hc dX0_init_152 (by decide) ⟨by omega, by omega⟩ (fun zc9 => ?_) (fun zc9 => ?_)
            · refine j_aload_n hc dX0_init_159 rfl ?_
              refine j_get hc dX0_init_160 fX0_48 zL_zh10 rfl ?_
              refine j_iload_n hc dX0_init_163 rfl ?_
              refine j_iconst hc dX0_init_164 ?_
              refine j_isub hc dX0_init_165 ?_
              refine j_iald hc dX0_init_166 zL39_zh10 (by omega) (by omega) ?_
              refine j_iast hc dX0_init_167 zL39_zh10 (by omega) (by omega) ?_
              generalize ezh11 : up _ _ _ = zh11
              have zL_zh11 := (congrFun ezh11 _).symm.trans ((up_ne (by simp)).trans zL_zh10)
              have zL31_zh11 := (congrFun ezh11 _).symm.trans ((up_ne (by simp)).trans zL31_zh10)
              have zL38_zh11 := (congrFun ezh11 _).symm.trans ((up_ne (by simp)).trans zL38_zh10)
              have zL39_zh11 := (congrFun ezh11 _).symm.trans (up_same _ _ _)
              refine j_iinc (L' := [_, _, _, _, _]) hc dX0_init_168 rfl (Nat.le_of_ble_eq_true rfl) rfl ?_
              refine j_goto (tgt := 73) hc dX0_init_171 (by decide) ?_
              have zbt : btN D (x + 1) = _ := rfl
              exact ih _ (by omega) (x + 1) _ _ _ _ _ rfl (by omega) zL_zh11 zL31_zh11 zL38_zh11 zL39_zh11 (by rw [← ezh11, ← ezh10]; exact (hfr.push (Or.inl rfl)).push (Or.inr rfl)) (fun j z0 z1 => by
                by_cases zj : j = (x : Int) + 1
                · rw [zj, fu_same, show ((x : Int) + 1).toNat = x + 1 by omega]
                  simp only [btN]
                  rw [ztk]
                  first
                    | (exfalso; omega)
                    | (rw [if_pos (by omega)])
                    | (rw [if_neg (by omega)]; rw [show (x : Int) + 1 - 1 = x by omega, hq8 x (by omega) (by omega)]; rfl)
                · rw [fu_ne zj]; exact hq8 j z0 (by omega)) (fun j z0 z1 => by
                by_cases zj : j = (x : Int) + 1
                · rw [zj, fu_same, show ((x : Int) + 1).toNat = x + 1 by omega]
                  simp only [bsN]
                  rw [ztk]
                  first
                    | (exfalso; omega)
                    | (rw [if_pos (by omega)]; omega)
                    | (rw [if_neg (by omega)]; rw [show (x : Int) + 1 - 1 = x by omega, hq9 x (by omega) (by omega)]; rfl)
                · rw [fu_ne zj]; exact hq9 j z0 (by omega))
            · refine j_iload_n hc dX0_init_155 rfl ?_
              refine j_goto (tgt := 167) hc dX0_init_156 (by decide) ?_
              refine j_iast hc dX0_init_167 zL39_zh10 (by omega) (by omega) ?_
              generalize ezh12 : up _ _ _ = zh12
              have zL_zh12 := (congrFun ezh12 _).symm.trans ((up_ne (by simp)).trans zL_zh10)
              have zL31_zh12 := (congrFun ezh12 _).symm.trans ((up_ne (by simp)).trans zL31_zh10)
              have zL38_zh12 := (congrFun ezh12 _).symm.trans ((up_ne (by simp)).trans zL38_zh10)
              have zL39_zh12 := (congrFun ezh12 _).symm.trans (up_same _ _ _)
              refine j_iinc (L' := [_, _, _, _, _]) hc dX0_init_168 rfl (Nat.le_of_ble_eq_true rfl) rfl ?_
              refine j_goto (tgt := 73) hc dX0_init_171 (by decide) ?_
              have zbt : btN D (x + 1) = _ := rfl
              exact ih _ (by omega) (x + 1) _ _ _ _ _ rfl (by omega) zL_zh12 zL31_zh12 zL38_zh12 zL39_zh12 (by rw [← ezh12, ← ezh10]; exact (hfr.push (Or.inl rfl)).push (Or.inr rfl)) (fun j z0 z1 => by
                by_cases zj : j = (x : Int) + 1
                · rw [zj, fu_same, show ((x : Int) + 1).toNat = x + 1 by omega]
                  simp only [btN]
                  rw [ztk]
                  first
                    | (exfalso; omega)
                    | (rw [if_pos (by omega)])
                    | (rw [if_neg (by omega)]; rw [show (x : Int) + 1 - 1 = x by omega, hq8 x (by omega) (by omega)]; rfl)
                · rw [fu_ne zj]; exact hq8 j z0 (by omega)) (fun j z0 z1 => by
                by_cases zj : j = (x : Int) + 1
                · rw [zj, fu_same, show ((x : Int) + 1).toNat = x + 1 by omega]
                  simp only [bsN]
                  rw [ztk]
                  first
                    | (exfalso; omega)
                    | (rw [if_pos (by omega)]; omega)
                    | (rw [if_neg (by omega)]; rw [show (x : Int) + 1 - 1 = x by omega, hq9 x (by omega) (by omega)]; rfl)
                · rw [fu_ne zj]; exact hq9 j z0 (by omega))
      · have ztk : tkS D ((x + 1 : Nat) : Int) = ((x : Int) + 1) * lPa D ((x : Int) + 1 - 1) := zpa.1 (by omega)
        have ztb : 0 ≤ ((x : Int) + 1) * lPa D ((x : Int) + 1 - 1) ∧ ((x : Int) + 1) * lPa D ((x : Int) + 1 - 1) ≤ 17820 := by rw [← ztk]; exact zt
        refine j_iload_n hc dX0_init_88 rfl ?_
        refine j_aload_n hc dX0_init_89 rfl ?_
        refine j_get hc dX0_init_90 fX0_34 zL rfl ?_
        refine j_iload_n hc dX0_init_93 rfl ?_
        refine j_iconst hc dX0_init_94 ?_
        refine j_isub hc dX0_init_95 ?_
        refine j_iald hc dX0_init_96 z31 (by omega) (by omega) ?_
        refine j_imul hc dX0_init_97 ?_
        refine j_goto (tgt := 102) hc dX0_init_98 (by decide) ?_
        refine j_istore_n (L' := [_, _, _, _, _]) hc dX0_init_102 (Nat.le_of_ble_eq_true rfl) rfl ?_
        have z81 : f8 ((x : Int) + 1 - 1) = btN D x := by rw [show (x : Int) + 1 - 1 = x by omega]; exact z8x
        refine j_iload_n hc dX0_init_103 rfl ?_
        refine j_aload_n hc dX0_init_104 rfl ?_
        refine j_get hc dX0_init_105 fX0_45 zL rfl ?_
        refine j_iload_n hc dX0_init_108 rfl ?_
        refine j_iconst hc dX0_init_109 ?_
        refine j_isub hc dX0_init_110 ?_
        refine j_iald hc dX0_init_111 z38 (by omega) (by omega) ?_
        refine j_icmp_le (tgt := 119) hc dX0_init_112 (by decide) ⟨by omega, by omega⟩ ⟨by omega, by omega⟩ (fun zc10 => ?_) (fun zc10 => ?_)
        · refine j_iconst hc dX0_init_119 ?_
          refine j_istore (L' := [_, _, _, _, _]) hc dX0_init_120 (Nat.le_of_ble_eq_true rfl) rfl ?_
          refine j_aload_n hc dX0_init_122 rfl ?_
          refine j_get hc dX0_init_123 fX0_45 zL rfl ?_
          refine j_iload_n hc dX0_init_126 rfl ?_
          refine j_iload hc dX0_init_127 rfl ?_
          refine j_if_eq (b := 0) (tgt := 136) hc dX0_init_129 (by decide) ⟨by omega, by omega⟩ (fun zc11 => ?_) (fun zc11 => ?_)
          · refine j_aload_n hc dX0_init_136 rfl ?_
            refine j_get hc dX0_init_137 fX0_45 zL rfl ?_
            refine j_iload_n hc dX0_init_140 rfl ?_
            refine j_iconst hc dX0_init_141 ?_
            refine j_isub hc dX0_init_142 ?_
            refine j_iald hc dX0_init_143 z38 (by omega) (by omega) ?_
            refine j_iast hc dX0_init_144 z38 (by omega) (by omega) ?_
            generalize ezh13 : up _ _ _ = zh13
            have zL_zh13 := (congrFun ezh13 _).symm.trans ((up_ne (by simp)).trans zL)
            have zL31_zh13 := (congrFun ezh13 _).symm.trans ((up_ne (by simp)).trans z31)
            have zL38_zh13 := (congrFun ezh13 _).symm.trans (up_same _ _ _)
            have zL39_zh13 := (congrFun ezh13 _).symm.trans ((up_ne (by simp)).trans z39)
            refine j_aload_n hc dX0_init_145 rfl ?_
            refine j_get hc dX0_init_146 fX0_48 zL_zh13 rfl ?_
            refine j_iload_n hc dX0_init_149 rfl ?_
            refine j_iload hc dX0_init_150 rfl ?_
            refine j_if_eq (b := 0) (tgt := 159) hc dX0_init_152 (by decide) ⟨by omega, by omega⟩ (fun zc12 => ?_) (fun zc12 => ?_)
            · refine j_aload_n hc dX0_init_159 rfl ?_
              refine j_get hc dX0_init_160 fX0_48 zL_zh13 rfl ?_
              refine j_iload_n hc dX0_init_163 rfl ?_
              refine j_iconst hc dX0_init_164 ?_
              refine j_isub hc dX0_init_165 ?_
              refine j_iald hc dX0_init_166 zL39_zh13 (by omega) (by omega) ?_
              refine j_iast hc dX0_init_167 zL39_zh13 (by omega) (by omega) ?_
              generalize ezh14 : up _ _ _ = zh14
              have zL_zh14 := (congrFun ezh14 _).symm.trans ((up_ne (by simp)).trans zL_zh13)
              have zL31_zh14 := (congrFun ezh14 _).symm.trans ((up_ne (by simp)).trans zL31_zh13)
              have zL38_zh14 := (congrFun ezh14 _).symm.trans ((up_ne (by simp)).trans zL38_zh13)
              have zL39_zh14 := (congrFun ezh14 _).symm.trans (up_same _ _ _)
              refine j_iinc (L' := [_, _, _, _, _]) hc dX0_init_168 rfl (Nat.le_of_ble_eq_true rfl) rfl ?_
              refine j_goto (tgt := 73) hc dX0_init_171 (by decide) ?_
              have zbt : btN D (x + 1) = _ := rfl
              exact ih _ (by omega) (x + 1) _ _ _ _ _ rfl (by omega) zL_zh14 zL31_zh14 zL38_zh14 zL39_zh14 (by rw [← ezh14, ← ezh13]; exact (hfr.push (Or.inl rfl)).push (Or.inr rfl)) (fun j z0 z1 => by
                by_cases zj : j = (x : Int) + 1
                · rw [zj, fu_same, show ((x : Int) + 1).toNat = x + 1 by omega]
                  simp only [btN]
                  rw [ztk]
                  first
                    | (exfalso; omega)
                    | (rw [if_pos (by omega)])
                    | (rw [if_neg (by omega)]; rw [show (x : Int) + 1 - 1 = x by omega, hq8 x (by omega) (by omega)]; rfl)
                · rw [fu_ne zj]; exact hq8 j z0 (by omega)) (fun j z0 z1 => by
                by_cases zj : j = (x : Int) + 1
                · rw [zj, fu_same, show ((x : Int) + 1).toNat = x + 1 by omega]
                  simp only [bsN]
                  rw [ztk]
                  first
                    | (exfalso; omega)
                    | (rw [if_pos (by omega)]; omega)
                    | (rw [if_neg (by omega)]; rw [show (x : Int) + 1 - 1 = x by omega, hq9 x (by omega) (by omega)]; rfl)
                · rw [fu_ne zj]; exact hq9 j z0 (by omega))
            · refine j_iload_n hc dX0_init_155 rfl ?_
              refine j_goto (tgt := 167) hc dX0_init_156 (by decide) ?_
              refine j_iast hc dX0_init_167 zL39_zh13 (by omega) (by omega) ?_
              generalize ezh15 : up _ _ _ = zh15
              have zL_zh15 := (congrFun ezh15 _).symm.trans ((up_ne (by simp)).trans zL_zh13)
              have zL31_zh15 := (congrFun ezh15 _).symm.trans ((up_ne (by simp)).trans zL31_zh13)
              have zL38_zh15 := (congrFun ezh15 _).symm.trans ((up_ne (by simp)).trans zL38_zh13)
              have zL39_zh15 := (congrFun ezh15 _).symm.trans (up_same _ _ _)
              refine j_iinc (L' := [_, _, _, _, _]) hc dX0_init_168 rfl (Nat.le_of_ble_eq_true rfl) rfl ?_
              refine j_goto (tgt := 73) hc dX0_init_171 (by decide) ?_
              have zbt : btN D (x + 1) = _ := rfl
              exact ih _ (by omega) (x + 1) _ _ _ _ _ rfl (by omega) zL_zh15 zL31_zh15 zL38_zh15 zL39_zh15 (by rw [← ezh15, ← ezh13]; exact (hfr.push (Or.inl rfl)).push (Or.inr rfl)) (fun j z0 z1 => by
                by_cases zj : j = (x : Int) + 1
                · rw [zj, fu_same, show ((x : Int) + 1).toNat = x + 1 by omega]
                  simp only [btN]
                  rw [ztk]
                  first
                    | (exfalso; omega)
                    | (rw [if_pos (by omega)])
                    | (rw [if_neg (by omega)]; rw [show (x : Int) + 1 - 1 = x by omega, hq8 x (by omega) (by omega)]; rfl)
                · rw [fu_ne zj]; exact hq8 j z0 (by omega)) (fun j z0 z1 => by
                by_cases zj : j = (x : Int) + 1
                · rw [zj, fu_same, show ((x : Int) + 1).toNat = x + 1 by omega]
                  simp only [bsN]
                  rw [ztk]
                  first
                    | (exfalso; omega)
                    | (rw [if_pos (by omega)]; omega)
                    | (rw [if_neg (by omega)]; rw [show (x : Int) + 1 - 1 = x by omega, hq9 x (by omega) (by omega)]; rfl)
                · rw [fu_ne zj]; exact hq9 j z0 (by omega))
          · refine j_iload_n hc dX0_init_132 rfl ?_
            refine j_goto (tgt := 144) hc dX0_init_133 (by decide) ?_
            refine j_iast hc dX0_init_144 z38 (by omega) (by omega) ?_
            generalize ezh16 : up _ _ _ = zh16
            have zL_zh16 := (congrFun ezh16 _).symm.trans ((up_ne (by simp)).trans zL)
            have zL31_zh16 := (congrFun ezh16 _).symm.trans ((up_ne (by simp)).trans z31)
            have zL38_zh16 := (congrFun ezh16 _).symm.trans (up_same _ _ _)
            have zL39_zh16 := (congrFun ezh16 _).symm.trans ((up_ne (by simp)).trans z39)
            refine j_aload_n hc dX0_init_145 rfl ?_
            refine j_get hc dX0_init_146 fX0_48 zL_zh16 rfl ?_
            refine j_iload_n hc dX0_init_149 rfl ?_
            refine j_iload hc dX0_init_150 rfl ?_
            refine j_if_eq (b := 0) (tgt := 159) hc dX0_init_152 (by decide) ⟨by omega, by omega⟩ (fun zc13 => ?_) (fun zc13 => ?_)
            · refine j_aload_n hc dX0_init_159 rfl ?_
              refine j_get hc dX0_init_160 fX0_48 zL_zh16 rfl ?_
              refine j_iload_n hc dX0_init_163 rfl ?_
              refine j_iconst hc dX0_init_164 ?_
              refine j_isub hc dX0_init_165 ?_
              refine j_iald hc dX0_init_166 zL39_zh16 (by omega) (by omega) ?_
              refine j_iast hc dX0_init_167 zL39_zh16 (by omega) (by omega) ?_
              generalize ezh17 : up _ _ _ = zh17
              have zL_zh17 := (congrFun ezh17 _).symm.trans ((up_ne (by simp)).trans zL_zh16)
              have zL31_zh17 := (congrFun ezh17 _).symm.trans ((up_ne (by simp)).trans zL31_zh16)
              have zL38_zh17 := (congrFun ezh17 _).symm.trans ((up_ne (by simp)).trans zL38_zh16)
              have zL39_zh17 := (congrFun ezh17 _).symm.trans (up_same _ _ _)
              refine j_iinc (L' := [_, _, _, _, _]) hc dX0_init_168 rfl (Nat.le_of_ble_eq_true rfl) rfl ?_
              refine j_goto (tgt := 73) hc dX0_init_171 (by decide) ?_
              have zbt : btN D (x + 1) = _ := rfl
              exact ih _ (by omega) (x + 1) _ _ _ _ _ rfl (by omega) zL_zh17 zL31_zh17 zL38_zh17 zL39_zh17 (by rw [← ezh17, ← ezh16]; exact (hfr.push (Or.inl rfl)).push (Or.inr rfl)) (fun j z0 z1 => by
                by_cases zj : j = (x : Int) + 1
                · rw [zj, fu_same, show ((x : Int) + 1).toNat = x + 1 by omega]
                  simp only [btN]
                  rw [ztk]
                  first
                    | (exfalso; omega)
                    | (rw [if_pos (by omega)])
                    | (rw [if_neg (by omega)]; rw [show (x : Int) + 1 - 1 = x by omega, hq8 x (by omega) (by omega)]; rfl)
                · rw [fu_ne zj]; exact hq8 j z0 (by omega)) (fun j z0 z1 => by
                by_cases zj : j = (x : Int) + 1
                · rw [zj, fu_same, show ((x : Int) + 1).toNat = x + 1 by omega]
                  simp only [bsN]
                  rw [ztk]
                  first
                    | (exfalso; omega)
                    | (rw [if_pos (by omega)]; omega)
                    | (rw [if_neg (by omega)]; rw [show (x : Int) + 1 - 1 = x by omega, hq9 x (by omega) (by omega)]; rfl)
                · rw [fu_ne zj]; exact hq9 j z0 (by omega))
            · refine j_iload_n hc dX0_init_155 rfl ?_
              refine j_goto (tgt := 167) hc dX0_init_156 (by decide) ?_
              refine j_iast hc dX0_init_167 zL39_zh16 (by omega) (by omega) ?_
              generalize ezh18 : up _ _ _ = zh18
              have zL_zh18 := (congrFun ezh18 _).symm.trans ((up_ne (by simp)).trans zL_zh16)
              have zL31_zh18 := (congrFun ezh18 _).symm.trans ((up_ne (by simp)).trans zL31_zh16)
              have zL38_zh18 := (congrFun ezh18 _).symm.trans ((up_ne (by simp)).trans zL38_zh16)
              have zL39_zh18 := (congrFun ezh18 _).symm.trans (up_same _ _ _)
              refine j_iinc (L' := [_, _, _, _, _]) hc dX0_init_168 rfl (Nat.le_of_ble_eq_true rfl) rfl ?_
              refine j_goto (tgt := 73) hc dX0_init_171 (by decide) ?_
              have zbt : btN D (x + 1) = _ := rfl
              exact ih _ (by omega) (x + 1) _ _ _ _ _ rfl (by omega) zL_zh18 zL31_zh18 zL38_zh18 zL39_zh18 (by rw [← ezh18, ← ezh16]; exact (hfr.push (Or.inl rfl)).push (Or.inr rfl)) (fun j z0 z1 => by
                by_cases zj : j = (x : Int) + 1
                · rw [zj, fu_same, show ((x : Int) + 1).toNat = x + 1 by omega]
                  simp only [btN]
                  rw [ztk]
                  first
                    | (exfalso; omega)
                    | (rw [if_pos (by omega)])
                    | (rw [if_neg (by omega)]; rw [show (x : Int) + 1 - 1 = x by omega, hq8 x (by omega) (by omega)]; rfl)
                · rw [fu_ne zj]; exact hq8 j z0 (by omega)) (fun j z0 z1 => by
                by_cases zj : j = (x : Int) + 1
                · rw [zj, fu_same, show ((x : Int) + 1).toNat = x + 1 by omega]
                  simp only [bsN]
                  rw [ztk]
                  first
                    | (exfalso; omega)
                    | (rw [if_pos (by omega)]; omega)
                    | (rw [if_neg (by omega)]; rw [show (x : Int) + 1 - 1 = x by omega, hq9 x (by omega) (by omega)]; rfl)
                · rw [fu_ne zj]; exact hq9 j z0 (by omega))
        · refine j_iconst hc dX0_init_115 ?_
          refine j_goto (tgt := 120) hc dX0_init_116 (by decide) ?_
          refine j_istore (L' := [_, _, _, _, _]) hc dX0_init_120 (Nat.le_of_ble_eq_true rfl) rfl ?_
          refine j_aload_n hc dX0_init_122 rfl ?_
          refine j_get hc dX0_init_123 fX0_45 zL rfl ?_
          refine j_iload_n hc dX0_init_126 rfl ?_
          refine j_iload hc dX0_init_127 rfl ?_
          refine j_if_eq (b := 0) (tgt := 136) hc dX0_init_129 (by decide) ⟨by omega, by omega⟩ (fun zc14 => ?_) (fun zc14 => ?_)
          · refine j_aload_n hc dX0_init_136 rfl ?_
            refine j_get hc dX0_init_137 fX0_45 zL rfl ?_
            refine j_iload_n hc dX0_init_140 rfl ?_
            refine j_iconst hc dX0_init_141 ?_
            refine j_isub hc dX0_init_142 ?_
            refine j_iald hc dX0_init_143 z38 (by omega) (by omega) ?_
            refine j_iast hc dX0_init_144 z38 (by omega) (by omega) ?_
            generalize ezh19 : up _ _ _ = zh19
            have zL_zh19 := (congrFun ezh19 _).symm.trans ((up_ne (by simp)).trans zL)
            have zL31_zh19 := (congrFun ezh19 _).symm.trans ((up_ne (by simp)).trans z31)
            have zL38_zh19 := (congrFun ezh19 _).symm.trans (up_same _ _ _)
            have zL39_zh19 := (congrFun ezh19 _).symm.trans ((up_ne (by simp)).trans z39)
            refine j_aload_n hc dX0_init_145 rfl ?_
            refine j_get hc dX0_init_146 fX0_48 zL_zh19 rfl ?_
            refine j_iload_n hc dX0_init_149 rfl ?_
            refine j_iload hc dX0_init_150 rfl ?_
            refine j_if_eq (b := 0) (tgt := 159) hc dX0_init_152 (by decide) ⟨by omega, by omega⟩ (fun zc15 => ?_) (fun zc15 => ?_)
            · refine j_aload_n hc dX0_init_159 rfl ?_
              refine j_get hc dX0_init_160 fX0_48 zL_zh19 rfl ?_
              refine j_iload_n hc dX0_init_163 rfl ?_
              refine j_iconst hc dX0_init_164 ?_
              refine j_isub hc dX0_init_165 ?_
              refine j_iald hc dX0_init_166 zL39_zh19 (by omega) (by omega) ?_
              refine j_iast hc dX0_init_167 zL39_zh19 (by omega) (by omega) ?_
              generalize ezh20 : up _ _ _ = zh20
              have zL_zh20 := (congrFun ezh20 _).symm.trans ((up_ne (by simp)).trans zL_zh19)
              have zL31_zh20 := (congrFun ezh20 _).symm.trans ((up_ne (by simp)).trans zL31_zh19)
              have zL38_zh20 := (congrFun ezh20 _).symm.trans ((up_ne (by simp)).trans zL38_zh19)
              have zL39_zh20 := (congrFun ezh20 _).symm.trans (up_same _ _ _)
              refine j_iinc (L' := [_, _, _, _, _]) hc dX0_init_168 rfl (Nat.le_of_ble_eq_true rfl) rfl ?_
              refine j_goto (tgt := 73) hc dX0_init_171 (by decide) ?_
              have zbt : btN D (x + 1) = _ := rfl
              exact ih _ (by omega) (x + 1) _ _ _ _ _ rfl (by omega) zL_zh20 zL31_zh20 zL38_zh20 zL39_zh20 (by rw [← ezh20, ← ezh19]; exact (hfr.push (Or.inl rfl)).push (Or.inr rfl)) (fun j z0 z1 => by
                by_cases zj : j = (x : Int) + 1
                · rw [zj, fu_same, show ((x : Int) + 1).toNat = x + 1 by omega]
                  simp only [btN]
                  rw [ztk]
                  first
                    | (exfalso; omega)
                    | (rw [if_pos (by omega)])
                    | (rw [if_neg (by omega)]; rw [show (x : Int) + 1 - 1 = x by omega, hq8 x (by omega) (by omega)]; rfl)
                · rw [fu_ne zj]; exact hq8 j z0 (by omega)) (fun j z0 z1 => by
                by_cases zj : j = (x : Int) + 1
                · rw [zj, fu_same, show ((x : Int) + 1).toNat = x + 1 by omega]
                  simp only [bsN]
                  rw [ztk]
                  first
                    | (exfalso; omega)
                    | (rw [if_pos (by omega)]; omega)
                    | (rw [if_neg (by omega)]; rw [show (x : Int) + 1 - 1 = x by omega, hq9 x (by omega) (by omega)]; rfl)
                · rw [fu_ne zj]; exact hq9 j z0 (by omega))
            · refine j_iload_n hc dX0_init_155 rfl ?_
              refine j_goto (tgt := 167) hc dX0_init_156 (by decide) ?_
              refine j_iast hc dX0_init_167 zL39_zh19 (by omega) (by omega) ?_
              generalize ezh21 : up _ _ _ = zh21
              have zL_zh21 := (congrFun ezh21 _).symm.trans ((up_ne (by simp)).trans zL_zh19)
              have zL31_zh21 := (congrFun ezh21 _).symm.trans ((up_ne (by simp)).trans zL31_zh19)
              have zL38_zh21 := (congrFun ezh21 _).symm.trans ((up_ne (by simp)).trans zL38_zh19)
              have zL39_zh21 := (congrFun ezh21 _).symm.trans (up_same _ _ _)
              refine j_iinc (L' := [_, _, _, _, _]) hc dX0_init_168 rfl (Nat.le_of_ble_eq_true rfl) rfl ?_
              refine j_goto (tgt := 73) hc dX0_init_171 (by decide) ?_
              have zbt : btN D (x + 1) = _ := rfl
              exact ih _ (by omega) (x + 1) _ _ _ _ _ rfl (by omega) zL_zh21 zL31_zh21 zL38_zh21 zL39_zh21 (by rw [← ezh21, ← ezh19]; exact (hfr.push (Or.inl rfl)).push (Or.inr rfl)) (fun j z0 z1 => by
                by_cases zj : j = (x : Int) + 1
                · rw [zj, fu_same, show ((x : Int) + 1).toNat = x + 1 by omega]
                  simp only [btN]
                  rw [ztk]
                  first
                    | (exfalso; omega)
                    | (rw [if_pos (by omega)])
                    | (rw [if_neg (by omega)]; rw [show (x : Int) + 1 - 1 = x by omega, hq8 x (by omega) (by omega)]; rfl)
                · rw [fu_ne zj]; exact hq8 j z0 (by omega)) (fun j z0 z1 => by
                by_cases zj : j = (x : Int) + 1
                · rw [zj, fu_same, show ((x : Int) + 1).toNat = x + 1 by omega]
                  simp only [bsN]
                  rw [ztk]
                  first
                    | (exfalso; omega)
                    | (rw [if_pos (by omega)]; omega)
                    | (rw [if_neg (by omega)]; rw [show (x : Int) + 1 - 1 = x by omega, hq9 x (by omega) (by omega)]; rfl)
                · rw [fu_ne zj]; exact hq9 j z0 (by omega))
          · refine j_iload_n hc dX0_init_132 rfl ?_
            refine j_goto (tgt := 144) hc dX0_init_133 (by decide) ?_
            refine j_iast hc dX0_init_144 z38 (by omega) (by omega) ?_
            generalize ezh22 : up _ _ _ = zh22
            have zL_zh22 := (congrFun ezh22 _).symm.trans ((up_ne (by simp)).trans zL)
            have zL31_zh22 := (congrFun ezh22 _).symm.trans ((up_ne (by simp)).trans z31)
            have zL38_zh22 := (congrFun ezh22 _).symm.trans (up_same _ _ _)
            have zL39_zh22 := (congrFun ezh22 _).symm.trans ((up_ne (by simp)).trans z39)
            refine j_aload_n hc dX0_init_145 rfl ?_
            refine j_get hc dX0_init_146 fX0_48 zL_zh22 rfl ?_
            refine j_iload_n hc dX0_init_149 rfl ?_
            refine j_iload hc dX0_init_150 rfl ?_
            refine j_if_eq (b := 0) (tgt := 159) hc dX0_init_152 (by decide) ⟨by omega, by omega⟩ (fun zc16 => ?_) (fun zc16 => ?_)
            · refine j_aload_n hc dX0_init_159 rfl ?_
              refine j_get hc dX0_init_160 fX0_48 zL_zh22 rfl ?_
              refine j_iload_n hc dX0_init_163 rfl ?_
              refine j_iconst hc dX0_init_164 ?_
              refine j_isub hc dX0_init_165 ?_
              refine j_iald hc dX0_init_166 zL39_zh22 (by omega) (by omega) ?_
              refine j_iast hc dX0_init_167 zL39_zh22 (by omega) (by omega) ?_
              generalize ezh23 : up _ _ _ = zh23
              have zL_zh23 := (congrFun ezh23 _).symm.trans ((up_ne (by simp)).trans zL_zh22)
              have zL31_zh23 := (congrFun ezh23 _).symm.trans ((up_ne (by simp)).trans zL31_zh22)
              have zL38_zh23 := (congrFun ezh23 _).symm.trans ((up_ne (by simp)).trans zL38_zh22)
              have zL39_zh23 := (congrFun ezh23 _).symm.trans (up_same _ _ _)
              refine j_iinc (L' := [_, _, _, _, _]) hc dX0_init_168 rfl (Nat.le_of_ble_eq_true rfl) rfl ?_
              refine j_goto (tgt := 73) hc dX0_init_171 (by decide) ?_
              have zbt : btN D (x + 1) = _ := rfl
              exact ih _ (by omega) (x + 1) _ _ _ _ _ rfl (by omega) zL_zh23 zL31_zh23 zL38_zh23 zL39_zh23 (by rw [← ezh23, ← ezh22]; exact (hfr.push (Or.inl rfl)).push (Or.inr rfl)) (fun j z0 z1 => by
                by_cases zj : j = (x : Int) + 1
                · rw [zj, fu_same, show ((x : Int) + 1).toNat = x + 1 by omega]
                  simp only [btN]
                  rw [ztk]
                  first
                    | (exfalso; omega)
                    | (rw [if_pos (by omega)])
                    | (rw [if_neg (by omega)]; rw [show (x : Int) + 1 - 1 = x by omega, hq8 x (by omega) (by omega)]; rfl)
                · rw [fu_ne zj]; exact hq8 j z0 (by omega)) (fun j z0 z1 => by
                by_cases zj : j = (x : Int) + 1
                · rw [zj, fu_same, show ((x : Int) + 1).toNat = x + 1 by omega]
                  simp only [bsN]
                  rw [ztk]
                  first
                    | (exfalso; omega)
                    | (rw [if_pos (by omega)]; omega)
                    | (rw [if_neg (by omega)]; rw [show (x : Int) + 1 - 1 = x by omega, hq9 x (by omega) (by omega)]; rfl)
                · rw [fu_ne zj]; exact hq9 j z0 (by omega))
            · refine j_iload_n hc dX0_init_155 rfl ?_
              refine j_goto (tgt := 167) hc dX0_init_156 (by decide) ?_
              refine j_iast hc dX0_init_167 zL39_zh22 (by omega) (by omega) ?_
              generalize ezh24 : up _ _ _ = zh24
              have zL_zh24 := (congrFun ezh24 _).symm.trans ((up_ne (by simp)).trans zL_zh22)
              have zL31_zh24 := (congrFun ezh24 _).symm.trans ((up_ne (by simp)).trans zL31_zh22)
              have zL38_zh24 := (congrFun ezh24 _).symm.trans ((up_ne (by simp)).trans zL38_zh22)
              have zL39_zh24 := (congrFun ezh24 _).symm.trans (up_same _ _ _)
              refine j_iinc (L' := [_, _, _, _, _]) hc dX0_init_168 rfl (Nat.le_of_ble_eq_true rfl) rfl ?_
              refine j_goto (tgt := 73) hc dX0_init_171 (by decide) ?_
              have zbt : btN D (x + 1) = _ := rfl
              exact ih _ (by omega) (x + 1) _ _ _ _ _ rfl (by omega) zL_zh24 zL31_zh24 zL38_zh24 zL39_zh24 (by rw [← ezh24, ← ezh22]; exact (hfr.push (Or.inl rfl)).push (Or.inr rfl)) (fun j z0 z1 => by
                by_cases zj : j = (x : Int) + 1
                · rw [zj, fu_same, show ((x : Int) + 1).toNat = x + 1 by omega]
                  simp only [btN]
                  rw [ztk]
                  first
                    | (exfalso; omega)
                    | (rw [if_pos (by omega)])
                    | (rw [if_neg (by omega)]; rw [show (x : Int) + 1 - 1 = x by omega, hq8 x (by omega) (by omega)]; rfl)
                · rw [fu_ne zj]; exact hq8 j z0 (by omega)) (fun j z0 z1 => by
                by_cases zj : j = (x : Int) + 1
                · rw [zj, fu_same, show ((x : Int) + 1).toNat = x + 1 by omega]
                  simp only [bsN]
                  rw [ztk]
                  first
                    | (exfalso; omega)
                    | (rw [if_pos (by omega)]; omega)
                    | (rw [if_neg (by omega)]; rw [show (x : Int) + 1 - 1 = x by omega, hq9 x (by omega) (by omega)]; rfl)
                · rw [fu_ne zj]; exact hq9 j z0 (by omega))
set_option maxRecDepth 100000 in
set_option maxHeartbeats 4000000 in
theorem lp_X0_init2 {k : WC} {d : Nat} {w : MC} {n1 n2 : Nat} {h : AH} {l : Int} {X : DrS} (hd : 4 ≤ d) (hX : XOK X) (hc : Cx w k d 10 730 mdX0_init) {z3 z4 : Option AV} (kont : ∀ (h' : AH) (z2 : Option AV), h' (30, l) = some (oO 0 [vI (xSe X), vI (xCo X), vI (xMi X), vI (xRo X), vR (31, l), vR (32, l), vR (33, l), vR (34, l), vR (35, l), vN, vR (37, l), vR (38, l), vR (39, l), vN, vI 0, vI 0, vN, vI 0, vI 0, vI 0]) → h' (32, l) = some (oI 4 (fzN X (xSe X).toNat).1) → h' (33, l) = some (oI 16 (fzN X (xSe X).toNat).2.1) → h' (34, l) = some (oI 16 (fzN X (xSe X).toNat).2.2.1) → h' (35, l) = some (oI 4 (fzN X (xSe X).toNat).2.2.2) → Fr (fun z => 32 ≤ z.1 ∧ z.1 ≤ 35 ∧ z.2 = l) h h' → J w n1 n2 287 [some (vR (30, l)), some (vR (3, 0)), z2, z3, z4] [] h') : ∀ (zm : Nat) (x : Nat) (h' : AH), (xSe X).toNat - x = zm → x ≤ (xSe X).toNat → h' (30, l) = some (oO 0 [vI (xSe X), vI (xCo X), vI (xMi X), vI (xRo X), vR (31, l), vR (32, l), vR (33, l), vR (34, l), vR (35, l), vN, vR (37, l), vR (38, l), vR (39, l), vN, vI 0, vI 0, vN, vI 0, vI 0, vI 0]) → h' (32, l) = some (oI 4 (fzN X x).1) → h' (33, l) = some (oI 16 (fzN X x).2.1) → h' (34, l) = some (oI 16 (fzN X x).2.2.1) → h' (35, l) = some (oI 4 (fzN X x).2.2.2) → Fr (fun z => 32 ≤ z.1 ∧ z.1 ≤ 35 ∧ z.2 = l) h h' → J w n1 n2 232 [some (vR (30, l)), some (vR (3, 0)), some (vI x), z3, z4] [] h' := by
  intro zm
  induction zm using Nat.strongRecOn with
  | _ zm ih =>
    intro x h' hm hx zL z32 z33 z34 z35 hfr
    obtain ⟨x1, x2, x3, x4, x5, x6, x7, x8, x9, x10, x11, x12, x13, x14, x15, x16⟩ := id hX
    have zhv := ((fzN_at (X := X) x x (by omega)).1 (Int.le_refl _)).1
    refine j_iload_n hc dX0_init_232 rfl ?_
    refine j_aload_n hc dX0_init_233 rfl ?_
    refine j_get hc dX0_init_234 fX0_15 zL rfl ?_
    refine j_icmp_ge (tgt := 287) hc dX0_init_237 (by decide) ⟨by omega, by omega⟩ ⟨by omega, by omega⟩ (fun zc1 => ?_) (fun zc1 => ?_)
    · rw [show (xSe X).toNat = x by omega] at kont
      exact kont _ _ zL z32 z33 z34 z35 hfr
    · have zh4 := x16 x (by omega) (by omega)
      refine j_aload_n hc dX0_init_240 rfl ?_
      refine j_get hc dX0_init_241 fX0_59 zL rfl ?_
      refine j_iload_n hc dX0_init_244 rfl ?_
      refine j_iald hc dX0_init_245 z32 (by omega) (by omega) ?_
      refine j_if_ne (b := 0) (tgt := 281) hc dX0_init_246 (by decide) ⟨by rw [zhv]; omega, by rw [zhv]; omega⟩ (fun zc2 => ?_) (fun zc2 => ?_)
      · refine j_iinc (L' := [_, _, _, _, _]) hc dX0_init_281 rfl (Nat.le_of_ble_eq_true rfl) rfl ?_
        refine j_goto (tgt := 232) hc dX0_init_284 (by decide) ?_
        exact ih _ (by omega) (x + 1) _ rfl (by omega) zL (z32.trans (by simp only [fzN]; rw [if_neg (by assumption)])) (z33.trans (by simp only [fzN]; rw [if_neg (by assumption)])) (z34.trans (by simp only [fzN]; rw [if_neg (by assumption)])) (z35.trans (by simp only [fzN]; rw [if_neg (by assumption)])) hfr
      · refine j_aload_n hc dX0_init_249 rfl ?_
        refine j_get hc dX0_init_250 fX0_59 zL rfl ?_
        refine j_iload_n hc dX0_init_253 rfl ?_
        refine j_iconst hc dX0_init_254 ?_
        refine j_iast hc dX0_init_255 z32 (by omega) (by omega) ?_
        generalize ezh1 : up _ _ _ = zh1
        have zL_zh1 := (congrFun ezh1 _).symm.trans ((up_ne (by simp)).trans zL)
        have zL32_zh1 := (congrFun ezh1 _).symm.trans (up_same _ _ _)
        have zL33_zh1 := (congrFun ezh1 _).symm.trans ((up_ne (by simp)).trans z33)
        have zL34_zh1 := (congrFun ezh1 _).symm.trans ((up_ne (by simp)).trans z34)
        have zL35_zh1 := (congrFun ezh1 _).symm.trans ((up_ne (by simp)).trans z35)
        refine j_aload_n hc dX0_init_256 rfl ?_
        refine j_get hc dX0_init_257 fX0_63 zL_zh1 rfl ?_
        refine j_iload_n hc dX0_init_260 rfl ?_
        refine j_iconst hc dX0_init_261 ?_
        refine j_imul hc dX0_init_262 ?_
        refine j_iconst hc dX0_init_263 ?_
        refine j_iast hc dX0_init_264 zL33_zh1 (by omega) (by omega) ?_
        generalize ezh2 : up _ _ _ = zh2
        have zL_zh2 := (congrFun ezh2 _).symm.trans ((up_ne (by simp)).trans zL_zh1)
        have zL32_zh2 := (congrFun ezh2 _).symm.trans ((up_ne (by simp)).trans zL32_zh1)
        have zL33_zh2 := (congrFun ezh2 _).symm.trans (up_same _ _ _)
        have zL34_zh2 := (congrFun ezh2 _).symm.trans ((up_ne (by simp)).trans zL34_zh1)
        have zL35_zh2 := (congrFun ezh2 _).symm.trans ((up_ne (by simp)).trans zL35_zh1)
        refine j_aload_n hc dX0_init_265 rfl ?_
        refine j_get hc dX0_init_266 fX0_67 zL_zh2 rfl ?_
        refine j_iload_n hc dX0_init_269 rfl ?_
        refine j_iconst hc dX0_init_270 ?_
        refine j_imul hc dX0_init_271 ?_
        refine j_iconst hc dX0_init_272 ?_
        refine j_iast hc dX0_init_273 zL34_zh2 (by omega) (by omega) ?_
        generalize ezh3 : up _ _ _ = zh3
        have zL_zh3 := (congrFun ezh3 _).symm.trans ((up_ne (by simp)).trans zL_zh2)
        have zL32_zh3 := (congrFun ezh3 _).symm.trans ((up_ne (by simp)).trans zL32_zh2)
        have zL33_zh3 := (congrFun ezh3 _).symm.trans ((up_ne (by simp)).trans zL33_zh2)
        have zL34_zh3 := (congrFun ezh3 _).symm.trans (up_same _ _ _)
        have zL35_zh3 := (congrFun ezh3 _).symm.trans ((up_ne (by simp)).trans zL35_zh2)
        refine j_aload_n hc dX0_init_274 rfl ?_
        refine j_get hc dX0_init_275 fX0_71 zL_zh3 rfl ?_
        refine j_iload_n hc dX0_init_278 rfl ?_
        refine j_iconst hc dX0_init_279 ?_
        refine j_iast hc dX0_init_280 zL35_zh3 (by omega) (by omega) ?_
        generalize ezh4 : up _ _ _ = zh4
        have zL_zh4 := (congrFun ezh4 _).symm.trans ((up_ne (by simp)).trans zL_zh3)
        have zL32_zh4 := (congrFun ezh4 _).symm.trans ((up_ne (by simp)).trans zL32_zh3)
        have zL33_zh4 := (congrFun ezh4 _).symm.trans ((up_ne (by simp)).trans zL33_zh3)
        have zL34_zh4 := (congrFun ezh4 _).symm.trans ((up_ne (by simp)).trans zL34_zh3)
        have zL35_zh4 := (congrFun ezh4 _).symm.trans (up_same _ _ _)
        refine j_iinc (L' := [_, _, _, _, _]) hc dX0_init_281 rfl (Nat.le_of_ble_eq_true rfl) rfl ?_
        refine j_goto (tgt := 232) hc dX0_init_284 (by decide) ?_
        exact ih _ (by omega) (x + 1) _ rfl (by omega) zL_zh4 (zL32_zh4.trans (by simp only [fzN]; rw [if_pos (by assumption)])) (zL33_zh4.trans (by simp only [fzN]; rw [if_pos (by assumption)])) (zL34_zh4.trans (by simp only [fzN]; rw [if_pos (by assumption)])) (zL35_zh4.trans (by simp only [fzN]; rw [if_pos (by assumption)])) (by rw [← ezh4, ← ezh3, ← ezh2, ← ezh1]; exact (((hfr.push ⟨by simp, by simp, rfl⟩).push ⟨by simp, by simp, rfl⟩).push ⟨by simp, by simp, rfl⟩).push ⟨by simp, by simp, rfl⟩)
set_option maxRecDepth 100000 in
set_option maxHeartbeats 4000000 in
theorem ev_X0_init {k : WC} {d : Nat} {h : AH} {l i ff nu : Int} {X : DrS} (hd : 4 ≤ d) (hX : XOK X) (zQ : LrO h i ff nu X) (zA : LrA h X) (zL : h (30, l) = some (oO 0 [vI 0, vI 0, vI 0, vI 0, vN, vN, vN, vN, vN, vN, vN, vN, vN, vN, vI 0, vI 0, vN, vI 0, vI 0, vI 0])) (q : ∀ j : Nat, 31 ≤ j → j ≤ 40 → h (j, l) = none) : Ev k d mdX0_init h [vR (30, l), vR (3, 0)] 10 730 (pn fun h' => ∃ f : Int → Int, (∀ j : Int, 0 ≤ j → j < xEa X → PaQ (xCn X) f j) ∧ LOK (dOf X f) ∧ LandAt h' l (dOf X f) ((20, -1, none, 0, 0, 0, fun _ => 0) : LaY) (fun _ => none) ∧ Fr (fun z => 30 ≤ z.1 ∧ z.1 ≤ 40 ∧ z.2 = l) h h') := by
  obtain ⟨x1, x2, x3, x4, x5, x6, x7, x8, x9, x10, x11, x12, x13, x14, x15, x16⟩ := id hX
  refine Ev.mk (by decide +kernel) [_, _, _, _, _] rfl (Nat.le_of_ble_eq_true rfl) (fun w hc he => ?_)
  refine j_aload_n hc dX0_init_0 rfl ?_
  refine j_objInit hc dX0_init_1 voX0_3 vo_inst vo_code rfl (by omega) (Nat.le_of_ble_eq_true rfl) ?_
  refine j_aload_n hc dX0_init_4 rfl ?_
  refine j_aload_n hc dX0_init_5 rfl ?_
  refine j_get hc dX0_init_6 fX0_9 zQ rfl ?_
  refine j_putF (fs' := [_, _, _, _, _, _, _, _, _, _, _, _, _, _, _, _, _, _, _, _]) hc dX0_init_9 pX0_15 rfl zL rfl rfl ?_
  generalize ezh1 : up _ _ _ = zh1
  have zL_zh1 := (congrFun ezh1 _).symm.trans (up_same _ _ _)
  have zQ_zh1 := (congrFun ezh1 _).symm.trans ((up_ne (by simp)).trans zQ)
  have zQ4_zh1 := (congrFun ezh1 _).symm.trans ((up_ne (by simp)).trans zA.1)
  have zQ5_zh1 := (congrFun ezh1 _).symm.trans ((up_ne (by simp)).trans zA.2.1)
  have zQ6_zh1 := (congrFun ezh1 _).symm.trans ((up_ne (by simp)).trans zA.2.2.1)
  have zQ7_zh1 := (congrFun ezh1 _).symm.trans ((up_ne (by simp)).trans zA.2.2.2.1)
  have zQ8_zh1 := (congrFun ezh1 _).symm.trans ((up_ne (by simp)).trans zA.2.2.2.2)
  have zFL31_zh1 := (congrFun ezh1 _).symm.trans ((up_ne (by simp)).trans (q 31 (by omega) (by omega)))
  have zFL32_zh1 := (congrFun ezh1 _).symm.trans ((up_ne (by simp)).trans (q 32 (by omega) (by omega)))
  have zFL33_zh1 := (congrFun ezh1 _).symm.trans ((up_ne (by simp)).trans (q 33 (by omega) (by omega)))
  have zFL34_zh1 := (congrFun ezh1 _).symm.trans ((up_ne (by simp)).trans (q 34 (by omega) (by omega)))
  have zFL35_zh1 := (congrFun ezh1 _).symm.trans ((up_ne (by simp)).trans (q 35 (by omega) (by omega)))
  have zFL36_zh1 := (congrFun ezh1 _).symm.trans ((up_ne (by simp)).trans (q 36 (by omega) (by omega)))
  have zFL37_zh1 := (congrFun ezh1 _).symm.trans ((up_ne (by simp)).trans (q 37 (by omega) (by omega)))
  have zFL38_zh1 := (congrFun ezh1 _).symm.trans ((up_ne (by simp)).trans (q 38 (by omega) (by omega)))
  have zFL39_zh1 := (congrFun ezh1 _).symm.trans ((up_ne (by simp)).trans (q 39 (by omega) (by omega)))
  have zFL40_zh1 := (congrFun ezh1 _).symm.trans ((up_ne (by simp)).trans (q 40 (by omega) (by omega)))
  refine j_aload_n hc dX0_init_12 rfl ?_
  refine j_aload_n hc dX0_init_13 rfl ?_
  refine j_get hc dX0_init_14 fX0_18 zQ_zh1 rfl ?_
  refine j_putF (fs' := [_, _, _, _, _, _, _, _, _, _, _, _, _, _, _, _, _, _, _, _]) hc dX0_init_17 pX0_21 rfl zL_zh1 rfl rfl ?_
  generalize ezh2 : up _ _ _ = zh2
  have zL_zh2 := (congrFun ezh2 _).symm.trans (up_same _ _ _)
  have zQ_zh2 := (congrFun ezh2 _).symm.trans ((up_ne (by simp)).trans zQ_zh1)
  have zQ4_zh2 := (congrFun ezh2 _).symm.trans ((up_ne (by simp)).trans zQ4_zh1)
  have zQ5_zh2 := (congrFun ezh2 _).symm.trans ((up_ne (by simp)).trans zQ5_zh1)
  have zQ6_zh2 := (congrFun ezh2 _).symm.trans ((up_ne (by simp)).trans zQ6_zh1)
  have zQ7_zh2 := (congrFun ezh2 _).symm.trans ((up_ne (by simp)).trans zQ7_zh1)
  have zQ8_zh2 := (congrFun ezh2 _).symm.trans ((up_ne (by simp)).trans zQ8_zh1)
  have zFL31_zh2 := (congrFun ezh2 _).symm.trans ((up_ne (by simp)).trans zFL31_zh1)
  have zFL32_zh2 := (congrFun ezh2 _).symm.trans ((up_ne (by simp)).trans zFL32_zh1)
  have zFL33_zh2 := (congrFun ezh2 _).symm.trans ((up_ne (by simp)).trans zFL33_zh1)
  have zFL34_zh2 := (congrFun ezh2 _).symm.trans ((up_ne (by simp)).trans zFL34_zh1)
  have zFL35_zh2 := (congrFun ezh2 _).symm.trans ((up_ne (by simp)).trans zFL35_zh1)
  have zFL36_zh2 := (congrFun ezh2 _).symm.trans ((up_ne (by simp)).trans zFL36_zh1)
  have zFL37_zh2 := (congrFun ezh2 _).symm.trans ((up_ne (by simp)).trans zFL37_zh1)
  have zFL38_zh2 := (congrFun ezh2 _).symm.trans ((up_ne (by simp)).trans zFL38_zh1)
  have zFL39_zh2 := (congrFun ezh2 _).symm.trans ((up_ne (by simp)).trans zFL39_zh1)
  have zFL40_zh2 := (congrFun ezh2 _).symm.trans ((up_ne (by simp)).trans zFL40_zh1)
  refine j_aload_n hc dX0_init_20 rfl ?_
  refine j_aload_n hc dX0_init_21 rfl ?_
  refine j_get hc dX0_init_22 fX0_22 zQ_zh2 rfl ?_
  refine j_putF (fs' := [_, _, _, _, _, _, _, _, _, _, _, _, _, _, _, _, _, _, _, _]) hc dX0_init_25 pX0_25 rfl zL_zh2 rfl rfl ?_
  generalize ezh3 : up _ _ _ = zh3
  have zL_zh3 := (congrFun ezh3 _).symm.trans (up_same _ _ _)
  have zQ_zh3 := (congrFun ezh3 _).symm.trans ((up_ne (by simp)).trans zQ_zh2)
  have zQ4_zh3 := (congrFun ezh3 _).symm.trans ((up_ne (by simp)).trans zQ4_zh2)
  have zQ5_zh3 := (congrFun ezh3 _).symm.trans ((up_ne (by simp)).trans zQ5_zh2)
  have zQ6_zh3 := (congrFun ezh3 _).symm.trans ((up_ne (by simp)).trans zQ6_zh2)
  have zQ7_zh3 := (congrFun ezh3 _).symm.trans ((up_ne (by simp)).trans zQ7_zh2)
  have zQ8_zh3 := (congrFun ezh3 _).symm.trans ((up_ne (by simp)).trans zQ8_zh2)
  have zFL31_zh3 := (congrFun ezh3 _).symm.trans ((up_ne (by simp)).trans zFL31_zh2)
  have zFL32_zh3 := (congrFun ezh3 _).symm.trans ((up_ne (by simp)).trans zFL32_zh2)
  have zFL33_zh3 := (congrFun ezh3 _).symm.trans ((up_ne (by simp)).trans zFL33_zh2)
  have zFL34_zh3 := (congrFun ezh3 _).symm.trans ((up_ne (by simp)).trans zFL34_zh2)
  have zFL35_zh3 := (congrFun ezh3 _).symm.trans ((up_ne (by simp)).trans zFL35_zh2)
  have zFL36_zh3 := (congrFun ezh3 _).symm.trans ((up_ne (by simp)).trans zFL36_zh2)
  have zFL37_zh3 := (congrFun ezh3 _).symm.trans ((up_ne (by simp)).trans zFL37_zh2)
  have zFL38_zh3 := (congrFun ezh3 _).symm.trans ((up_ne (by simp)).trans zFL38_zh2)
  have zFL39_zh3 := (congrFun ezh3 _).symm.trans ((up_ne (by simp)).trans zFL39_zh2)
  have zFL40_zh3 := (congrFun ezh3 _).symm.trans ((up_ne (by simp)).trans zFL40_zh2)
  refine j_aload_n hc dX0_init_28 rfl ?_
  refine j_aload_n hc dX0_init_29 rfl ?_
  refine j_get hc dX0_init_30 fX0_26 zQ_zh3 rfl ?_
  refine j_putF (fs' := [_, _, _, _, _, _, _, _, _, _, _, _, _, _, _, _, _, _, _, _]) hc dX0_init_33 pX0_29 rfl zL_zh3 rfl rfl ?_
  generalize ezh4 : up _ _ _ = zh4
  have zL_zh4 := (congrFun ezh4 _).symm.trans (up_same _ _ _)
  have zQ_zh4 := (congrFun ezh4 _).symm.trans ((up_ne (by simp)).trans zQ_zh3)
  have zQ4_zh4 := (congrFun ezh4 _).symm.trans ((up_ne (by simp)).trans zQ4_zh3)
  have zQ5_zh4 := (congrFun ezh4 _).symm.trans ((up_ne (by simp)).trans zQ5_zh3)
  have zQ6_zh4 := (congrFun ezh4 _).symm.trans ((up_ne (by simp)).trans zQ6_zh3)
  have zQ7_zh4 := (congrFun ezh4 _).symm.trans ((up_ne (by simp)).trans zQ7_zh3)
  have zQ8_zh4 := (congrFun ezh4 _).symm.trans ((up_ne (by simp)).trans zQ8_zh3)
  have zFL31_zh4 := (congrFun ezh4 _).symm.trans ((up_ne (by simp)).trans zFL31_zh3)
  have zFL32_zh4 := (congrFun ezh4 _).symm.trans ((up_ne (by simp)).trans zFL32_zh3)
  have zFL33_zh4 := (congrFun ezh4 _).symm.trans ((up_ne (by simp)).trans zFL33_zh3)
  have zFL34_zh4 := (congrFun ezh4 _).symm.trans ((up_ne (by simp)).trans zFL34_zh3)
  have zFL35_zh4 := (congrFun ezh4 _).symm.trans ((up_ne (by simp)).trans zFL35_zh3)
  have zFL36_zh4 := (congrFun ezh4 _).symm.trans ((up_ne (by simp)).trans zFL36_zh3)
  have zFL37_zh4 := (congrFun ezh4 _).symm.trans ((up_ne (by simp)).trans zFL37_zh3)
  have zFL38_zh4 := (congrFun ezh4 _).symm.trans ((up_ne (by simp)).trans zFL38_zh3)
  have zFL39_zh4 := (congrFun ezh4 _).symm.trans ((up_ne (by simp)).trans zFL39_zh3)
  have zFL40_zh4 := (congrFun ezh4 _).symm.trans ((up_ne (by simp)).trans zFL40_zh3)
  refine j_aload_n hc dX0_init_36 rfl ?_
  refine j_aload_n hc dX0_init_37 rfl ?_
  refine j_callS (d' := d - 1) hc dX0_init_38 sX0_30 (ev_X0_paysOf (by omega) hX zQ_zh4 zQ4_zh4 zFL31_zh4) rfl (by omega) (by omega) (by omega) rfl rfl (Nat.le_of_ble_eq_true rfl) (retE fun zv38 zq38 zp38 => ?_)
  obtain ⟨zv38_, ⟨pf, z31, zpf⟩, zF38⟩ := zp38
  subst zv38_
  have zD := dOf_ok hX zpf
  have zL_q38 := (zF38 _ (by first | (simp; done) | (simp; omega))).trans zL_zh4
  have zQ_q38 := (zF38 _ (by first | (simp; done) | (simp; omega))).trans zQ_zh4
  have zQ4_q38 := (zF38 _ (by first | (simp; done) | (simp; omega))).trans zQ4_zh4
  have zQ5_q38 := (zF38 _ (by first | (simp; done) | (simp; omega))).trans zQ5_zh4
  have zQ6_q38 := (zF38 _ (by first | (simp; done) | (simp; omega))).trans zQ6_zh4
  have zQ7_q38 := (zF38 _ (by first | (simp; done) | (simp; omega))).trans zQ7_zh4
  have zQ8_q38 := (zF38 _ (by first | (simp; done) | (simp; omega))).trans zQ8_zh4
  have zFL32_q38 := (zF38 _ (by first | (simp; done) | (simp; omega))).trans zFL32_zh4
  have zFL33_q38 := (zF38 _ (by first | (simp; done) | (simp; omega))).trans zFL33_zh4
  have zFL34_q38 := (zF38 _ (by first | (simp; done) | (simp; omega))).trans zFL34_zh4
  have zFL35_q38 := (zF38 _ (by first | (simp; done) | (simp; omega))).trans zFL35_zh4
  have zFL36_q38 := (zF38 _ (by first | (simp; done) | (simp; omega))).trans zFL36_zh4
  have zFL37_q38 := (zF38 _ (by first | (simp; done) | (simp; omega))).trans zFL37_zh4
  have zFL38_q38 := (zF38 _ (by first | (simp; done) | (simp; omega))).trans zFL38_zh4
  have zFL39_q38 := (zF38 _ (by first | (simp; done) | (simp; omega))).trans zFL39_zh4
  have zFL40_q38 := (zF38 _ (by first | (simp; done) | (simp; omega))).trans zFL40_zh4
  refine j_putF (fs' := [_, _, _, _, _, _, _, _, _, _, _, _, _, _, _, _, _, _, _, _]) hc dX0_init_41 pX0_34 rfl zL_q38 rfl rfl ?_
  generalize ezh5 : up _ _ _ = zh5
  have zL_zh5 := (congrFun ezh5 _).symm.trans (up_same _ _ _)
  have zQ_zh5 := (congrFun ezh5 _).symm.trans ((up_ne (by simp)).trans zQ_q38)
  have zQ4_zh5 := (congrFun ezh5 _).symm.trans ((up_ne (by simp)).trans zQ4_q38)
  have zQ5_zh5 := (congrFun ezh5 _).symm.trans ((up_ne (by simp)).trans zQ5_q38)
  have zQ6_zh5 := (congrFun ezh5 _).symm.trans ((up_ne (by simp)).trans zQ6_q38)
  have zQ7_zh5 := (congrFun ezh5 _).symm.trans ((up_ne (by simp)).trans zQ7_q38)
  have zQ8_zh5 := (congrFun ezh5 _).symm.trans ((up_ne (by simp)).trans zQ8_q38)
  have zFL32_zh5 := (congrFun ezh5 _).symm.trans ((up_ne (by simp)).trans zFL32_q38)
  have zFL33_zh5 := (congrFun ezh5 _).symm.trans ((up_ne (by simp)).trans zFL33_q38)
  have zFL34_zh5 := (congrFun ezh5 _).symm.trans ((up_ne (by simp)).trans zFL34_q38)
  have zFL35_zh5 := (congrFun ezh5 _).symm.trans ((up_ne (by simp)).trans zFL35_q38)
  have zFL36_zh5 := (congrFun ezh5 _).symm.trans ((up_ne (by simp)).trans zFL36_q38)
  have zFL37_zh5 := (congrFun ezh5 _).symm.trans ((up_ne (by simp)).trans zFL37_q38)
  have zFL38_zh5 := (congrFun ezh5 _).symm.trans ((up_ne (by simp)).trans zFL38_q38)
  have zFL39_zh5 := (congrFun ezh5 _).symm.trans ((up_ne (by simp)).trans zFL39_q38)
  have zFL40_zh5 := (congrFun ezh5 _).symm.trans ((up_ne (by simp)).trans zFL40_q38)
  have zL31_zh5 := (congrFun ezh5 _).symm.trans ((up_ne (by simp)).trans z31)
  refine j_aload_n hc dX0_init_44 rfl ?_
  refine j_aload_n hc dX0_init_45 rfl ?_
  refine j_get hc dX0_init_46 fX0_34 zL_zh5 rfl ?_
  refine j_callS (d' := d - 1) hc dX0_init_49 sX0_38 (ev_X0_goodsOfFirst (D := dOf X pf) (by omega) (by show (xEa X).toNat ≤ 180; omega) zL31_zh5 zFL37_zh5) rfl (by omega) (by omega) (by omega) rfl rfl (Nat.le_of_ble_eq_true rfl) (retE fun zv49 zq49 zp49 => ?_)
  obtain ⟨zv49_, ⟨gf, z37, zgf⟩, zF49⟩ := zp49
  subst zv49_
  have zL_q49 := (zF49 _ (by first | (simp; done) | (simp; omega))).trans zL_zh5
  have zQ_q49 := (zF49 _ (by first | (simp; done) | (simp; omega))).trans zQ_zh5
  have zQ4_q49 := (zF49 _ (by first | (simp; done) | (simp; omega))).trans zQ4_zh5
  have zQ5_q49 := (zF49 _ (by first | (simp; done) | (simp; omega))).trans zQ5_zh5
  have zQ6_q49 := (zF49 _ (by first | (simp; done) | (simp; omega))).trans zQ6_zh5
  have zQ7_q49 := (zF49 _ (by first | (simp; done) | (simp; omega))).trans zQ7_zh5
  have zQ8_q49 := (zF49 _ (by first | (simp; done) | (simp; omega))).trans zQ8_zh5
  have zFL32_q49 := (zF49 _ (by first | (simp; done) | (simp; omega))).trans zFL32_zh5
  have zFL33_q49 := (zF49 _ (by first | (simp; done) | (simp; omega))).trans zFL33_zh5
  have zFL34_q49 := (zF49 _ (by first | (simp; done) | (simp; omega))).trans zFL34_zh5
  have zFL35_q49 := (zF49 _ (by first | (simp; done) | (simp; omega))).trans zFL35_zh5
  have zFL36_q49 := (zF49 _ (by first | (simp; done) | (simp; omega))).trans zFL36_zh5
  have zFL38_q49 := (zF49 _ (by first | (simp; done) | (simp; omega))).trans zFL38_zh5
  have zFL39_q49 := (zF49 _ (by first | (simp; done) | (simp; omega))).trans zFL39_zh5
  have zFL40_q49 := (zF49 _ (by first | (simp; done) | (simp; omega))).trans zFL40_zh5
  have zL31_q49 := (zF49 _ (by first | (simp; done) | (simp; omega))).trans zL31_zh5
  refine j_putF (fs' := [_, _, _, _, _, _, _, _, _, _, _, _, _, _, _, _, _, _, _, _]) hc dX0_init_52 pX0_42 rfl zL_q49 rfl rfl ?_
  generalize ezh6 : up _ _ _ = zh6
  have zL_zh6 := (congrFun ezh6 _).symm.trans (up_same _ _ _)
  have zQ_zh6 := (congrFun ezh6 _).symm.trans ((up_ne (by simp)).trans zQ_q49)
  have zQ4_zh6 := (congrFun ezh6 _).symm.trans ((up_ne (by simp)).trans zQ4_q49)
  have zQ5_zh6 := (congrFun ezh6 _).symm.trans ((up_ne (by simp)).trans zQ5_q49)
  have zQ6_zh6 := (congrFun ezh6 _).symm.trans ((up_ne (by simp)).trans zQ6_q49)
  have zQ7_zh6 := (congrFun ezh6 _).symm.trans ((up_ne (by simp)).trans zQ7_q49)
  have zQ8_zh6 := (congrFun ezh6 _).symm.trans ((up_ne (by simp)).trans zQ8_q49)
  have zFL32_zh6 := (congrFun ezh6 _).symm.trans ((up_ne (by simp)).trans zFL32_q49)
  have zFL33_zh6 := (congrFun ezh6 _).symm.trans ((up_ne (by simp)).trans zFL33_q49)
  have zFL34_zh6 := (congrFun ezh6 _).symm.trans ((up_ne (by simp)).trans zFL34_q49)
  have zFL35_zh6 := (congrFun ezh6 _).symm.trans ((up_ne (by simp)).trans zFL35_q49)
  have zFL36_zh6 := (congrFun ezh6 _).symm.trans ((up_ne (by simp)).trans zFL36_q49)
  have zFL38_zh6 := (congrFun ezh6 _).symm.trans ((up_ne (by simp)).trans zFL38_q49)
  have zFL39_zh6 := (congrFun ezh6 _).symm.trans ((up_ne (by simp)).trans zFL39_q49)
  have zFL40_zh6 := (congrFun ezh6 _).symm.trans ((up_ne (by simp)).trans zFL40_q49)
  have zL31_zh6 := (congrFun ezh6 _).symm.trans ((up_ne (by simp)).trans zL31_q49)
  have zL37_zh6 := (congrFun ezh6 _).symm.trans ((up_ne (by simp)).trans z37)
  refine j_aload_n hc dX0_init_55 rfl ?_
  refine j_bipush hc dX0_init_56 (by decide) ?_
  refine j_newI (nm := (38, l)) hc dX0_init_58 ka_int zFL38_zh6 (by omega) (by omega) (by omega) (by omega) ?_
  generalize ezh7 : up _ _ _ = zh7
  have zL_zh7 := (congrFun ezh7 _).symm.trans ((up_ne (by simp)).trans zL_zh6)
  have zQ_zh7 := (congrFun ezh7 _).symm.trans ((up_ne (by simp)).trans zQ_zh6)
  have zQ4_zh7 := (congrFun ezh7 _).symm.trans ((up_ne (by simp)).trans zQ4_zh6)
  have zQ5_zh7 := (congrFun ezh7 _).symm.trans ((up_ne (by simp)).trans zQ5_zh6)
  have zQ6_zh7 := (congrFun ezh7 _).symm.trans ((up_ne (by simp)).trans zQ6_zh6)
  have zQ7_zh7 := (congrFun ezh7 _).symm.trans ((up_ne (by simp)).trans zQ7_zh6)
  have zQ8_zh7 := (congrFun ezh7 _).symm.trans ((up_ne (by simp)).trans zQ8_zh6)
  have zFL32_zh7 := (congrFun ezh7 _).symm.trans ((up_ne (by simp)).trans zFL32_zh6)
  have zFL33_zh7 := (congrFun ezh7 _).symm.trans ((up_ne (by simp)).trans zFL33_zh6)
  have zFL34_zh7 := (congrFun ezh7 _).symm.trans ((up_ne (by simp)).trans zFL34_zh6)
  have zFL35_zh7 := (congrFun ezh7 _).symm.trans ((up_ne (by simp)).trans zFL35_zh6)
  have zFL36_zh7 := (congrFun ezh7 _).symm.trans ((up_ne (by simp)).trans zFL36_zh6)
  have zFL39_zh7 := (congrFun ezh7 _).symm.trans ((up_ne (by simp)).trans zFL39_zh6)
  have zFL40_zh7 := (congrFun ezh7 _).symm.trans ((up_ne (by simp)).trans zFL40_zh6)
  have zL31_zh7 := (congrFun ezh7 _).symm.trans ((up_ne (by simp)).trans zL31_zh6)
  have zL37_zh7 := (congrFun ezh7 _).symm.trans ((up_ne (by simp)).trans zL37_zh6)
  have zL38_zh7 := (congrFun ezh7 _).symm.trans (up_same _ _ _)
  refine j_putF (fs' := [_, _, _, _, _, _, _, _, _, _, _, _, _, _, _, _, _, _, _, _]) hc dX0_init_60 pX0_45 rfl zL_zh7 rfl rfl ?_
  generalize ezh8 : up _ _ _ = zh8
  have zL_zh8 := (congrFun ezh8 _).symm.trans (up_same _ _ _)
  have zQ_zh8 := (congrFun ezh8 _).symm.trans ((up_ne (by simp)).trans zQ_zh7)
  have zQ4_zh8 := (congrFun ezh8 _).symm.trans ((up_ne (by simp)).trans zQ4_zh7)
  have zQ5_zh8 := (congrFun ezh8 _).symm.trans ((up_ne (by simp)).trans zQ5_zh7)
  have zQ6_zh8 := (congrFun ezh8 _).symm.trans ((up_ne (by simp)).trans zQ6_zh7)
  have zQ7_zh8 := (congrFun ezh8 _).symm.trans ((up_ne (by simp)).trans zQ7_zh7)
  have zQ8_zh8 := (congrFun ezh8 _).symm.trans ((up_ne (by simp)).trans zQ8_zh7)
  have zFL32_zh8 := (congrFun ezh8 _).symm.trans ((up_ne (by simp)).trans zFL32_zh7)
  have zFL33_zh8 := (congrFun ezh8 _).symm.trans ((up_ne (by simp)).trans zFL33_zh7)
  have zFL34_zh8 := (congrFun ezh8 _).symm.trans ((up_ne (by simp)).trans zFL34_zh7)
  have zFL35_zh8 := (congrFun ezh8 _).symm.trans ((up_ne (by simp)).trans zFL35_zh7)
  have zFL36_zh8 := (congrFun ezh8 _).symm.trans ((up_ne (by simp)).trans zFL36_zh7)
  have zFL39_zh8 := (congrFun ezh8 _).symm.trans ((up_ne (by simp)).trans zFL39_zh7)
  have zFL40_zh8 := (congrFun ezh8 _).symm.trans ((up_ne (by simp)).trans zFL40_zh7)
  have zL31_zh8 := (congrFun ezh8 _).symm.trans ((up_ne (by simp)).trans zL31_zh7)
  have zL37_zh8 := (congrFun ezh8 _).symm.trans ((up_ne (by simp)).trans zL37_zh7)
  have zL38_zh8 := (congrFun ezh8 _).symm.trans ((up_ne (by simp)).trans zL38_zh7)
  refine j_aload_n hc dX0_init_63 rfl ?_
  refine j_bipush hc dX0_init_64 (by decide) ?_
  refine j_newI (nm := (39, l)) hc dX0_init_66 ka_int zFL39_zh8 (by omega) (by omega) (by omega) (by omega) ?_
  generalize ezh9 : up _ _ _ = zh9
  have zL_zh9 := (congrFun ezh9 _).symm.trans ((up_ne (by simp)).trans zL_zh8)
  have zQ_zh9 := (congrFun ezh9 _).symm.trans ((up_ne (by simp)).trans zQ_zh8)
  have zQ4_zh9 := (congrFun ezh9 _).symm.trans ((up_ne (by simp)).trans zQ4_zh8)
  have zQ5_zh9 := (congrFun ezh9 _).symm.trans ((up_ne (by simp)).trans zQ5_zh8)
  have zQ6_zh9 := (congrFun ezh9 _).symm.trans ((up_ne (by simp)).trans zQ6_zh8)
  have zQ7_zh9 := (congrFun ezh9 _).symm.trans ((up_ne (by simp)).trans zQ7_zh8)
  have zQ8_zh9 := (congrFun ezh9 _).symm.trans ((up_ne (by simp)).trans zQ8_zh8)
  have zFL32_zh9 := (congrFun ezh9 _).symm.trans ((up_ne (by simp)).trans zFL32_zh8)
  have zFL33_zh9 := (congrFun ezh9 _).symm.trans ((up_ne (by simp)).trans zFL33_zh8)
  have zFL34_zh9 := (congrFun ezh9 _).symm.trans ((up_ne (by simp)).trans zFL34_zh8)
  have zFL35_zh9 := (congrFun ezh9 _).symm.trans ((up_ne (by simp)).trans zFL35_zh8)
  have zFL36_zh9 := (congrFun ezh9 _).symm.trans ((up_ne (by simp)).trans zFL36_zh8)
  have zFL40_zh9 := (congrFun ezh9 _).symm.trans ((up_ne (by simp)).trans zFL40_zh8)
  have zL31_zh9 := (congrFun ezh9 _).symm.trans ((up_ne (by simp)).trans zL31_zh8)
  have zL37_zh9 := (congrFun ezh9 _).symm.trans ((up_ne (by simp)).trans zL37_zh8)
  have zL38_zh9 := (congrFun ezh9 _).symm.trans ((up_ne (by simp)).trans zL38_zh8)
  have zL39_zh9 := (congrFun ezh9 _).symm.trans (up_same _ _ _)
  refine j_putF (fs' := [_, _, _, _, _, _, _, _, _, _, _, _, _, _, _, _, _, _, _, _]) hc dX0_init_68 pX0_48 rfl zL_zh9 rfl rfl ?_
  generalize ezh10 : up _ _ _ = zh10
  have zL_zh10 := (congrFun ezh10 _).symm.trans (up_same _ _ _)
  have zQ_zh10 := (congrFun ezh10 _).symm.trans ((up_ne (by simp)).trans zQ_zh9)
  have zQ4_zh10 := (congrFun ezh10 _).symm.trans ((up_ne (by simp)).trans zQ4_zh9)
  have zQ5_zh10 := (congrFun ezh10 _).symm.trans ((up_ne (by simp)).trans zQ5_zh9)
  have zQ6_zh10 := (congrFun ezh10 _).symm.trans ((up_ne (by simp)).trans zQ6_zh9)
  have zQ7_zh10 := (congrFun ezh10 _).symm.trans ((up_ne (by simp)).trans zQ7_zh9)
  have zQ8_zh10 := (congrFun ezh10 _).symm.trans ((up_ne (by simp)).trans zQ8_zh9)
  have zFL32_zh10 := (congrFun ezh10 _).symm.trans ((up_ne (by simp)).trans zFL32_zh9)
  have zFL33_zh10 := (congrFun ezh10 _).symm.trans ((up_ne (by simp)).trans zFL33_zh9)
  have zFL34_zh10 := (congrFun ezh10 _).symm.trans ((up_ne (by simp)).trans zFL34_zh9)
  have zFL35_zh10 := (congrFun ezh10 _).symm.trans ((up_ne (by simp)).trans zFL35_zh9)
  have zFL36_zh10 := (congrFun ezh10 _).symm.trans ((up_ne (by simp)).trans zFL36_zh9)
  have zFL40_zh10 := (congrFun ezh10 _).symm.trans ((up_ne (by simp)).trans zFL40_zh9)
  have zL31_zh10 := (congrFun ezh10 _).symm.trans ((up_ne (by simp)).trans zL31_zh9)
  have zL37_zh10 := (congrFun ezh10 _).symm.trans ((up_ne (by simp)).trans zL37_zh9)
  have zL38_zh10 := (congrFun ezh10 _).symm.trans ((up_ne (by simp)).trans zL38_zh9)
  have zL39_zh10 := (congrFun ezh10 _).symm.trans ((up_ne (by simp)).trans zL39_zh9)
  refine j_iconst hc dX0_init_71 ?_
  refine j_istore_n (L' := [_, _, _, _, _]) hc dX0_init_72 (Nat.le_of_ble_eq_true rfl) rfl ?_
  refine lp_X0_init1 (l := l) (X := X) (D := dOf X pf) hd zD hc (fun hA f8 f9 z2 z3 z4 zA30 zA31 zA38 zA39 zAF zA8 zA9 => ?_) _ 0 _ (fun _ => 0) (fun _ => 0) _ _ rfl (by omega) zL_zh10 zL31_zh10 zL38_zh10 zL39_zh10 (Fr.rf _ _) (fun j z0 z1 => by rw [show j = 0 by omega]; rfl) (fun j z0 z1 => by rw [show j = 0 by omega]; rfl)
  have zQ_hA := (zAF _ (by first | (simp; done) | (simp; omega))).trans zQ_zh10
  have zQ4_hA := (zAF _ (by first | (simp; done) | (simp; omega))).trans zQ4_zh10
  have zQ5_hA := (zAF _ (by first | (simp; done) | (simp; omega))).trans zQ5_zh10
  have zQ6_hA := (zAF _ (by first | (simp; done) | (simp; omega))).trans zQ6_zh10
  have zQ7_hA := (zAF _ (by first | (simp; done) | (simp; omega))).trans zQ7_zh10
  have zQ8_hA := (zAF _ (by first | (simp; done) | (simp; omega))).trans zQ8_zh10
  have zFL32_hA := (zAF _ (by first | (simp; done) | (simp; omega))).trans zFL32_zh10
  have zFL33_hA := (zAF _ (by first | (simp; done) | (simp; omega))).trans zFL33_zh10
  have zFL34_hA := (zAF _ (by first | (simp; done) | (simp; omega))).trans zFL34_zh10
  have zFL35_hA := (zAF _ (by first | (simp; done) | (simp; omega))).trans zFL35_zh10
  have zFL36_hA := (zAF _ (by first | (simp; done) | (simp; omega))).trans zFL36_zh10
  have zFL40_hA := (zAF _ (by first | (simp; done) | (simp; omega))).trans zFL40_zh10
  have zL37_hA := (zAF _ (by first | (simp; done) | (simp; omega))).trans zL37_zh10
  refine j_aload_n hc dX0_init_174 rfl ?_
  refine j_aload_n hc dX0_init_175 rfl ?_
  refine j_get hc dX0_init_176 fX0_51 zQ_hA rfl ?_
  refine j_clone (nm := (32, l)) hc dX0_init_179 mlX0_54 zQ5_hA zFL32_hA (by omega) rfl (Nat.le_of_ble_eq_true rfl) (by omega) (by omega) ?_
  generalize ezh11 : up _ _ _ = zh11
  have zQ_zh11 := (congrFun ezh11 _).symm.trans ((up_ne (by simp)).trans zQ_hA)
  have zQ4_zh11 := (congrFun ezh11 _).symm.trans ((up_ne (by simp)).trans zQ4_hA)
  have zQ5_zh11 := (congrFun ezh11 _).symm.trans ((up_ne (by simp)).trans zQ5_hA)
  have zQ6_zh11 := (congrFun ezh11 _).symm.trans ((up_ne (by simp)).trans zQ6_hA)
  have zQ7_zh11 := (congrFun ezh11 _).symm.trans ((up_ne (by simp)).trans zQ7_hA)
  have zQ8_zh11 := (congrFun ezh11 _).symm.trans ((up_ne (by simp)).trans zQ8_hA)
  have zFL33_zh11 := (congrFun ezh11 _).symm.trans ((up_ne (by simp)).trans zFL33_hA)
  have zFL34_zh11 := (congrFun ezh11 _).symm.trans ((up_ne (by simp)).trans zFL34_hA)
  have zFL35_zh11 := (congrFun ezh11 _).symm.trans ((up_ne (by simp)).trans zFL35_hA)
  have zFL36_zh11 := (congrFun ezh11 _).symm.trans ((up_ne (by simp)).trans zFL36_hA)
  have zFL40_zh11 := (congrFun ezh11 _).symm.trans ((up_ne (by simp)).trans zFL40_hA)
  have zL37_zh11 := (congrFun ezh11 _).symm.trans ((up_ne (by simp)).trans zL37_hA)
  have zL_zh11 := (congrFun ezh11 _).symm.trans ((up_ne (by simp)).trans zA30)
  have zL31_zh11 := (congrFun ezh11 _).symm.trans ((up_ne (by simp)).trans zA31)
  have zL38_zh11 := (congrFun ezh11 _).symm.trans ((up_ne (by simp)).trans zA38)
  have zL39_zh11 := (congrFun ezh11 _).symm.trans ((up_ne (by simp)).trans zA39)
  have zL32_zh11 := (congrFun ezh11 _).symm.trans (up_same _ _ _)
  refine j_castI hc dX0_init_182 clX0_55 zL32_zh11 ?_
  refine j_putF (fs' := [_, _, _, _, _, _, _, _, _, _, _, _, _, _, _, _, _, _, _, _]) hc dX0_init_185 pX0_59 rfl zL_zh11 rfl rfl ?_
  generalize ezh12 : up _ _ _ = zh12
  have zQ_zh12 := (congrFun ezh12 _).symm.trans ((up_ne (by simp)).trans zQ_zh11)
  have zQ4_zh12 := (congrFun ezh12 _).symm.trans ((up_ne (by simp)).trans zQ4_zh11)
  have zQ5_zh12 := (congrFun ezh12 _).symm.trans ((up_ne (by simp)).trans zQ5_zh11)
  have zQ6_zh12 := (congrFun ezh12 _).symm.trans ((up_ne (by simp)).trans zQ6_zh11)
  have zQ7_zh12 := (congrFun ezh12 _).symm.trans ((up_ne (by simp)).trans zQ7_zh11)
  have zQ8_zh12 := (congrFun ezh12 _).symm.trans ((up_ne (by simp)).trans zQ8_zh11)
  have zFL33_zh12 := (congrFun ezh12 _).symm.trans ((up_ne (by simp)).trans zFL33_zh11)
  have zFL34_zh12 := (congrFun ezh12 _).symm.trans ((up_ne (by simp)).trans zFL34_zh11)
  have zFL35_zh12 := (congrFun ezh12 _).symm.trans ((up_ne (by simp)).trans zFL35_zh11)
  have zFL36_zh12 := (congrFun ezh12 _).symm.trans ((up_ne (by simp)).trans zFL36_zh11)
  have zFL40_zh12 := (congrFun ezh12 _).symm.trans ((up_ne (by simp)).trans zFL40_zh11)
  have zL37_zh12 := (congrFun ezh12 _).symm.trans ((up_ne (by simp)).trans zL37_zh11)
  have zL_zh12 := (congrFun ezh12 _).symm.trans (up_same _ _ _)
  have zL31_zh12 := (congrFun ezh12 _).symm.trans ((up_ne (by simp)).trans zL31_zh11)
  have zL38_zh12 := (congrFun ezh12 _).symm.trans ((up_ne (by simp)).trans zL38_zh11)
  have zL39_zh12 := (congrFun ezh12 _).symm.trans ((up_ne (by simp)).trans zL39_zh11)
  have zL32_zh12 := (congrFun ezh12 _).symm.trans ((up_ne (by simp)).trans zL32_zh11)
  refine j_aload_n hc dX0_init_188 rfl ?_
  refine j_aload_n hc dX0_init_189 rfl ?_
  refine j_get hc dX0_init_190 fX0_60 zQ_zh12 rfl ?_
  refine j_clone (nm := (33, l)) hc dX0_init_193 mlX0_54 zQ7_zh12 zFL33_zh12 (by omega) rfl (Nat.le_of_ble_eq_true rfl) (by omega) (by omega) ?_
  generalize ezh13 : up _ _ _ = zh13
  have zQ_zh13 := (congrFun ezh13 _).symm.trans ((up_ne (by simp)).trans zQ_zh12)
  have zQ4_zh13 := (congrFun ezh13 _).symm.trans ((up_ne (by simp)).trans zQ4_zh12)
  have zQ5_zh13 := (congrFun ezh13 _).symm.trans ((up_ne (by simp)).trans zQ5_zh12)
  have zQ6_zh13 := (congrFun ezh13 _).symm.trans ((up_ne (by simp)).trans zQ6_zh12)
  have zQ7_zh13 := (congrFun ezh13 _).symm.trans ((up_ne (by simp)).trans zQ7_zh12)
  have zQ8_zh13 := (congrFun ezh13 _).symm.trans ((up_ne (by simp)).trans zQ8_zh12)
  have zFL34_zh13 := (congrFun ezh13 _).symm.trans ((up_ne (by simp)).trans zFL34_zh12)
  have zFL35_zh13 := (congrFun ezh13 _).symm.trans ((up_ne (by simp)).trans zFL35_zh12)
  have zFL36_zh13 := (congrFun ezh13 _).symm.trans ((up_ne (by simp)).trans zFL36_zh12)
  have zFL40_zh13 := (congrFun ezh13 _).symm.trans ((up_ne (by simp)).trans zFL40_zh12)
  have zL37_zh13 := (congrFun ezh13 _).symm.trans ((up_ne (by simp)).trans zL37_zh12)
  have zL_zh13 := (congrFun ezh13 _).symm.trans ((up_ne (by simp)).trans zL_zh12)
  have zL31_zh13 := (congrFun ezh13 _).symm.trans ((up_ne (by simp)).trans zL31_zh12)
  have zL38_zh13 := (congrFun ezh13 _).symm.trans ((up_ne (by simp)).trans zL38_zh12)
  have zL39_zh13 := (congrFun ezh13 _).symm.trans ((up_ne (by simp)).trans zL39_zh12)
  have zL32_zh13 := (congrFun ezh13 _).symm.trans ((up_ne (by simp)).trans zL32_zh12)
  have zL33_zh13 := (congrFun ezh13 _).symm.trans (up_same _ _ _)
  refine j_castI hc dX0_init_196 clX0_55 zL33_zh13 ?_
  refine j_putF (fs' := [_, _, _, _, _, _, _, _, _, _, _, _, _, _, _, _, _, _, _, _]) hc dX0_init_199 pX0_63 rfl zL_zh13 rfl rfl ?_
  generalize ezh14 : up _ _ _ = zh14
  have zQ_zh14 := (congrFun ezh14 _).symm.trans ((up_ne (by simp)).trans zQ_zh13)
  have zQ4_zh14 := (congrFun ezh14 _).symm.trans ((up_ne (by simp)).trans zQ4_zh13)
  have zQ5_zh14 := (congrFun ezh14 _).symm.trans ((up_ne (by simp)).trans zQ5_zh13)
  have zQ6_zh14 := (congrFun ezh14 _).symm.trans ((up_ne (by simp)).trans zQ6_zh13)
  have zQ7_zh14 := (congrFun ezh14 _).symm.trans ((up_ne (by simp)).trans zQ7_zh13)
  have zQ8_zh14 := (congrFun ezh14 _).symm.trans ((up_ne (by simp)).trans zQ8_zh13)
  have zFL34_zh14 := (congrFun ezh14 _).symm.trans ((up_ne (by simp)).trans zFL34_zh13)
  have zFL35_zh14 := (congrFun ezh14 _).symm.trans ((up_ne (by simp)).trans zFL35_zh13)
  have zFL36_zh14 := (congrFun ezh14 _).symm.trans ((up_ne (by simp)).trans zFL36_zh13)
  have zFL40_zh14 := (congrFun ezh14 _).symm.trans ((up_ne (by simp)).trans zFL40_zh13)
  have zL37_zh14 := (congrFun ezh14 _).symm.trans ((up_ne (by simp)).trans zL37_zh13)
  have zL_zh14 := (congrFun ezh14 _).symm.trans (up_same _ _ _)
  have zL31_zh14 := (congrFun ezh14 _).symm.trans ((up_ne (by simp)).trans zL31_zh13)
  have zL38_zh14 := (congrFun ezh14 _).symm.trans ((up_ne (by simp)).trans zL38_zh13)
  have zL39_zh14 := (congrFun ezh14 _).symm.trans ((up_ne (by simp)).trans zL39_zh13)
  have zL32_zh14 := (congrFun ezh14 _).symm.trans ((up_ne (by simp)).trans zL32_zh13)
  have zL33_zh14 := (congrFun ezh14 _).symm.trans ((up_ne (by simp)).trans zL33_zh13)
  refine j_aload_n hc dX0_init_202 rfl ?_
  refine j_aload_n hc dX0_init_203 rfl ?_
  refine j_get hc dX0_init_204 fX0_64 zQ_zh14 rfl ?_
  refine j_clone (nm := (34, l)) hc dX0_init_207 mlX0_54 zQ8_zh14 zFL34_zh14 (by omega) rfl (Nat.le_of_ble_eq_true rfl) (by omega) (by omega) ?_
  generalize ezh15 : up _ _ _ = zh15
  have zQ_zh15 := (congrFun ezh15 _).symm.trans ((up_ne (by simp)).trans zQ_zh14)
  have zQ4_zh15 := (congrFun ezh15 _).symm.trans ((up_ne (by simp)).trans zQ4_zh14)
  have zQ5_zh15 := (congrFun ezh15 _).symm.trans ((up_ne (by simp)).trans zQ5_zh14)
  have zQ6_zh15 := (congrFun ezh15 _).symm.trans ((up_ne (by simp)).trans zQ6_zh14)
  have zQ7_zh15 := (congrFun ezh15 _).symm.trans ((up_ne (by simp)).trans zQ7_zh14)
  have zQ8_zh15 := (congrFun ezh15 _).symm.trans ((up_ne (by simp)).trans zQ8_zh14)
  have zFL35_zh15 := (congrFun ezh15 _).symm.trans ((up_ne (by simp)).trans zFL35_zh14)
  have zFL36_zh15 := (congrFun ezh15 _).symm.trans ((up_ne (by simp)).trans zFL36_zh14)
  have zFL40_zh15 := (congrFun ezh15 _).symm.trans ((up_ne (by simp)).trans zFL40_zh14)
  have zL37_zh15 := (congrFun ezh15 _).symm.trans ((up_ne (by simp)).trans zL37_zh14)
  have zL_zh15 := (congrFun ezh15 _).symm.trans ((up_ne (by simp)).trans zL_zh14)
  have zL31_zh15 := (congrFun ezh15 _).symm.trans ((up_ne (by simp)).trans zL31_zh14)
  have zL38_zh15 := (congrFun ezh15 _).symm.trans ((up_ne (by simp)).trans zL38_zh14)
  have zL39_zh15 := (congrFun ezh15 _).symm.trans ((up_ne (by simp)).trans zL39_zh14)
  have zL32_zh15 := (congrFun ezh15 _).symm.trans ((up_ne (by simp)).trans zL32_zh14)
  have zL33_zh15 := (congrFun ezh15 _).symm.trans ((up_ne (by simp)).trans zL33_zh14)
  have zL34_zh15 := (congrFun ezh15 _).symm.trans (up_same _ _ _)
  refine j_castI hc dX0_init_210 clX0_55 zL34_zh15 ?_
  refine j_putF (fs' := [_, _, _, _, _, _, _, _, _, _, _, _, _, _, _, _, _, _, _, _]) hc dX0_init_213 pX0_67 rfl zL_zh15 rfl rfl ?_
  generalize ezh16 : up _ _ _ = zh16
  have zQ_zh16 := (congrFun ezh16 _).symm.trans ((up_ne (by simp)).trans zQ_zh15)
  have zQ4_zh16 := (congrFun ezh16 _).symm.trans ((up_ne (by simp)).trans zQ4_zh15)
  have zQ5_zh16 := (congrFun ezh16 _).symm.trans ((up_ne (by simp)).trans zQ5_zh15)
  have zQ6_zh16 := (congrFun ezh16 _).symm.trans ((up_ne (by simp)).trans zQ6_zh15)
  have zQ7_zh16 := (congrFun ezh16 _).symm.trans ((up_ne (by simp)).trans zQ7_zh15)
  have zQ8_zh16 := (congrFun ezh16 _).symm.trans ((up_ne (by simp)).trans zQ8_zh15)
  have zFL35_zh16 := (congrFun ezh16 _).symm.trans ((up_ne (by simp)).trans zFL35_zh15)
  have zFL36_zh16 := (congrFun ezh16 _).symm.trans ((up_ne (by simp)).trans zFL36_zh15)
  have zFL40_zh16 := (congrFun ezh16 _).symm.trans ((up_ne (by simp)).trans zFL40_zh15)
  have zL37_zh16 := (congrFun ezh16 _).symm.trans ((up_ne (by simp)).trans zL37_zh15)
  have zL_zh16 := (congrFun ezh16 _).symm.trans (up_same _ _ _)
  have zL31_zh16 := (congrFun ezh16 _).symm.trans ((up_ne (by simp)).trans zL31_zh15)
  have zL38_zh16 := (congrFun ezh16 _).symm.trans ((up_ne (by simp)).trans zL38_zh15)
  have zL39_zh16 := (congrFun ezh16 _).symm.trans ((up_ne (by simp)).trans zL39_zh15)
  have zL32_zh16 := (congrFun ezh16 _).symm.trans ((up_ne (by simp)).trans zL32_zh15)
  have zL33_zh16 := (congrFun ezh16 _).symm.trans ((up_ne (by simp)).trans zL33_zh15)
  have zL34_zh16 := (congrFun ezh16 _).symm.trans ((up_ne (by simp)).trans zL34_zh15)
  refine j_aload_n hc dX0_init_216 rfl ?_
  refine j_aload_n hc dX0_init_217 rfl ?_
  refine j_get hc dX0_init_218 fX0_68 zQ_zh16 rfl ?_
  refine j_clone (nm := (35, l)) hc dX0_init_221 mlX0_54 zQ6_zh16 zFL35_zh16 (by omega) rfl (Nat.le_of_ble_eq_true rfl) (by omega) (by omega) ?_
  generalize ezh17 : up _ _ _ = zh17
  have zQ_zh17 := (congrFun ezh17 _).symm.trans ((up_ne (by simp)).trans zQ_zh16)
  have zQ4_zh17 := (congrFun ezh17 _).symm.trans ((up_ne (by simp)).trans zQ4_zh16)
  have zQ5_zh17 := (congrFun ezh17 _).symm.trans ((up_ne (by simp)).trans zQ5_zh16)
  have zQ6_zh17 := (congrFun ezh17 _).symm.trans ((up_ne (by simp)).trans zQ6_zh16)
  have zQ7_zh17 := (congrFun ezh17 _).symm.trans ((up_ne (by simp)).trans zQ7_zh16)
  have zQ8_zh17 := (congrFun ezh17 _).symm.trans ((up_ne (by simp)).trans zQ8_zh16)
  have zFL36_zh17 := (congrFun ezh17 _).symm.trans ((up_ne (by simp)).trans zFL36_zh16)
  have zFL40_zh17 := (congrFun ezh17 _).symm.trans ((up_ne (by simp)).trans zFL40_zh16)
  have zL37_zh17 := (congrFun ezh17 _).symm.trans ((up_ne (by simp)).trans zL37_zh16)
  have zL_zh17 := (congrFun ezh17 _).symm.trans ((up_ne (by simp)).trans zL_zh16)
  have zL31_zh17 := (congrFun ezh17 _).symm.trans ((up_ne (by simp)).trans zL31_zh16)
  have zL38_zh17 := (congrFun ezh17 _).symm.trans ((up_ne (by simp)).trans zL38_zh16)
  have zL39_zh17 := (congrFun ezh17 _).symm.trans ((up_ne (by simp)).trans zL39_zh16)
  have zL32_zh17 := (congrFun ezh17 _).symm.trans ((up_ne (by simp)).trans zL32_zh16)
  have zL33_zh17 := (congrFun ezh17 _).symm.trans ((up_ne (by simp)).trans zL33_zh16)
  have zL34_zh17 := (congrFun ezh17 _).symm.trans ((up_ne (by simp)).trans zL34_zh16)
  have zL35_zh17 := (congrFun ezh17 _).symm.trans (up_same _ _ _)
  refine j_castI hc dX0_init_224 clX0_55 zL35_zh17 ?_
  refine j_putF (fs' := [_, _, _, _, _, _, _, _, _, _, _, _, _, _, _, _, _, _, _, _]) hc dX0_init_227 pX0_71 rfl zL_zh17 rfl rfl ?_
  generalize ezh18 : up _ _ _ = zh18
  have zQ_zh18 := (congrFun ezh18 _).symm.trans ((up_ne (by simp)).trans zQ_zh17)
  have zQ4_zh18 := (congrFun ezh18 _).symm.trans ((up_ne (by simp)).trans zQ4_zh17)
  have zQ5_zh18 := (congrFun ezh18 _).symm.trans ((up_ne (by simp)).trans zQ5_zh17)
  have zQ6_zh18 := (congrFun ezh18 _).symm.trans ((up_ne (by simp)).trans zQ6_zh17)
  have zQ7_zh18 := (congrFun ezh18 _).symm.trans ((up_ne (by simp)).trans zQ7_zh17)
  have zQ8_zh18 := (congrFun ezh18 _).symm.trans ((up_ne (by simp)).trans zQ8_zh17)
  have zFL36_zh18 := (congrFun ezh18 _).symm.trans ((up_ne (by simp)).trans zFL36_zh17)
  have zFL40_zh18 := (congrFun ezh18 _).symm.trans ((up_ne (by simp)).trans zFL40_zh17)
  have zL37_zh18 := (congrFun ezh18 _).symm.trans ((up_ne (by simp)).trans zL37_zh17)
  have zL_zh18 := (congrFun ezh18 _).symm.trans (up_same _ _ _)
  have zL31_zh18 := (congrFun ezh18 _).symm.trans ((up_ne (by simp)).trans zL31_zh17)
  have zL38_zh18 := (congrFun ezh18 _).symm.trans ((up_ne (by simp)).trans zL38_zh17)
  have zL39_zh18 := (congrFun ezh18 _).symm.trans ((up_ne (by simp)).trans zL39_zh17)
  have zL32_zh18 := (congrFun ezh18 _).symm.trans ((up_ne (by simp)).trans zL32_zh17)
  have zL33_zh18 := (congrFun ezh18 _).symm.trans ((up_ne (by simp)).trans zL33_zh17)
  have zL34_zh18 := (congrFun ezh18 _).symm.trans ((up_ne (by simp)).trans zL34_zh17)
  have zL35_zh18 := (congrFun ezh18 _).symm.trans ((up_ne (by simp)).trans zL35_zh17)
  refine j_iconst hc dX0_init_230 ?_
  refine j_istore_n (L' := [_, _, _, _, _]) hc dX0_init_231 (Nat.le_of_ble_eq_true rfl) rfl ?_
  refine lp_X0_init2 (l := l) (X := X) hd hX hc (fun hB z2 zB30 zB32 zB33 zB34 zB35 zBF => ?_) _ 0 _ rfl (by omega) zL_zh18 zL32_zh18 zL33_zh18 zL34_zh18 zL35_zh18 (Fr.rf _ _)
  have zQ_hB := (zBF _ (by first | (simp; done) | (simp; omega))).trans zQ_zh18
  have zQ4_hB := (zBF _ (by first | (simp; done) | (simp; omega))).trans zQ4_zh18
  have zQ5_hB := (zBF _ (by first | (simp; done) | (simp; omega))).trans zQ5_zh18
  have zQ6_hB := (zBF _ (by first | (simp; done) | (simp; omega))).trans zQ6_zh18
  have zQ7_hB := (zBF _ (by first | (simp; done) | (simp; omega))).trans zQ7_zh18
  have zQ8_hB := (zBF _ (by first | (simp; done) | (simp; omega))).trans zQ8_zh18
  have zFL36_hB := (zBF _ (by first | (simp; done) | (simp; omega))).trans zFL36_zh18
  have zFL40_hB := (zBF _ (by first | (simp; done) | (simp; omega))).trans zFL40_zh18
  have zL37_hB := (zBF _ (by first | (simp; done) | (simp; omega))).trans zL37_zh18
  have zL31_hB := (zBF _ (by first | (simp; done) | (simp; omega))).trans zL31_zh18
  have zL38_hB := (zBF _ (by first | (simp; done) | (simp; omega))).trans zL38_zh18
  have zL39_hB := (zBF _ (by first | (simp; done) | (simp; omega))).trans zL39_zh18
  refine j_aload_n hc dX0_init_287 rfl ?_
  refine j_sipush hc dX0_init_288 (by decide) ?_
  refine j_newI (nm := (36, l)) hc dX0_init_291 ka_int zFL36_hB (by omega) (by omega) (by omega) (by omega) ?_
  generalize ezh19 : up _ _ _ = zh19
  have zQ_zh19 := (congrFun ezh19 _).symm.trans ((up_ne (by simp)).trans zQ_hB)
  have zQ4_zh19 := (congrFun ezh19 _).symm.trans ((up_ne (by simp)).trans zQ4_hB)
  have zQ5_zh19 := (congrFun ezh19 _).symm.trans ((up_ne (by simp)).trans zQ5_hB)
  have zQ6_zh19 := (congrFun ezh19 _).symm.trans ((up_ne (by simp)).trans zQ6_hB)
  have zQ7_zh19 := (congrFun ezh19 _).symm.trans ((up_ne (by simp)).trans zQ7_hB)
  have zQ8_zh19 := (congrFun ezh19 _).symm.trans ((up_ne (by simp)).trans zQ8_hB)
  have zFL40_zh19 := (congrFun ezh19 _).symm.trans ((up_ne (by simp)).trans zFL40_hB)
  have zL37_zh19 := (congrFun ezh19 _).symm.trans ((up_ne (by simp)).trans zL37_hB)
  have zL31_zh19 := (congrFun ezh19 _).symm.trans ((up_ne (by simp)).trans zL31_hB)
  have zL38_zh19 := (congrFun ezh19 _).symm.trans ((up_ne (by simp)).trans zL38_hB)
  have zL39_zh19 := (congrFun ezh19 _).symm.trans ((up_ne (by simp)).trans zL39_hB)
  have zL_zh19 := (congrFun ezh19 _).symm.trans ((up_ne (by simp)).trans zB30)
  have zL32_zh19 := (congrFun ezh19 _).symm.trans ((up_ne (by simp)).trans zB32)
  have zL33_zh19 := (congrFun ezh19 _).symm.trans ((up_ne (by simp)).trans zB33)
  have zL34_zh19 := (congrFun ezh19 _).symm.trans ((up_ne (by simp)).trans zB34)
  have zL35_zh19 := (congrFun ezh19 _).symm.trans ((up_ne (by simp)).trans zB35)
  have zL36_zh19 := (congrFun ezh19 _).symm.trans (up_same _ _ _)
  refine j_putF (fs' := [_, _, _, _, _, _, _, _, _, _, _, _, _, _, _, _, _, _, _, _]) hc dX0_init_293 pX0_72 rfl zL_zh19 rfl rfl ?_
  generalize ezh20 : up _ _ _ = zh20
  have zQ_zh20 := (congrFun ezh20 _).symm.trans ((up_ne (by simp)).trans zQ_zh19)
  have zQ4_zh20 := (congrFun ezh20 _).symm.trans ((up_ne (by simp)).trans zQ4_zh19)
  have zQ5_zh20 := (congrFun ezh20 _).symm.trans ((up_ne (by simp)).trans zQ5_zh19)
  have zQ6_zh20 := (congrFun ezh20 _).symm.trans ((up_ne (by simp)).trans zQ6_zh19)
  have zQ7_zh20 := (congrFun ezh20 _).symm.trans ((up_ne (by simp)).trans zQ7_zh19)
  have zQ8_zh20 := (congrFun ezh20 _).symm.trans ((up_ne (by simp)).trans zQ8_zh19)
  have zFL40_zh20 := (congrFun ezh20 _).symm.trans ((up_ne (by simp)).trans zFL40_zh19)
  have zL37_zh20 := (congrFun ezh20 _).symm.trans ((up_ne (by simp)).trans zL37_zh19)
  have zL31_zh20 := (congrFun ezh20 _).symm.trans ((up_ne (by simp)).trans zL31_zh19)
  have zL38_zh20 := (congrFun ezh20 _).symm.trans ((up_ne (by simp)).trans zL38_zh19)
  have zL39_zh20 := (congrFun ezh20 _).symm.trans ((up_ne (by simp)).trans zL39_zh19)
  have zL_zh20 := (congrFun ezh20 _).symm.trans (up_same _ _ _)
  have zL32_zh20 := (congrFun ezh20 _).symm.trans ((up_ne (by simp)).trans zL32_zh19)
  have zL33_zh20 := (congrFun ezh20 _).symm.trans ((up_ne (by simp)).trans zL33_zh19)
  have zL34_zh20 := (congrFun ezh20 _).symm.trans ((up_ne (by simp)).trans zL34_zh19)
  have zL35_zh20 := (congrFun ezh20 _).symm.trans ((up_ne (by simp)).trans zL35_zh19)
  have zL36_zh20 := (congrFun ezh20 _).symm.trans ((up_ne (by simp)).trans zL36_zh19)
  refine j_aload_n hc dX0_init_296 rfl ?_
  refine j_bipush hc dX0_init_297 (by decide) ?_
  refine j_anew (nm := (40, l)) (kd := 6) hc dX0_init_299 clX0_75 (by decide) (by decide) rfl (by decide) zFL40_zh20 (by omega) (by omega) (by omega) (by omega) ?_
  generalize ezh21 : up _ _ _ = zh21
  have zQ_zh21 := (congrFun ezh21 _).symm.trans ((up_ne (by simp)).trans zQ_zh20)
  have zQ4_zh21 := (congrFun ezh21 _).symm.trans ((up_ne (by simp)).trans zQ4_zh20)
  have zQ5_zh21 := (congrFun ezh21 _).symm.trans ((up_ne (by simp)).trans zQ5_zh20)
  have zQ6_zh21 := (congrFun ezh21 _).symm.trans ((up_ne (by simp)).trans zQ6_zh20)
  have zQ7_zh21 := (congrFun ezh21 _).symm.trans ((up_ne (by simp)).trans zQ7_zh20)
  have zQ8_zh21 := (congrFun ezh21 _).symm.trans ((up_ne (by simp)).trans zQ8_zh20)
  have zL37_zh21 := (congrFun ezh21 _).symm.trans ((up_ne (by simp)).trans zL37_zh20)
  have zL31_zh21 := (congrFun ezh21 _).symm.trans ((up_ne (by simp)).trans zL31_zh20)
  have zL38_zh21 := (congrFun ezh21 _).symm.trans ((up_ne (by simp)).trans zL38_zh20)
  have zL39_zh21 := (congrFun ezh21 _).symm.trans ((up_ne (by simp)).trans zL39_zh20)
  have zL_zh21 := (congrFun ezh21 _).symm.trans ((up_ne (by simp)).trans zL_zh20)
  have zL32_zh21 := (congrFun ezh21 _).symm.trans ((up_ne (by simp)).trans zL32_zh20)
  have zL33_zh21 := (congrFun ezh21 _).symm.trans ((up_ne (by simp)).trans zL33_zh20)
  have zL34_zh21 := (congrFun ezh21 _).symm.trans ((up_ne (by simp)).trans zL34_zh20)
  have zL35_zh21 := (congrFun ezh21 _).symm.trans ((up_ne (by simp)).trans zL35_zh20)
  have zL36_zh21 := (congrFun ezh21 _).symm.trans ((up_ne (by simp)).trans zL36_zh20)
  have zL40_zh21 := (congrFun ezh21 _).symm.trans (up_same _ _ _)
  refine j_putF (fs' := [_, _, _, _, _, _, _, _, _, _, _, _, _, _, _, _, _, _, _, _]) hc dX0_init_302 pX0_77 rfl zL_zh21 rfl rfl ?_
  generalize ezh22 : up _ _ _ = zh22
  have zQ_zh22 := (congrFun ezh22 _).symm.trans ((up_ne (by simp)).trans zQ_zh21)
  have zQ4_zh22 := (congrFun ezh22 _).symm.trans ((up_ne (by simp)).trans zQ4_zh21)
  have zQ5_zh22 := (congrFun ezh22 _).symm.trans ((up_ne (by simp)).trans zQ5_zh21)
  have zQ6_zh22 := (congrFun ezh22 _).symm.trans ((up_ne (by simp)).trans zQ6_zh21)
  have zQ7_zh22 := (congrFun ezh22 _).symm.trans ((up_ne (by simp)).trans zQ7_zh21)
  have zQ8_zh22 := (congrFun ezh22 _).symm.trans ((up_ne (by simp)).trans zQ8_zh21)
  have zL37_zh22 := (congrFun ezh22 _).symm.trans ((up_ne (by simp)).trans zL37_zh21)
  have zL31_zh22 := (congrFun ezh22 _).symm.trans ((up_ne (by simp)).trans zL31_zh21)
  have zL38_zh22 := (congrFun ezh22 _).symm.trans ((up_ne (by simp)).trans zL38_zh21)
  have zL39_zh22 := (congrFun ezh22 _).symm.trans ((up_ne (by simp)).trans zL39_zh21)
  have zL_zh22 := (congrFun ezh22 _).symm.trans (up_same _ _ _)
  have zL32_zh22 := (congrFun ezh22 _).symm.trans ((up_ne (by simp)).trans zL32_zh21)
  have zL33_zh22 := (congrFun ezh22 _).symm.trans ((up_ne (by simp)).trans zL33_zh21)
  have zL34_zh22 := (congrFun ezh22 _).symm.trans ((up_ne (by simp)).trans zL34_zh21)
  have zL35_zh22 := (congrFun ezh22 _).symm.trans ((up_ne (by simp)).trans zL35_zh21)
  have zL36_zh22 := (congrFun ezh22 _).symm.trans ((up_ne (by simp)).trans zL36_zh21)
  have zL40_zh22 := (congrFun ezh22 _).symm.trans ((up_ne (by simp)).trans zL40_zh21)
  refine j_aload_n hc dX0_init_305 rfl ?_
  refine j_bipush hc dX0_init_306 (by decide) ?_
  refine j_put (fs' := [_, _, _, _, _, _, _, _, _, _, _, _, _, _, _, _, _, _, _, _]) hc dX0_init_308 pX0_81 zL_zh22 rfl rfl ?_
  generalize ezh23 : up _ _ _ = zh23
  have zQ_zh23 := (congrFun ezh23 _).symm.trans ((up_ne (by simp)).trans zQ_zh22)
  have zQ4_zh23 := (congrFun ezh23 _).symm.trans ((up_ne (by simp)).trans zQ4_zh22)
  have zQ5_zh23 := (congrFun ezh23 _).symm.trans ((up_ne (by simp)).trans zQ5_zh22)
  have zQ6_zh23 := (congrFun ezh23 _).symm.trans ((up_ne (by simp)).trans zQ6_zh22)
  have zQ7_zh23 := (congrFun ezh23 _).symm.trans ((up_ne (by simp)).trans zQ7_zh22)
  have zQ8_zh23 := (congrFun ezh23 _).symm.trans ((up_ne (by simp)).trans zQ8_zh22)
  have zL37_zh23 := (congrFun ezh23 _).symm.trans ((up_ne (by simp)).trans zL37_zh22)
  have zL31_zh23 := (congrFun ezh23 _).symm.trans ((up_ne (by simp)).trans zL31_zh22)
  have zL38_zh23 := (congrFun ezh23 _).symm.trans ((up_ne (by simp)).trans zL38_zh22)
  have zL39_zh23 := (congrFun ezh23 _).symm.trans ((up_ne (by simp)).trans zL39_zh22)
  have zL_zh23 := (congrFun ezh23 _).symm.trans (up_same _ _ _)
  have zL32_zh23 := (congrFun ezh23 _).symm.trans ((up_ne (by simp)).trans zL32_zh22)
  have zL33_zh23 := (congrFun ezh23 _).symm.trans ((up_ne (by simp)).trans zL33_zh22)
  have zL34_zh23 := (congrFun ezh23 _).symm.trans ((up_ne (by simp)).trans zL34_zh22)
  have zL35_zh23 := (congrFun ezh23 _).symm.trans ((up_ne (by simp)).trans zL35_zh22)
  have zL36_zh23 := (congrFun ezh23 _).symm.trans ((up_ne (by simp)).trans zL36_zh22)
  have zL40_zh23 := (congrFun ezh23 _).symm.trans ((up_ne (by simp)).trans zL40_zh22)
  refine j_aload_n hc dX0_init_311 rfl ?_
  refine j_iconst hc dX0_init_312 ?_
  refine j_put (fs' := [_, _, _, _, _, _, _, _, _, _, _, _, _, _, _, _, _, _, _, _]) hc dX0_init_313 pX0_84 zL_zh23 rfl rfl ?_
  generalize ezh24 : up _ _ _ = zh24
  have zQ_zh24 := (congrFun ezh24 _).symm.trans ((up_ne (by simp)).trans zQ_zh23)
  have zQ4_zh24 := (congrFun ezh24 _).symm.trans ((up_ne (by simp)).trans zQ4_zh23)
  have zQ5_zh24 := (congrFun ezh24 _).symm.trans ((up_ne (by simp)).trans zQ5_zh23)
  have zQ6_zh24 := (congrFun ezh24 _).symm.trans ((up_ne (by simp)).trans zQ6_zh23)
  have zQ7_zh24 := (congrFun ezh24 _).symm.trans ((up_ne (by simp)).trans zQ7_zh23)
  have zQ8_zh24 := (congrFun ezh24 _).symm.trans ((up_ne (by simp)).trans zQ8_zh23)
  have zL37_zh24 := (congrFun ezh24 _).symm.trans ((up_ne (by simp)).trans zL37_zh23)
  have zL31_zh24 := (congrFun ezh24 _).symm.trans ((up_ne (by simp)).trans zL31_zh23)
  have zL38_zh24 := (congrFun ezh24 _).symm.trans ((up_ne (by simp)).trans zL38_zh23)
  have zL39_zh24 := (congrFun ezh24 _).symm.trans ((up_ne (by simp)).trans zL39_zh23)
  have zL_zh24 := (congrFun ezh24 _).symm.trans (up_same _ _ _)
  have zL32_zh24 := (congrFun ezh24 _).symm.trans ((up_ne (by simp)).trans zL32_zh23)
  have zL33_zh24 := (congrFun ezh24 _).symm.trans ((up_ne (by simp)).trans zL33_zh23)
  have zL34_zh24 := (congrFun ezh24 _).symm.trans ((up_ne (by simp)).trans zL34_zh23)
  have zL35_zh24 := (congrFun ezh24 _).symm.trans ((up_ne (by simp)).trans zL35_zh23)
  have zL36_zh24 := (congrFun ezh24 _).symm.trans ((up_ne (by simp)).trans zL36_zh23)
  have zL40_zh24 := (congrFun ezh24 _).symm.trans ((up_ne (by simp)).trans zL40_zh23)
  exact j_vret hc he dX0_init_316 rfl (by omega) (by omega) ⟨rfl, pf, zpf, zD, ⟨zL_zh24, zL31_zh24, zL32_zh24, zL33_zh24, zL34_zh24, zL35_zh24, zL36_zh24, ⟨gf, zL37_zh24, zgf⟩, ⟨f8, zL38_zh24, zA8⟩, ⟨f9, zL39_zh24, zA9⟩, zL40_zh24⟩, (by rw [← ezh24]; exact Fr.push ((by rw [← ezh23]; exact Fr.push ((by rw [← ezh22]; exact Fr.push ((by rw [← ezh21]; exact Fr.push ((by rw [← ezh20]; exact Fr.push ((by rw [← ezh19]; exact Fr.push (Fr.tr ((by rw [← ezh18]; exact Fr.push ((by rw [← ezh17]; exact Fr.push ((by rw [← ezh16]; exact Fr.push ((by rw [← ezh15]; exact Fr.push ((by rw [← ezh14]; exact Fr.push ((by rw [← ezh13]; exact Fr.push ((by rw [← ezh12]; exact Fr.push ((by rw [← ezh11]; exact Fr.push (Fr.tr ((by rw [← ezh10]; exact Fr.push ((by rw [← ezh9]; exact Fr.push ((by rw [← ezh8]; exact Fr.push ((by rw [← ezh7]; exact Fr.push ((by rw [← ezh6]; exact Fr.push (Fr.tr ((by rw [← ezh5]; exact Fr.push (Fr.tr ((by rw [← ezh4]; exact Fr.push ((by rw [← ezh3]; exact Fr.push ((by rw [← ezh2]; exact Fr.push ((by rw [← ezh1]; exact Fr.push (Fr.rf (fun z => 30 ≤ z.1 ∧ z.1 ≤ 40 ∧ z.2 = l) _) ⟨by simp, by simp, rfl⟩)) ⟨by simp, by simp, rfl⟩)) ⟨by simp, by simp, rfl⟩)) ⟨by simp, by simp, rfl⟩)) (zF38.mono fun z zz => (by rw [zz]; exact ⟨by simp, by simp, rfl⟩))) ⟨by simp, by simp, rfl⟩)) (zF49.mono fun z zz => (by rw [zz]; exact ⟨by simp, by simp, rfl⟩))) ⟨by simp, by simp, rfl⟩)) ⟨by simp, by simp, rfl⟩)) ⟨by simp, by simp, rfl⟩)) ⟨by simp, by simp, rfl⟩)) ⟨by simp, by simp, rfl⟩)) (zAF.mono fun z zz => (by rcases zz with zz | zz <;> (rw [zz]; exact ⟨by simp, by simp, rfl⟩)))) ⟨by simp, by simp, rfl⟩)) ⟨by simp, by simp, rfl⟩)) ⟨by simp, by simp, rfl⟩)) ⟨by simp, by simp, rfl⟩)) ⟨by simp, by simp, rfl⟩)) ⟨by simp, by simp, rfl⟩)) ⟨by simp, by simp, rfl⟩)) ⟨by simp, by simp, rfl⟩)) (zBF.mono fun z zz => (⟨by omega, by omega, zz.2.2⟩))) ⟨by simp, by simp, rfl⟩)) ⟨by simp, by simp, rfl⟩)) ⟨by simp, by simp, rfl⟩)) ⟨by simp, by simp, rfl⟩)) ⟨by simp, by simp, rfl⟩)) ⟨by simp, by simp, rfl⟩)⟩
