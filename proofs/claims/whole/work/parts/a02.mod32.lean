/-! ===== the reference reads a land: m, and what is no statement ===== -/
set_option maxRecDepth 100000 in
set_option maxHeartbeats 4000000 in
theorem ev_X11_statement_m {k : WC} {d : Nat} {h : AH} {s : Int → Int} {A : MAs} {b : Int → Int} {n : Int} {l : Int} {X : DrS} (hd : 6 ≤ d) (hS : MdS h s A) (hT : RdM s A b n) (hl0 : 0 ≤ l) (hl6 : l ≤ 6) (hX : XOK X) (hD : DrM A l X) (h30 : 0 ≤ s 3) (h31 : s 3 ≤ n) (h4 : s 4 = -1) (hch : hrM b n (skS b n (s 3)) = 109) : Ev k d mdX11_statement h [vR (70, 0), vI l] 0 0 (StP s A b n l (stS b n (s 3) X) h) := by
  have hn := hT.2.1
  obtain ⟨s1, s2, s3⟩ := skS_b b n (s 3)
  have s2 := s2 h31
  have zs1 := hrM_S hT (show 0 ≤ skS b n (s 3) by omega)
  obtain ⟨x6, x8, x9, x13, x14, x15, x12, xpa⟩ := id hD
  have zc : hrS b n (skS b n (s 3)) = 109 := by omega
  refine Ev.mk (by decide +kernel) [_, _, _, _, _, _, _] rfl (Nat.le_of_ble_eq_true rfl) (fun w hc he => ?_)
  rw [show stS b n (s 3) X = stM b n (skS b n (s 3) + 1) X by unfold stS; (repeat (first | rw [if_pos (by omega)] | rw [if_neg (by omega)]))] at he
  refine j_aload_n hc dX11_statement_0 rfl ?_
  refine j_callV (d' := d - 1) hc dX11_statement_1 vX11_135 hS.1 (ev_X11_look (by omega) hS hT (by omega) (by omega)) rfl (by omega) (by omega) (by omega) rfl rfl (Nat.le_of_ble_eq_true rfl) (retE fun zv1 zq1 zp1 => ?_)
  obtain ⟨zv7, zS7, zF7⟩ := zp1
  subst zv7
  rw [hch]
  refine j_istore_n (L' := [_, _, _, _, _, _, _]) hc dX11_statement_4 (Nat.le_of_ble_eq_true rfl) rfl ?_
  refine j_iload_n hc dX11_statement_5 rfl ?_
  refine j_bipush hc dX11_statement_6 (by decide) ?_
  refine j_icmp_ne (tgt := 22) hc dX11_statement_8 (by decide) ⟨by omega, by omega⟩ ⟨by omega, by omega⟩ (fun zc1 => ?_) (fun zc1 => ?_)
  · refine j_iload_n hc dX11_statement_22 rfl ?_
    refine j_bipush hc dX11_statement_23 (by decide) ?_
    refine j_icmp_eq (tgt := 46) hc dX11_statement_25 (by decide) ⟨by omega, by omega⟩ ⟨by omega, by omega⟩ (fun zc2 => ?_) (fun zc2 => ?_)
    · exact absurd zc2 (by decide)
    · refine j_iload_n hc dX11_statement_28 rfl ?_
      refine j_bipush hc dX11_statement_29 (by decide) ?_
      refine j_icmp_eq (tgt := 46) hc dX11_statement_31 (by decide) ⟨by omega, by omega⟩ ⟨by omega, by omega⟩ (fun zc3 => ?_) (fun zc3 => ?_)
      · exact absurd zc3 (by decide)
      · refine j_iload_n hc dX11_statement_34 rfl ?_
        refine j_bipush hc dX11_statement_35 (by decide) ?_
        refine j_icmp_eq (tgt := 46) hc dX11_statement_37 (by decide) ⟨by omega, by omega⟩ ⟨by omega, by omega⟩ (fun zc4 => ?_) (fun zc4 => ?_)
        · refine j_iconst hc dX11_statement_46 ?_
          refine j_goto (tgt := 51) hc dX11_statement_47 (by decide) ?_
          refine j_istore_n (L' := [_, _, _, _, _, _, _]) hc dX11_statement_51 (Nat.le_of_ble_eq_true rfl) rfl ?_
          refine j_iload_n hc dX11_statement_52 rfl ?_
          refine j_if_ne (b := 0) (tgt := 61) hc dX11_statement_53 (by decide) ⟨by omega, by omega⟩ (fun zc5 => ?_) (fun zc5 => ?_)
          · refine j_aload_n hc dX11_statement_61 rfl ?_
            refine j_dup hc dX11_statement_62 rfl ?_
            refine j_get hc dX11_statement_63 fX11_125 zS7.1 rfl ?_
            rw [fu_same]
            refine j_iconst hc dX11_statement_66 ?_
            refine j_iadd hc dX11_statement_67 ?_
            refine j_put  hc dX11_statement_68 pX11_125 zS7.1 rfl mset_3 ?_
            generalize ezh1 : up _ _ _ = zh1
            have zzmod_zh1 := MdS.pf ezh1 zS7
            refine j_iload_n hc dX11_statement_71 rfl ?_
            refine j_bipush hc dX11_statement_72 (by decide) ?_
            refine j_icmp_ne (tgt := 143) hc dX11_statement_74 (by decide) ⟨by omega, by omega⟩ ⟨by omega, by omega⟩ (fun zc6 => ?_) (fun zc6 => ?_)
            · refine j_iload_n hc dX11_statement_143 rfl ?_
              refine j_bipush hc dX11_statement_144 (by decide) ?_
              refine j_icmp_ne (tgt := 235) hc dX11_statement_146 (by decide) ⟨by omega, by omega⟩ ⟨by omega, by omega⟩ (fun zc7 => ?_) (fun zc7 => ?_)
              · refine j_iload_n hc dX11_statement_235 rfl ?_
                refine j_bipush hc dX11_statement_236 (by decide) ?_
                refine j_icmp_ne (tgt := 259) hc dX11_statement_238 (by decide) ⟨by omega, by omega⟩ ⟨by omega, by omega⟩ (fun zc8 => ?_) (fun zc8 => ?_)
                · refine j_iload_n hc dX11_statement_259 rfl ?_
                  refine j_bipush hc dX11_statement_260 (by decide) ?_
                  refine j_icmp_ne (tgt := 283) hc dX11_statement_262 (by decide) ⟨by omega, by omega⟩ ⟨by omega, by omega⟩ (fun zc9 => ?_) (fun zc9 => ?_)
                  · refine j_aload_n hc dX11_statement_283 rfl ?_
                    refine j_get hc dX11_statement_284 fX11_37 zzmod_zh1.1 rfl ?_
                    refine j_iload_n hc dX11_statement_287 rfl ?_
                    refine j_aload_n hc dX11_statement_288 rfl ?_
                    refine j_iconst hc dX11_statement_289 ?_
                    refine j_bipush hc dX11_statement_290 (by decide) ?_
                    refine j_iconst hc dX11_statement_292 ?_
                    refine j_iconst hc dX11_statement_293 ?_
                    refine j_callV (d' := d - 1) hc dX11_statement_294 vX11_149 zzmod_zh1.1 (ev_X11_number (l := -1) (by omega) zzmod_zh1 (((SmR.rf s).f3.f3).rd hT) ⟨by omega, by omega⟩ ⟨by omega, by omega⟩ (by omega) ⟨by omega, by omega⟩ (Or.inl rfl) (by show 0 ≤ skS b n (s 3) + 1; omega) (by show skS b n (s 3) + 1 ≤ n; omega) (by show s 4 = -1; exact h4)) rfl (by omega) (by omega) (by omega) rfl rfl (Nat.le_of_ble_eq_true rfl) (retE fun zv294 zq294 zp294 => ?_)
                    obtain ⟨x1, i1, w1, s1, zv1, zN1, zi1, zw1, zS1, z31, z41, zm1, zF1⟩ := zp294
                    subst zv1
                    refine j_iast hc dX11_statement_297 zS1.2.2.2.2.2.2.2.2.2.2.1 (by omega) (by omega) ?_
                    generalize ezh2 : up _ _ _ = zh2
                    have zzmod_zh2 := MdS.pa_14 ezh2 zS1
                    exact j_vret hc he dX11_statement_298 rfl (by omega) (by omega) ⟨rfl, _, _, zzmod_zh2, ((SmR.rf s).f3.f3).tr zm1, AgL.f14 A l _, (by rw [← ezh2]; exact Fr.push (Fr.tr ((by rw [← ezh1]; exact Fr.push (Fr.tr (Fr.rf _ _) (zF7.mono fun z zz => Or.inl zz)) (by first | exact Or.inl rfl | exact Or.inr (by decide)))) (zF1.mono fun z zz => Or.inl zz)) (by first | exact Or.inl rfl | exact Or.inr (by decide))), ⟨by omega, by omega⟩, ⟨by omega, by omega⟩, by
                      have zN2 : NuM A b n (nuS b n (skS b n (s 3) + 1) 0 20) 0 20 (-1) 1 x1 i1 w1 := zN1
                      unfold StR stM
                      by_cases zr : (nuS b n (skS b n (s 3) + 1) 0 20).1 ≠ -1
                      · rw [if_pos zr]
                        exact ⟨fun _ => z41.trans (zN2.2.1 zr), fun z => absurd z zr⟩
                      · rw [if_neg zr]
                        have zr2 : (nuS b n (skS b n (s 3) + 1) 0 20).1 = -1 := by omega
                        have znb := (nuS_b (b := b) (lo := 0) (hi := 20) (show 0 ≤ skS b n (s 3) + 1 by omega) (show skS b n (s 3) + 1 ≤ n by omega)).2.2.2.2 zr2
                        by_cases zo : (nuS b n (skS b n (s 3) + 1) 0 20).2.2 = 1
                        · rw [if_pos zo]
                          exact ⟨fun _ => z41.trans ((zN2.2.2 zr2).1 (Or.inl zo)), fun z => absurd z (by show ¬ ((nuS b n (skS b n (s 3) + 1) 0 20).2.1 - 1 = -1); omega)⟩
                        · rw [if_neg zo]
                          obtain ⟨zx, zy⟩ := (zN2.2.2 zr2).2 (fun z => by rcases z with z | z; (· exact zo z); exact z.1 rfl)
                          refine ⟨fun z => absurd rfl z, fun _ => ?_⟩
                          rcases zy with ⟨y1, y2, y3⟩ | ⟨y1, y2⟩
                          · refine Or.inl ⟨z41.trans y1, z31.trans y2, ?_⟩
                            rw [zx]
                            exact ⟨x6, x8, x9, x13, fu_same _ _ _, x15, x12, xpa⟩
                          · exact Or.inr ⟨z41.trans y1, y2⟩⟩
                  · exact absurd zc9 (by decide)
                · exact absurd zc8 (by decide)
              · exact absurd zc7 (by decide)
            · exact absurd zc6 (by decide)
          · exact absurd zc5 (by decide)
        · exact absurd rfl zc4
  · exact absurd zc1 (by decide)
set_option maxRecDepth 100000 in
set_option maxHeartbeats 4000000 in
theorem ev_X11_statement_n {k : WC} {d : Nat} {h : AH} {s : Int → Int} {A : MAs} {b : Int → Int} {n : Int} {l : Int} {X : DrS} (hd : 6 ≤ d) (hS : MdS h s A) (hT : RdM s A b n) (hl0 : 0 ≤ l) (hl6 : l ≤ 6) (hX : XOK X) (hD : DrM A l X) (h30 : 0 ≤ s 3) (h31 : s 3 ≤ n) (h4 : s 4 = -1) (hno : (hrM b n (skS b n (s 3)) ≠ 119 ∧ hrM b n (skS b n (s 3)) ≠ 104 ∧ hrM b n (skS b n (s 3)) ≠ 99 ∧ hrM b n (skS b n (s 3)) ≠ 109 ∧ hrM b n (skS b n (s 3)) ≠ 114) ∨ (hrM b n (skS b n (s 3)) = 119 ∧ 20 ≤ xSw X)) : Ev k d mdX11_statement h [vR (70, 0), vI l] 0 0 (StP s A b n l (stS b n (s 3) X) h) := by
  have hn := hT.2.1
  obtain ⟨s1, s2, s3⟩ := skS_b b n (s 3)
  have s2 := s2 h31
  have zs1 := hrM_S hT (show 0 ≤ skS b n (s 3) by omega)
  obtain ⟨x6, x8, x9, x13, x14, x15, x12, xpa⟩ := id hD
  have zhb := hrM_b hT (show 0 ≤ skS b n (s 3) by omega)
  have zsw := hX.2.2.2.2.2.2.2.2.2
  have zr : ∃ y, stS b n (s 3) X = (skS b n (s 3), y, X) := by
    unfold stS
    by_cases q : hrS b n (skS b n (s 3)) = 119
    · have zq : 20 ≤ xSw X := by rcases hno with z | z; (· omega); exact z.2
      refine ⟨skS b n (s 3) + 1, ?_⟩
      rw [if_pos q]
      unfold stW
      rw [if_pos (by omega), show skS b n (s 3) + 1 - 1 = skS b n (s 3) by omega]
    · refine ⟨0, ?_⟩
      rw [if_neg q, if_neg (by omega), if_neg (by omega), if_neg (by omega), if_neg (by omega)]
  obtain ⟨y0, zr⟩ := zr
  rw [zr]
  refine Ev.mk (by decide +kernel) [_, _, _, _, _, _, _] rfl (Nat.le_of_ble_eq_true rfl) (fun w hc he => ?_)
  refine j_aload_n hc dX11_statement_0 rfl ?_
  refine j_callV (d' := d - 1) hc dX11_statement_1 vX11_135 hS.1 (ev_X11_look (by omega) hS hT (by omega) (by omega)) rfl (by omega) (by omega) (by omega) rfl rfl (Nat.le_of_ble_eq_true rfl) (retE fun zv1 zq1 zp1 => ?_)
  obtain ⟨zv7, zS7, zF7⟩ := zp1
  subst zv7
  refine j_istore_n (L' := [_, _, _, _, _, _, _]) hc dX11_statement_4 (Nat.le_of_ble_eq_true rfl) rfl ?_
  refine j_iload_n hc dX11_statement_5 rfl ?_
  refine j_bipush hc dX11_statement_6 (by decide) ?_
  refine j_icmp_ne (tgt := 22) hc dX11_statement_8 (by decide) ⟨by omega, by omega⟩ ⟨by omega, by omega⟩ (fun zc1 => ?_) (fun zc1 => ?_)
  · refine j_iload_n hc dX11_statement_22 rfl ?_
    refine j_bipush hc dX11_statement_23 (by decide) ?_
    refine j_icmp_eq (tgt := 46) hc dX11_statement_25 (by decide) ⟨by omega, by omega⟩ ⟨by omega, by omega⟩ (fun zc2 => ?_) (fun zc2 => ?_)
    · exact absurd hno (by omega)
    · refine j_iload_n hc dX11_statement_28 rfl ?_
      refine j_bipush hc dX11_statement_29 (by decide) ?_
      refine j_icmp_eq (tgt := 46) hc dX11_statement_31 (by decide) ⟨by omega, by omega⟩ ⟨by omega, by omega⟩ (fun zc3 => ?_) (fun zc3 => ?_)
      · exact absurd hno (by omega)
      · refine j_iload_n hc dX11_statement_34 rfl ?_
        refine j_bipush hc dX11_statement_35 (by decide) ?_
        refine j_icmp_eq (tgt := 46) hc dX11_statement_37 (by decide) ⟨by omega, by omega⟩ ⟨by omega, by omega⟩ (fun zc4 => ?_) (fun zc4 => ?_)
        · exact absurd hno (by omega)
        · refine j_iload_n hc dX11_statement_40 rfl ?_
          refine j_bipush hc dX11_statement_41 (by decide) ?_
          refine j_icmp_ne (tgt := 50) hc dX11_statement_43 (by decide) ⟨by omega, by omega⟩ ⟨by omega, by omega⟩ (fun zc5 => ?_) (fun zc5 => ?_)
          · refine j_iconst hc dX11_statement_50 ?_
            refine j_istore_n (L' := [_, _, _, _, _, _, _]) hc dX11_statement_51 (Nat.le_of_ble_eq_true rfl) rfl ?_
            refine j_iload_n hc dX11_statement_52 rfl ?_
            refine j_if_ne (b := 0) (tgt := 61) hc dX11_statement_53 (by decide) ⟨by omega, by omega⟩ (fun zc6 => ?_) (fun zc6 => ?_)
            · exact absurd rfl zc6
            · refine j_aload_n hc dX11_statement_56 rfl ?_
              refine j_callV (d' := d - 1) hc dX11_statement_57 vX11_142 zS7.1 (ev_X11_bad (by omega) zS7 (by show inI (skS b n (s 3)); exact ⟨by omega, by omega⟩) (by show inI (s 4); exact ⟨by omega, by omega⟩)) rfl (by omega) (by omega) (by omega) rfl rfl (Nat.le_of_ble_eq_true rfl) (retN fun zq57 zp57 => ?_)
              obtain ⟨zS1, zF1⟩ := zp57
              exact j_vret hc he dX11_statement_60 rfl (by omega) (by omega) ⟨rfl, _, A, zS1, (SmR.rf s).f3.f4, AgL.rf A l, Fr.tr (Fr.tr (Fr.rf _ _) (zF7.mono fun z zz => Or.inl zz)) (zF1.mono fun z zz => Or.inl zz), ⟨by show 0 ≤ skS b n (s 3); omega, by show skS b n (s 3) ≤ n + 1; omega⟩, (by show -1 ≤ (if s 4 = -1 then skS b n (s 3) else s 4) ∧ (if s 4 = -1 then skS b n (s 3) else s 4) ≤ n; rw [if_pos h4]; exact ⟨by omega, by omega⟩), ⟨fun _ => (by show (if s 4 = -1 then skS b n (s 3) else s 4) = _; rw [if_pos h4]), fun z => absurd z (by show ¬ (skS b n (s 3) = -1); omega)⟩⟩
          · exact absurd hno (by omega)
  · refine j_aload_n hc dX11_statement_11 rfl ?_
    refine j_get hc dX11_statement_12 fX11_22 zS7.1 rfl ?_
    refine j_iload_n hc dX11_statement_15 rfl ?_
    refine j_iald hc dX11_statement_16 zS7.2.2.2.2.2.1 (by omega) (by omega) ?_
    refine j_bipush hc dX11_statement_17 (by decide) ?_
    refine j_icmp_lt (tgt := 46) hc dX11_statement_19 (by decide) (by rw [x9]; exact ⟨by omega, by omega⟩) ⟨by omega, by omega⟩ (fun zc7 => ?_) (fun zc7 => ?_)
    · exact absurd hno (by omega)
    · refine j_iload_n hc dX11_statement_22 rfl ?_
      refine j_bipush hc dX11_statement_23 (by decide) ?_
      refine j_icmp_eq (tgt := 46) hc dX11_statement_25 (by decide) ⟨by omega, by omega⟩ ⟨by omega, by omega⟩ (fun zc8 => ?_) (fun zc8 => ?_)
      · exact absurd hno (by omega)
      · refine j_iload_n hc dX11_statement_28 rfl ?_
        refine j_bipush hc dX11_statement_29 (by decide) ?_
        refine j_icmp_eq (tgt := 46) hc dX11_statement_31 (by decide) ⟨by omega, by omega⟩ ⟨by omega, by omega⟩ (fun zc9 => ?_) (fun zc9 => ?_)
        · exact absurd hno (by omega)
        · refine j_iload_n hc dX11_statement_34 rfl ?_
          refine j_bipush hc dX11_statement_35 (by decide) ?_
          refine j_icmp_eq (tgt := 46) hc dX11_statement_37 (by decide) ⟨by omega, by omega⟩ ⟨by omega, by omega⟩ (fun zc10 => ?_) (fun zc10 => ?_)
          · exact absurd hno (by omega)
          · refine j_iload_n hc dX11_statement_40 rfl ?_
            refine j_bipush hc dX11_statement_41 (by decide) ?_
            refine j_icmp_ne (tgt := 50) hc dX11_statement_43 (by decide) ⟨by omega, by omega⟩ ⟨by omega, by omega⟩ (fun zc11 => ?_) (fun zc11 => ?_)
            · refine j_iconst hc dX11_statement_50 ?_
              refine j_istore_n (L' := [_, _, _, _, _, _, _]) hc dX11_statement_51 (Nat.le_of_ble_eq_true rfl) rfl ?_
              refine j_iload_n hc dX11_statement_52 rfl ?_
              refine j_if_ne (b := 0) (tgt := 61) hc dX11_statement_53 (by decide) ⟨by omega, by omega⟩ (fun zc12 => ?_) (fun zc12 => ?_)
              · exact absurd rfl zc12
              · refine j_aload_n hc dX11_statement_56 rfl ?_
                refine j_callV (d' := d - 1) hc dX11_statement_57 vX11_142 zS7.1 (ev_X11_bad (by omega) zS7 (by show inI (skS b n (s 3)); exact ⟨by omega, by omega⟩) (by show inI (s 4); exact ⟨by omega, by omega⟩)) rfl (by omega) (by omega) (by omega) rfl rfl (Nat.le_of_ble_eq_true rfl) (retN fun zq57 zp57 => ?_)
                obtain ⟨zS1, zF1⟩ := zp57
                exact j_vret hc he dX11_statement_60 rfl (by omega) (by omega) ⟨rfl, _, A, zS1, (SmR.rf s).f3.f4, AgL.rf A l, Fr.tr (Fr.tr (Fr.rf _ _) (zF7.mono fun z zz => Or.inl zz)) (zF1.mono fun z zz => Or.inl zz), ⟨by show 0 ≤ skS b n (s 3); omega, by show skS b n (s 3) ≤ n + 1; omega⟩, (by show -1 ≤ (if s 4 = -1 then skS b n (s 3) else s 4) ∧ (if s 4 = -1 then skS b n (s 3) else s 4) ≤ n; rw [if_pos h4]; exact ⟨by omega, by omega⟩), ⟨fun _ => (by show (if s 4 = -1 then skS b n (s 3) else s 4) = _; rw [if_pos h4]), fun z => absurd z (by show ¬ (skS b n (s 3) = -1); omega)⟩⟩
            · exact absurd hno (by omega)
