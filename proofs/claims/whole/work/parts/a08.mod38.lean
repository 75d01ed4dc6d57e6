/-! ===== the reference reads a land: w ===== -/
set_option maxRecDepth 100000 in
set_option maxHeartbeats 4000000 in
theorem ev_X11_statement_w {k : WC} {d : Nat} {h : AH} {s : Int → Int} {A : MAs} {b : Int → Int} {n : Int} {l : Int} {X : DrS} (hd : 6 ≤ d) (hS : MdS h s A) (hT : RdM s A b n) (hl0 : 0 ≤ l) (hl6 : l ≤ 6) (hX : XOK X) (hD : DrM A l X) (h30 : 0 ≤ s 3) (h31 : s 3 ≤ n) (h4 : s 4 = -1) (hch : hrM b n (skS b n (s 3)) = 119) (hsw : xSw X < 20) : Ev k d mdX11_statement h [vR (70, 0), vI l] 0 0 (StP s A b n l (stS b n (s 3) X) h) := by
  have hn := hT.2.1
  obtain ⟨s1, s2, s3⟩ := skS_b b n (s 3)
  have s2 := s2 h31
  have zs1 := hrM_S hT (show 0 ≤ skS b n (s 3) by omega)
  obtain ⟨x6, x8, x9, x13, x14, x15, x12, xpa⟩ := id hD
  have zsw := hX.2.2.2.2.2.2.2.2.2.1
  have zc : hrS b n (skS b n (s 3)) = 119 := by omega
  refine Ev.mk (by decide +kernel) [_, _, _, _, _, _, _] rfl (Nat.le_of_ble_eq_true rfl) (fun w hc he => ?_)
  rw [show stS b n (s 3) X = stW b n (skS b n (s 3) + 1) X by unfold stS; (repeat (first | rw [if_pos (by omega)] | rw [if_neg (by omega)]))] at he
  refine j_aload_n hc dX11_statement_0 rfl ?_
  refine j_callV (d' := d - 1) hc dX11_statement_1 vX11_135 hS.1 (ev_X11_look (by omega) hS hT (by omega) (by omega)) rfl (by omega) (by omega) (by omega) rfl rfl (Nat.le_of_ble_eq_true rfl) (retE fun zv1 zq1 zp1 => ?_)
  obtain ⟨zv7, zS7, zF7⟩ := zp1
  subst zv7
  rw [hch]
  refine j_istore_n (L' := [_, _, _, _, _, _, _]) hc dX11_statement_4 (Nat.le_of_ble_eq_true rfl) rfl ?_
  refine j_iload_n hc dX11_statement_5 rfl ?_
  refine j_bipush hc dX11_statement_6 (by decide) ?_
  refine j_icmp_ne (tgt := 22) hc dX11_statement_8 (by decide) ⟨by omega, by omega⟩ ⟨by omega, by omega⟩ (fun zc1 => ?_) (fun zc1 => ?_)
  · exact absurd rfl zc1
  · refine j_aload_n hc dX11_statement_11 rfl ?_
    refine j_get hc dX11_statement_12 fX11_22 zS7.1 rfl ?_
    refine j_iload_n hc dX11_statement_15 rfl ?_
    refine j_iald hc dX11_statement_16 zS7.2.2.2.2.2.1 (by omega) (by omega) ?_
    rw [x9]
    refine j_bipush hc dX11_statement_17 (by decide) ?_
    refine j_icmp_lt (tgt := 46) hc dX11_statement_19 (by decide) ⟨by omega, by omega⟩ ⟨by omega, by omega⟩ (fun zc2 => ?_) (fun zc2 => ?_)
    · refine j_iconst hc dX11_statement_46 ?_
      refine j_goto (tgt := 51) hc dX11_statement_47 (by decide) ?_
      refine j_istore_n (L' := [_, _, _, _, _, _, _]) hc dX11_statement_51 (Nat.le_of_ble_eq_true rfl) rfl ?_
      refine j_iload_n hc dX11_statement_52 rfl ?_
      refine j_if_ne (b := 0) (tgt := 61) hc dX11_statement_53 (by decide) ⟨by omega, by omega⟩ (fun zc3 => ?_) (fun zc3 => ?_)
      · refine j_aload_n hc dX11_statement_61 rfl ?_
        refine j_dup hc dX11_statement_62 rfl ?_
        refine j_get hc dX11_statement_63 fX11_125 zS7.1 rfl ?_
        rw [fu_same]
        refine j_iconst hc dX11_statement_66 ?_
        refine j_iadd hc dX11_statement_67 ?_
        refine j_put  hc dX11_statement_68 pX11_125 zS7.1 rfl mset_3 ?_
        generalize ezh1 : up _ _ _ = zh1
        have zzmod_zh1 := MdS.pf ezh1 zS7
        refine j_iload_n hc dX11_statement_71 rfl ?_
        refine j_bipush hc dX11_statement_72 (by decide) ?_
        refine j_icmp_ne (tgt := 143) hc dX11_statement_74 (by decide) ⟨by omega, by omega⟩ ⟨by omega, by omega⟩ (fun zc4 => ?_) (fun zc4 => ?_)
        · exact absurd rfl zc4
        · refine j_aload_n hc dX11_statement_77 rfl ?_
          refine j_iconst hc dX11_statement_78 ?_
          refine j_bipush hc dX11_statement_79 (by decide) ?_
          refine j_iconst hc dX11_statement_81 ?_
          refine j_iconst hc dX11_statement_82 ?_
          refine j_callV (d' := d - 1) hc dX11_statement_83 vX11_149 zzmod_zh1.1 (ev_X11_number (l := -1) (by omega) zzmod_zh1 (((SmR.rf s).f3.f3).rd hT) ⟨by omega, by omega⟩ ⟨by omega, by omega⟩ (by omega) ⟨by omega, by omega⟩ (Or.inl rfl) (by show 0 ≤ (skS b n (s 3) + 1); omega) (by show (skS b n (s 3) + 1) ≤ n; omega) (by show s 4 = -1; exact h4)) rfl (by omega) (by omega) (by omega) rfl rfl (Nat.le_of_ble_eq_true rfl) (retE fun zv83 zq83 zp83 => ?_)
          obtain ⟨x1, i1, w1, u1, zv1, zN1, zi1, zw1, zS1, z31, z41, zm1, zF1⟩ := zp83
          subst zv1
          have zH1 := stW_w1 (i := (skS b n (s 3) + 1)) hsw (by omega) (by omega) zN1
          by_cases zq1 : w1 ≠ -1
          · exact tw_1 (v4 := 0) (by omega) hl0 hl6 ⟨by have := zN1.1; omega, by have := zN1.1; omega⟩ zS1 (by rw [z41]; exact zq1) hn.2 (((SmR.rf s).f3.f3).tr zm1) (AgL.rf A l) (Fr.tr ((by rw [← ezh1]; exact Fr.push (Fr.tr (Fr.rf _ _) (zF7.mono fun z zz => Or.inl zz)) (by first | exact Or.inl rfl | exact Or.inr (by decide)))) (zF1.mono fun z zz => Or.inl zz)) ⟨by omega, by omega⟩ ⟨by omega, by omega⟩ (fun _ => ⟨fun _ => z41.trans (zH1.1 zq1).symm, fun z => absurd ((zH1.1 zq1).symm.trans z) zq1⟩) hc he
          obtain ⟨y1, y2, y3, y4, y5, y6, y7⟩ := zH1.2 (by omega)
          have zw1m : w1 = -1 := by omega
          refine j_istore (L' := [_, _, _, _, _, _, _]) hc dX11_statement_86 (Nat.le_of_ble_eq_true rfl) rfl ?_
          refine j_aload_n hc dX11_statement_88 rfl ?_
          refine j_iconst hc dX11_statement_89 ?_
          refine j_bipush hc dX11_statement_90 (by decide) ?_
          refine j_iconst hc dX11_statement_92 ?_
          refine j_iconst hc dX11_statement_93 ?_
          refine j_callV (d' := d - 1) hc dX11_statement_94 vX11_149 zS1.1 (ev_X11_number (l := -1) (by omega) zS1 ((((SmR.rf s).f3.f3).tr zm1).rd hT) ⟨by omega, by omega⟩ ⟨by omega, by omega⟩ (by omega) ⟨by omega, by omega⟩ (Or.inl rfl) (by rw [z31]; omega) (by rw [z31]; omega) (by rw [z41]; exact zw1m)) rfl (by omega) (by omega) (by omega) rfl rfl (Nat.le_of_ble_eq_true rfl) (retE fun zv94 zq94 zp94 => ?_)
          obtain ⟨x2, i2, w2, u2, zv2, zN2, zi2, zw2, zS2, z32, z42, zm2, zF2⟩ := zp94
          subst zv2
          rw [z31, y3] at zN2
          have zH2 := stW_w2 (i := (skS b n (s 3) + 1)) (X := X) hsw y1 y6 y7 zN2
          by_cases zq2 : w2 ≠ -1
          · exact tw_2 (z4 := none) (by omega) hl0 hl6 ⟨by have := zN2.1; omega, by have := zN2.1; omega⟩ zS2 (by rw [z42]; exact zq2) hn.2 ((((SmR.rf s).f3.f3).tr zm1).tr zm2) (AgL.rf A l) (Fr.tr (Fr.tr ((by rw [← ezh1]; exact Fr.push (Fr.tr (Fr.rf _ _) (zF7.mono fun z zz => Or.inl zz)) (by first | exact Or.inl rfl | exact Or.inr (by decide)))) (zF1.mono fun z zz => Or.inl zz)) (zF2.mono fun z zz => Or.inl zz)) ⟨by omega, by omega⟩ ⟨by omega, by omega⟩ (fun _ => by rcases zH2.1 zq2 with ⟨e1, e2⟩ | ⟨e1, e2, e3⟩; (· exact ⟨fun _ => z42.trans e1.symm, fun z => absurd z e2⟩); exact ⟨fun z => absurd e1 z, fun _ => Or.inr ⟨z42.trans e2, e3⟩⟩) hc he
          obtain ⟨v1, v2, v3, v4, v5, v6, v7, v8⟩ := zH2.2 (by omega)
          have zw2m : w2 = -1 := by omega
          rw [v8] at he
          subst y2
          subst v2
          refine j_istore (L' := [_, _, _, _, _, _, _]) hc dX11_statement_97 (Nat.le_of_ble_eq_true rfl) rfl ?_
          refine j_aload_n hc dX11_statement_99 rfl ?_
          refine j_get hc dX11_statement_100 fX11_22 zS2.1 rfl ?_
          refine j_iload_n hc dX11_statement_103 rfl ?_
          refine j_dup2 hc dX11_statement_104 rfl rfl ?_
          refine j_iald hc dX11_statement_105 zS2.2.2.2.2.2.1 (by omega) (by omega) ?_
          rw [x9]
          refine j_iconst hc dX11_statement_106 ?_
          refine j_iadd hc dX11_statement_107 ?_
          refine j_iast hc dX11_statement_108 zS2.2.2.2.2.2.1 (by omega) (by omega) ?_
          generalize ezh2 : up _ _ _ = zh2
          have zzmod_zh2 := MdS.pa_9 ezh2 zS2
          refine j_iconst hc dX11_statement_109 ?_
          refine j_istore (L' := [_, _, _, _, _, _, _]) hc dX11_statement_110 (Nat.le_of_ble_eq_true rfl) rfl ?_
          exact lp_X11_statement_w (s2 := u2) (p := (nuS b n (skS b n (s 3) + 1) 1 99).2.2) (q := (nuS b n (nuS b n (skS b n (s 3) + 1) 1 99).2.1 1 9).2.2) (by omega) hl0 hl6 hX hsw (by omega) (by omega) (by omega) (by omega) ((((SmR.rf s).f3.f3).tr zm1).tr zm2) (z32.trans v3) ⟨by omega, by omega⟩ (z42.trans zw2m) (by omega) hc he _ 0 (fuA A 9 (fu (A 9) l (xSw X + 1))) _ rfl (by omega) (by omega) ⟨x6, x8.trans (Int.add_zero _).symm, fu_same _ _ _, x13, x14, x15, x12, fun z z0 z1 => by show PaQ (fu (xCn X) _ (xCn X _ + 0)) _ z; rw [Int.add_zero, fu_self]; exact xpa z z0 (by have z1' : z < xEa X + 0 := z1; omega)⟩ (AgL.f9 A l _) zzmod_zh2 ((by rw [← ezh2]; exact Fr.push (Fr.tr (Fr.tr ((by rw [← ezh1]; exact Fr.push (Fr.tr (Fr.rf _ _) (zF7.mono fun z zz => Or.inl zz)) (by first | exact Or.inl rfl | exact Or.inr (by decide)))) (zF1.mono fun z zz => Or.inl zz)) (zF2.mono fun z zz => Or.inl zz)) (by first | exact Or.inl rfl | exact Or.inr (by decide))))
      · exact absurd zc3 (by decide)
    · exact absurd zc2 (by omega)
theorem ev_X11_statement {k : WC} {d : Nat} {h : AH} {s : Int → Int} {A : MAs} {b : Int → Int} {n : Int} {l : Int} {X : DrS} (hd : 6 ≤ d) (hS : MdS h s A) (hT : RdM s A b n) (hl0 : 0 ≤ l) (hl6 : l ≤ 6) (hX : XOK X) (hD : DrM A l X) (h30 : 0 ≤ s 3) (h31 : s 3 ≤ n) (h4 : s 4 = -1) : Ev k d mdX11_statement h [vR (70, 0), vI l] 0 0 (StP s A b n l (stS b n (s 3) X) h) := by
  by_cases q1 : hrM b n (skS b n (s 3)) = 119
  · by_cases q2 : xSw X < 20
    · exact ev_X11_statement_w hd hS hT hl0 hl6 hX hD h30 h31 h4 q1 q2
    · exact ev_X11_statement_n hd hS hT hl0 hl6 hX hD h30 h31 h4 (Or.inr ⟨q1, by omega⟩)
  by_cases q2 : hrM b n (skS b n (s 3)) = 104
  · exact ev_X11_statement_h hd hS hT hl0 hl6 hX hD h30 h31 h4 q2
  by_cases q3 : hrM b n (skS b n (s 3)) = 99
  · exact ev_X11_statement_c hd hS hT hl0 hl6 hX hD h30 h31 h4 q3
  by_cases q4 : hrM b n (skS b n (s 3)) = 109
  · exact ev_X11_statement_m hd hS hT hl0 hl6 hX hD h30 h31 h4 q4
  by_cases q5 : hrM b n (skS b n (s 3)) = 114
  · exact ev_X11_statement_r hd hS hT hl0 hl6 hX hD h30 h31 h4 q5
  exact ev_X11_statement_n hd hS hT hl0 hl6 hX hD h30 h31 h4 (Or.inl ⟨q1, q2, q3, q4, q5⟩)
