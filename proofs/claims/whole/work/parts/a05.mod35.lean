/-! ===== the reference reads a land: h ===== -/
set_option maxRecDepth 100000 in
set_option maxHeartbeats 4000000 in
theorem ev_X11_statement_h {k : WC} {d : Nat} {h : AH} {s : Int → Int} {A : MAs} {b : Int → Int} {n : Int} {l : Int} {X : DrS} (hd : 6 ≤ d) (hS : MdS h s A) (hT : RdM s A b n) (hl0 : 0 ≤ l) (hl6 : l ≤ 6) (hX : XOK X) (hD : DrM A l X) (h30 : 0 ≤ s 3) (h31 : s 3 ≤ n) (h4 : s 4 = -1) (hch : hrM b n (skS b n (s 3)) = 104) : Ev k d mdX11_statement h [vR (70, 0), vI l] 0 0 (StP s A b n l (stS b n (s 3) X) h) := by
  have hn := hT.2.1
  obtain ⟨s1, s2, s3⟩ := skS_b b n (s 3)
  have s2 := s2 h31
  have zs1 := hrM_S hT (show 0 ≤ skS b n (s 3) by omega)
  obtain ⟨x6, x8, x9, x13, x14, x15, x12, xpa⟩ := id hD
  have hse1 := hX.1
  have hse4 := hX.2.1
  have zc : hrS b n (skS b n (s 3)) = 104 := by omega
  refine Ev.mk (by decide +kernel) [_, _, _, _, _, _, _] rfl (Nat.le_of_ble_eq_true rfl) (fun w hc he => ?_)
  rw [show stS b n (s 3) X = stH b n (skS b n (s 3) + 1) X by unfold stS; (repeat (first | rw [if_pos (by omega)] | rw [if_neg (by omega)]))] at he
  refine j_aload_n hc dX11_statement_0 rfl ?_
  refine j_callV (d' := d - 1) hc dX11_statement_1 vX11_135 hS.1 (ev_X11_look (by omega) hS hT (by omega) (by omega)) rfl (by omega) (by omega) (by omega) rfl rfl (Nat.le_of_ble_eq_true rfl) (retE fun zv1 zq1 zp1 => ?_)
  obtain ⟨zv7, zS7, zF7⟩ := zp1
  subst zv7
  rw [hch]
  refine j_istore_n (L' := [_, _, _, _, _, _, _]) hc dX11_statement_4 (Nat.le_of_ble_eq_true rfl) rfl ?_
  refine j_iload_n hc dX11_statement_5 rfl ?_
  refine j_bipush hc dX11_statement_6 (by decide) ?_
  refine j_icmp_ne (tgt := 22) hc dX11_statement_8 (by decide) ⟨by omega, by omega⟩ ⟨by omega, by omega⟩ (fun zc1 => ?_) (fun zc1 => ?_)
  · refine j_iload_n hc dX11_statement_22 rfl ?_
    refine j_bipush hc dX11_statement_23 (by decide) ?_
    refine j_icmp_eq (tgt := 46) hc dX11_statement_25 (by decide) ⟨by omega, by omega⟩ ⟨by omega, by omega⟩ (fun zc2 => ?_) (fun zc2 => ?_)
    · refine j_iconst hc dX11_statement_46 ?_
      refine j_goto (tgt := 51) hc dX11_statement_47 (by decide) ?_
      refine j_istore_n (L' := [_, _, _, _, _, _, _]) hc dX11_statement_51 (Nat.le_of_ble_eq_true rfl) rfl ?_
      refine j_iload_n hc dX11_statement_52 rfl ?_
      refine j_if_ne (b := 0) (tgt := 61) hc dX11_statement_53 (by decide) ⟨by omega, by omega⟩ (fun zc3 => ?_) (fun zc3 => ?_)
      · refine j_aload_n hc dX11_statement_61 rfl ?_
        refine j_dup hc dX11_statement_62 rfl ?_
        refine j_get hc dX11_statement_63 fX11_125 zS7.1 rfl ?_
        rw [fu_same]
        refine j_iconst hc dX11_statement_66 ?_
        refine j_iadd hc dX11_statement_67 ?_
        refine j_put  hc dX11_statement_68 pX11_125 zS7.1 rfl mset_3 ?_
        generalize ezh1 : up _ _ _ = zh1
        have zzmod_zh1 := MdS.pf ezh1 zS7
        refine j_iload_n hc dX11_statement_71 rfl ?_
        refine j_bipush hc dX11_statement_72 (by decide) ?_
        refine j_icmp_ne (tgt := 143) hc dX11_statement_74 (by decide) ⟨by omega, by omega⟩ ⟨by omega, by omega⟩ (fun zc4 => ?_) (fun zc4 => ?_)
        · refine j_iload_n hc dX11_statement_143 rfl ?_
          refine j_bipush hc dX11_statement_144 (by decide) ?_
          refine j_icmp_ne (tgt := 235) hc dX11_statement_146 (by decide) ⟨by omega, by omega⟩ ⟨by omega, by omega⟩ (fun zc5 => ?_) (fun zc5 => ?_)
          · exact absurd rfl zc5
          · refine j_aload_n hc dX11_statement_149 rfl ?_
            refine j_iconst hc dX11_statement_150 ?_
            refine j_aload_n hc dX11_statement_151 rfl ?_
            refine j_get hc dX11_statement_152 fX11_13 zzmod_zh1.1 rfl ?_
            refine j_iload_n hc dX11_statement_155 rfl ?_
            refine j_iald hc dX11_statement_156 zzmod_zh1.2.2.1 (by omega) (by omega) ?_
            rw [x6]
            refine j_iconst hc dX11_statement_157 ?_
            refine j_isub hc dX11_statement_158 ?_
            refine j_iload_n hc dX11_statement_159 rfl ?_
            refine j_iconst hc dX11_statement_160 ?_
            refine j_callV (d' := d - 1) hc dX11_statement_161 vX11_149 zzmod_zh1.1 (ev_X11_number (l := l) (by omega) zzmod_zh1 (((SmR.rf s).f3.f3).rd hT) ⟨by omega, by omega⟩ ⟨by omega, by omega⟩ (by omega) ⟨by omega, by omega⟩ (Or.inr ⟨hl0, hl6, rfl, by omega, fun q q0 q1 => by rw [(x12 q q0 (by omega)).1]; have := hX.2.2.2.2.2.2.2.2.2.2.2.2.2.2.2 q q0 (by omega); exact ⟨by omega, by omega⟩⟩) (by show 0 ≤ (skS b n (s 3) + 1); omega) (by show (skS b n (s 3) + 1) ≤ n; omega) (by show s 4 = -1; exact h4)) rfl (by omega) (by omega) (by omega) rfl rfl (Nat.le_of_ble_eq_true rfl) (retE fun zv161 zq161 zp161 => ?_)
            obtain ⟨x1, i1, w1, u1, zv1, zN1, zi1, zw1, zS1, z31, z41, zm1, zF1⟩ := zp161
            subst zv1
            have zH1 := stH_w1 (i := (skS b n (s 3) + 1)) hX hl0 (fun q q0 q1 => (x12 q q0 q1).1) (by omega) (by omega) zN1
            by_cases zq1 : w1 ≠ -1
            · exact th_1 (v4 := 0) (v5 := 0) (by omega) zS1 (by rw [z41]; exact zq1) hn.2 (((SmR.rf s).f3.f3).tr zm1) (AgL.rf A l) (Fr.tr ((by rw [← ezh1]; exact Fr.push (Fr.tr (Fr.rf _ _) (zF7.mono fun z zz => Or.inl zz)) (by first | exact Or.inl rfl | exact Or.inr (by decide)))) (zF1.mono fun z zz => Or.inl zz)) ⟨by omega, by omega⟩ ⟨by omega, by omega⟩ ⟨fun _ => z41.trans (zH1.1 zq1).symm, fun z => absurd ((zH1.1 zq1).symm.trans z) zq1⟩ hc he
            obtain ⟨y1, y2, y3, y4, y5, y6, y7, y8⟩ := zH1.2 (by omega)
            have zw1m : w1 = -1 := by omega
            refine j_istore (L' := [_, _, _, _, _, _, _]) hc dX11_statement_164 (Nat.le_of_ble_eq_true rfl) rfl ?_
            refine j_aload_n hc dX11_statement_166 rfl ?_
            refine j_iconst hc dX11_statement_167 ?_
            refine j_bipush hc dX11_statement_168 (by decide) ?_
            refine j_iconst hc dX11_statement_170 ?_
            refine j_iconst hc dX11_statement_171 ?_
            refine j_callV (d' := d - 1) hc dX11_statement_172 vX11_149 zS1.1 (ev_X11_number (l := -1) (by omega) zS1 ((((SmR.rf s).f3.f3).tr zm1).rd hT) ⟨by omega, by omega⟩ ⟨by omega, by omega⟩ (by omega) ⟨by omega, by omega⟩ (Or.inl rfl) (by rw [z31]; omega) (by rw [z31]; omega) (by rw [z41]; exact zw1m)) rfl (by omega) (by omega) (by omega) rfl rfl (Nat.le_of_ble_eq_true rfl) (retE fun zv172 zq172 zp172 => ?_)
            obtain ⟨x2, i2, w2, u2, zv2, zN2, zi2, zw2, zS2, z32, z42, zm2, zF2⟩ := zp172
            subst zv2
            rw [z31, y3] at zN2
            have zH2 := stH_w2 (i := (skS b n (s 3) + 1)) (X := X) y1 y4 y7 y8 zN2
            by_cases zq2 : w2 ≠ -1
            · exact th_2 (v5 := 0) (z4 := none) (by omega) zS2 (by rw [z42]; exact zq2) hn.2 ((((SmR.rf s).f3.f3).tr zm1).tr zm2) (AgL.rf A l) (Fr.tr (Fr.tr ((by rw [← ezh1]; exact Fr.push (Fr.tr (Fr.rf _ _) (zF7.mono fun z zz => Or.inl zz)) (by first | exact Or.inl rfl | exact Or.inr (by decide)))) (zF1.mono fun z zz => Or.inl zz)) (zF2.mono fun z zz => Or.inl zz)) ⟨by omega, by omega⟩ ⟨by omega, by omega⟩ ⟨fun _ => z42.trans (zH2.1 zq2).symm, fun z => absurd ((zH2.1 zq2).symm.trans z) zq2⟩ hc he
            obtain ⟨v1, v2, v3, v4, v5⟩ := zH2.2 (by omega)
            have zw2m : w2 = -1 := by omega
            have zwq := hX.2.2.2.2.2.2.2.2.2.2.2.2.2.2.2 x1 (by omega) (by omega)
            refine j_istore (L' := [_, _, _, _, _, _, _]) hc dX11_statement_175 (Nat.le_of_ble_eq_true rfl) rfl ?_
            refine j_aload_n hc dX11_statement_177 rfl ?_
            refine j_iconst hc dX11_statement_178 ?_
            refine j_bipush hc dX11_statement_179 (by decide) ?_
            refine j_bipush hc dX11_statement_181 (by decide) ?_
            refine j_aload_n hc dX11_statement_183 rfl ?_
            refine j_get hc dX11_statement_184 fX11_132 zS2.1 rfl ?_
            refine j_iconst hc dX11_statement_187 ?_
            refine j_icmp_ne (tgt := 201) hc dX11_statement_188 (by decide) (by rw [z42, zw2m]; exact ⟨by omega, by omega⟩) ⟨by omega, by omega⟩ (fun zc6 => ?_) (fun zc6 => ?_)
            · exact absurd (z42.trans zw2m) zc6
            · refine j_aload_n hc dX11_statement_191 rfl ?_
              refine j_iload_n hc dX11_statement_192 rfl ?_
              refine j_iload hc dX11_statement_193 rfl ?_
              refine j_callV (d' := d - 1) hc dX11_statement_195 vX11_165 zS2.1 (ev_X11_weightOf_d (by omega) zS2 hl0 hl6 (by omega) (by omega) hX hD) rfl (by omega) (by omega) (by omega) rfl rfl (Nat.le_of_ble_eq_true rfl) (ret1 ?_)
              refine j_goto (tgt := 202) hc dX11_statement_198 (by decide) ?_
              refine j_isub hc dX11_statement_202 ?_
              refine j_mmin hc dX11_statement_203 mX11_169 mo_min ⟨by omega, by omega⟩ ⟨by omega, by omega⟩ (by omega) (by omega) rfl (by omega) (Nat.le_of_ble_eq_true rfl) ?_
              refine j_iconst hc dX11_statement_206 ?_
              refine j_iconst hc dX11_statement_207 ?_
              refine j_callV (d' := d - 1) hc dX11_statement_208 vX11_149 zS2.1 (ev_X11_number (l := -1) (by omega) zS2 (((((SmR.rf s).f3.f3).tr zm1).tr zm2).rd hT) ⟨by omega, by omega⟩ ⟨by omega, by omega⟩ (by omega) ⟨by omega, by omega⟩ (Or.inl rfl) (by rw [z32]; omega) (by rw [z32]; omega) (by rw [z42]; exact zw2m)) rfl (by omega) (by omega) (by omega) rfl rfl (Nat.le_of_ble_eq_true rfl) (retE fun zv208 zq208 zp208 => ?_)
              obtain ⟨x3, i3, w3, u3, zv3, zN3, zi3, zw3, zS3, z33, z43, zm3, zF3⟩ := zp208
              subst zv3
              rw [z32, v3, y2] at zN3
              have zH3 := stH_w3 (i := (skS b n (s 3) + 1)) (X := X) y1 y4 v1 v4 v5 zN3
              by_cases zq3 : w3 ≠ -1
              · exact th_3 (z4 := none) (z5 := none) (by omega) zS3 (by rw [z43]; exact zq3) hn.2 (((((SmR.rf s).f3.f3).tr zm1).tr zm2).tr zm3) (AgL.rf A l) (Fr.tr (Fr.tr (Fr.tr ((by rw [← ezh1]; exact Fr.push (Fr.tr (Fr.rf _ _) (zF7.mono fun z zz => Or.inl zz)) (by first | exact Or.inl rfl | exact Or.inr (by decide)))) (zF1.mono fun z zz => Or.inl zz)) (zF2.mono fun z zz => Or.inl zz)) (zF3.mono fun z zz => Or.inl zz)) ⟨by omega, by omega⟩ ⟨by omega, by omega⟩ (by rcases zH3.1 zq3 with ⟨e1, e2⟩ | ⟨e1, e2, e3⟩; (· exact ⟨fun _ => z43.trans e1.symm, fun z => absurd z e2⟩); exact ⟨fun z => absurd e1 z, fun _ => Or.inr ⟨z43.trans e2, e3⟩⟩) hc he
              obtain ⟨t1, t2, t3, t4, t5, t6⟩ := zH3.2 (by omega)
              have zw3m : w3 = -1 := by omega
              refine j_istore (L' := [_, _, _, _, _, _, _]) hc dX11_statement_211 (Nat.le_of_ble_eq_true rfl) rfl ?_
              refine j_aload_n hc dX11_statement_213 rfl ?_
              refine j_get hc dX11_statement_214 fX11_132 zS3.1 rfl ?_
              refine j_iconst hc dX11_statement_217 ?_
              refine j_icmp_ne (tgt := 232) hc dX11_statement_218 (by decide) (by rw [z43, zw3m]; exact ⟨by omega, by omega⟩) ⟨by omega, by omega⟩ (fun zc7 => ?_) (fun zc7 => ?_)
              · exact absurd (z43.trans zw3m) zc7
              · refine j_aload_n hc dX11_statement_221 rfl ?_
                refine j_iload_n hc dX11_statement_222 rfl ?_
                refine j_iload hc dX11_statement_223 rfl ?_
                refine j_iload hc dX11_statement_225 rfl ?_
                refine j_iload hc dX11_statement_227 rfl ?_
                refine j_callV (d' := d - 1) hc dX11_statement_229 vX11_157 zS3.1 (ev_X11_addHarvest (mk := xHv X x1) (by omega) zS3 hl0 hl6 (by omega) (by omega) ((x12 x1 (by omega) (by omega)).1) (by omega) (by rw [y2]; omega)) rfl (by omega) (by omega) (by omega) rfl rfl (Nat.le_of_ble_eq_true rfl) (retN fun zq229 zp229 => ?_)
                obtain ⟨zS9, zF9⟩ := zp229
                refine j_goto (tgt := 298) hc dX11_statement_232 (by decide) ?_
                exact j_vret hc he dX11_statement_298 rfl (by omega) (by omega) ⟨rfl, _, _, zS9, (((((SmR.rf s).f3.f3).tr zm1).tr zm2).tr zm3), AgL.fh A l _ _ _ _ (by omega) (by omega) (by omega) (by rw [y2]; omega), Fr.tr (Fr.tr (Fr.tr (Fr.tr ((by rw [← ezh1]; exact Fr.push (Fr.tr (Fr.rf _ _) (zF7.mono fun z zz => Or.inl zz)) (by first | exact Or.inl rfl | exact Or.inr (by decide)))) (zF1.mono fun z zz => Or.inl zz)) (zF2.mono fun z zz => Or.inl zz)) (zF3.mono fun z zz => Or.inl zz)) (zF9.mono fun z zz => Or.inr (by rcases zz with zz | zz | zz <;> (rw [zz]; decide))), ⟨by omega, by omega⟩, ⟨by omega, by omega⟩, (by rw [t6]; exact ⟨fun z => absurd rfl z, fun _ => Or.inl ⟨z43.trans zw3m, z33.trans t3, by show DrM _ l (xAdd X (nuS b n (skS b n (s 3) + 1) 0 (xSe X - 1)).2.2 (nuS b n (nuS b n (skS b n (s 3) + 1) 0 (xSe X - 1)).2.1 0 20).2.2 (nuS b n (nuS b n (nuS b n (skS b n (s 3) + 1) 0 (xSe X - 1)).2.1 0 20).2.1 1 (min 9 (12 - xWs X (nuS b n (skS b n (s 3) + 1) 0 (xSe X - 1)).2.2))).2.2); rw [← y2, ← v2]; rw [← y2] at t2; rw [← t2]; exact DrM.add hX hD (by omega) (by omega) rfl (by rw [y2]; omega)⟩⟩)⟩
        · exact absurd zc4 (by decide)
      · exact absurd zc3 (by decide)
    · exact absurd rfl zc2
  · exact absurd zc1 (by decide)
