/-! ===== the reference reads a rule: a clause ===== -/
theorem mt_co0 {k : WC} (b : Int → Int) (n : Int) {r : Int} (hr0 : 0 ≤ r) (hr6 : r ≤ 6) : NtM k mdX11_condition [vI 0] b n r 0 104 (fun i => coG b n (unK b n 6) (unK b n 6 i)) := by
  have h1 := mt_unK (k := k) b n hr0 hr6 6 0 rfl (by omega)
  have h2 := mt_X11_truth hr0 hr6 (unK_b b n 6) h1 (unK_b b n 6) h1
  exact mt_X11_condition hr0 hr6 (fun i i0 i1 => trG_b (unK_b b n 6) i0 (unK_b b n 6 i i0 i1)) h2 (fun i i0 i1 => trG_b (unK_b b n 6) i0 (unK_b b n 6 i i0 i1)) h2
theorem mt_co1 {k : WC} (b : Int → Int) (n : Int) {r : Int} (hr0 : 0 ≤ r) (hr6 : r ≤ 6) : NtM k mdX11_condition [vI 1] b n r 0 104 (fun i => coG b n (unK b n 6) (cmG b n (smK b n 6) i)) := by
  have h1 := mt_unK (k := k) b n hr0 hr6 6 0 rfl (by omega)
  have h0 := mt_unit1 hr0 hr6 (smK_b b n 6) (mt_smK (k := k) b n hr0 hr6 6 0 rfl (by omega))
  have h2 := mt_X11_truth hr0 hr6 (unK_b b n 6) h1 (unK_b b n 6) h1
  have h3 := mt_X11_truth hr0 hr6 (cmG_b (smK_b b n 6)) h0 (unK_b b n 6) h1
  exact mt_X11_condition hr0 hr6 (fun i i0 i1 => trG_b (unK_b b n 6) i0 (cmG_b (smK_b b n 6) i i0 i1)) h3 (fun i i0 i1 => trG_b (unK_b b n 6) i0 (unK_b b n 6 i i0 i1)) h2
set_option maxRecDepth 100000 in
set_option maxHeartbeats 4000000 in
theorem cl_128 {k : WC} {d : Nat} {w : MC} {h0 h : AH} {s s2 g2 s9 : Int → Int} {A A1 : MAs} {b : Int → Int} {n : Int} {r c : Int} {R : RC} {i3 : Int} {z2 z3 : Option AV} (hr0 : 0 ≤ r) (hr6 : r ≤ 6) (hc0 : 0 ≤ c) (hc1 : c < 64) (hT : RdM s A b n) (h290 : 0 ≤ s 29) (hd : 110 ≤ d) (h28 : s 28 = r) (h29 : 2 * s 29 ≤ 3 * s 3) (h50 : s 5 = 0) (h30 : 0 ≤ s 3) (h31 : s 3 + 2 ≤ i3) (hi3 : i3 ≤ n) (hR : R = rcT (smK b n 6 (skS b n i3)) fun j t => if isCm (hrS b n (skS b n j)) then rcT (coG b n (unK b n 6) (cmG b n (smK b n 6) (skS b n j))) fun j' u => giG b n (t ++ u) j' else (-1, skS b n j, [], t)) (hQ : Cq A A1 r c (s 29)) (hG : (smK b n 6 (skS b n i3)).1 = -1 → Gs s (A 23) r (smK b n 6 (skS b n i3)).2.1 (trL (smK b n 6 (skS b n i3)).2.2) s2 g2) (hB : (smK b n 6 (skS b n i3)).1 ≠ -1 → Bs s (A 23) r (smK b n 6 (skS b n i3)).1 s2 g2) (hy2 : (smK b n 6 (skS b n i3)).1 = -1 → 2 * s2 29 ≤ 2 * s9 29 + 3 * ((smK b n 6 (skS b n i3)).2.1 - skS b n i3) + 1) (h2b : 2 * s2 29 ≤ 2 * s9 29 + 3 * (n - skS b n i3) + 1) (h5 : s2 5 = s 5) (hs1 : s9 29 = s 29) (hS : MdS h s2 (fuA A1 23 g2)) (hF : Fr isRq h0 h) (hc : Cx w k d 0 0 mdX11_clause) (he : Ends w 0 0 (ClP s A r c R h0)) : J w 0 0 128 [some (vR (70, 0)), some (vI (64 * r + c)), z2, z3] [] h := by
  have hn := hT.2.1
  obtain ⟨p1, p2, p3⟩ := skS_b b n i3
  have p2 := p2 hi3
  have zbX : RpB n (skS b n i3) (smK b n 6 (skS b n i3)) := smK_b b n 6 _ (by omega) (by omega)
  by_cases zf : (smK b n 6 (skS b n i3)).1 ≠ -1
  · have zB := hB zf
    refine j_aload_n hc dX11_clause_128 rfl ?_
    refine j_get hc dX11_clause_129 fX11_132 hS.1 rfl ?_
    refine j_iconst hc dX11_clause_132 ?_
    refine j_icmp_ne (tgt := 143) hc dX11_clause_133 (by decide) (by rw [zB.2.1]; exact ⟨by have := zbX.1; omega, by have := zbX.2.1; omega⟩) ⟨by omega, by omega⟩ (fun zc1 => ?_) (fun zc1 => ?_)
    · refine j_iconst hc dX11_clause_143 ?_
      refine j_istore_n (L' := [_, _, _, _]) hc dX11_clause_144 (Nat.le_of_ble_eq_true rfl) rfl ?_
      refine j_iload_n hc dX11_clause_145 rfl ?_
      refine j_bipush hc dX11_clause_146 (by decide) ?_
      refine j_icmp_eq (tgt := 163) hc dX11_clause_148 (by decide) ⟨by omega, by omega⟩ ⟨by omega, by omega⟩ (fun zc2 => ?_) (fun zc2 => ?_)
      · exact absurd zc2 (by decide)
      · refine j_iload_n hc dX11_clause_151 rfl ?_
        refine j_bipush hc dX11_clause_152 (by decide) ?_
        refine j_icmp_eq (tgt := 163) hc dX11_clause_154 (by decide) ⟨by omega, by omega⟩ ⟨by omega, by omega⟩ (fun zc3 => ?_) (fun zc3 => ?_)
        · exact absurd zc3 (by decide)
        · refine j_iload_n hc dX11_clause_157 rfl ?_
          refine j_bipush hc dX11_clause_158 (by decide) ?_
          refine j_icmp_ne (tgt := 167) hc dX11_clause_160 (by decide) ⟨by omega, by omega⟩ ⟨by omega, by omega⟩ (fun zc4 => ?_) (fun zc4 => ?_)
          · refine j_iconst hc dX11_clause_167 ?_
            refine j_istore_n (L' := [_, _, _, _]) hc dX11_clause_168 (Nat.le_of_ble_eq_true rfl) rfl ?_
            refine j_iload_n hc dX11_clause_169 rfl ?_
            refine j_if_eq (b := 0) (tgt := 178) hc dX11_clause_170 (by decide) ⟨by omega, by omega⟩ (fun zc5 => ?_) (fun zc5 => ?_)
            · exact cl_bad (b := b) (n := n) hr0 hr6 hc0 hc1 hT h290 hQ zB ⟨by have := zbX.1; omega, by have := zbX.2.1; omega⟩ (by rw [hR, rcT_no zf]; rfl) h5 hS (hF) hc he
            · exact absurd rfl zc5
          · exact absurd zc4 (by decide)
    · exact absurd (zB.2.1.symm.trans zc1) zf
  · have zf : (smK b n 6 (skS b n i3)).1 = -1 := by omega
    have zG := hG zf
    have zx := zbX.2.2 zf
    have zyb := hy2 zf
    have z29 := zG.2.2.2.1
    obtain ⟨q1, q2, q3⟩ := skS_b b n (smK b n 6 (skS b n i3)).2.1
    have q2 := q2 (by omega)
    have zs1 := hrM_S hT (show 0 ≤ skS b n (smK b n 6 (skS b n i3)).2.1 by omega)
    have zs2 := hrM_b hT (show 0 ≤ skS b n (smK b n 6 (skS b n i3)).2.1 by omega)
    refine j_aload_n hc dX11_clause_128 rfl ?_
    refine j_get hc dX11_clause_129 fX11_132 hS.1 rfl ?_
    refine j_iconst hc dX11_clause_132 ?_
    refine j_icmp_ne (tgt := 143) hc dX11_clause_133 (by decide) (by rw [zG.2.1]; exact ⟨by omega, by omega⟩) ⟨by omega, by omega⟩ (fun zc1 => ?_) (fun zc1 => ?_)
    · exact absurd zG.2.1 zc1
    · refine j_aload_n hc dX11_clause_136 rfl ?_
      refine j_callV (d' := d - 1) hc dX11_clause_137 vX11_135 hS.1 (ev_X11_look (b := b) (n := n) (by omega) hS (SmE.rd zG.1 hT hQ.1.1.1) (by rw [zG.2.2.1]; omega) (by rw [zG.2.2.1]; omega)) rfl (by omega) (by omega) (by omega) rfl rfl (Nat.le_of_ble_eq_true rfl) (retE fun zv137 zq137 zp137 => ?_)
      obtain ⟨zv1, zS1, zF1⟩ := zp137
      subst zv1
      rw [zG.2.2.1]
      rw [zG.2.2.1] at zS1
      refine j_goto (tgt := 144) hc dX11_clause_140 (by decide) ?_
      refine j_istore_n (L' := [_, _, _, _]) hc dX11_clause_144 (Nat.le_of_ble_eq_true rfl) rfl ?_
      refine j_iload_n hc dX11_clause_145 rfl ?_
      refine j_bipush hc dX11_clause_146 (by decide) ?_
      refine j_icmp_eq (tgt := 163) hc dX11_clause_148 (by decide) ⟨by omega, by omega⟩ ⟨by omega, by omega⟩ (fun zc2 => ?_) (fun zc2 => ?_)
      · have zch : isCm (hrS b n (skS b n (smK b n 6 (skS b n i3)).2.1)) := by omega
        refine j_iconst hc dX11_clause_163 ?_
        refine j_goto (tgt := 168) hc dX11_clause_164 (by decide) ?_
        refine j_istore_n (L' := [_, _, _, _]) hc dX11_clause_168 (Nat.le_of_ble_eq_true rfl) rfl ?_
        refine j_iload_n hc dX11_clause_169 rfl ?_
        refine j_if_eq (b := 0) (tgt := 178) hc dX11_clause_170 (by decide) ⟨by omega, by omega⟩ (fun zc3 => ?_) (fun zc3 => ?_)
        · exact absurd zc3 (by decide)
        · refine j_aload_n hc dX11_clause_173 rfl ?_
          refine j_iconst hc dX11_clause_174 ?_
          refine j_callV (d' := d - 1) hc dX11_clause_175 vX11_208 zS1.1 (mt_co1 b n hr0 hr6 (d - 1) _ _ _ (by omega) zS1 (SmE.rd zG.1.f3 hT hQ.1.1.1) (by show 0 ≤ skS b n (smK b n 6 (skS b n i3)).2.1; omega) (by show skS b n (smK b n 6 (skS b n i3)).2.1 ≤ n; omega) (show s2 4 = -1 from zG.2.1) (by show s2 5 = 0; omega) (zG.1.f3.in_ h28) (by show 0 ≤ s2 29; omega) (by show 2 * s2 29 + 3 * (n - skS b n (smK b n 6 (skS b n i3)).2.1) ≤ 790; omega)) rfl (by omega) (by omega) (by omega) rfl rfl (Nat.le_of_ble_eq_true rfl) (retN fun zq175 zp175 => ?_)
          obtain ⟨s3, g3, ⟨z35, z3b, z3n, z3y⟩, zS3, zF3⟩ := zp175
          dsimp only at z3n z3y
          rw [fuA_at, fu_same] at z3n z3y
          rw [fuA_fuA] at zS3
          have z35 : s3 5 = s2 5 := z35
          have zbY : RpB n (skS b n (smK b n 6 (skS b n i3)).2.1) (coG b n (unK b n 6) (cmG b n (smK b n 6) (skS b n (smK b n 6 (skS b n i3)).2.1))) := coG_b (unK_b b n 6) (by omega) (cmG_b (smK_b b n 6) _ (by omega) (by omega))
          have zRR : R = rcT (coG b n (unK b n 6) (cmG b n (smK b n 6) (skS b n (smK b n 6 (skS b n i3)).2.1))) fun j' u => giG b n ((smK b n 6 (skS b n i3)).2.2 ++ u) j' := by rw [hR, rcT_ok zf]; exact if_pos zch
          by_cases zg : (coG b n (unK b n 6) (cmG b n (smK b n 6) (skS b n (smK b n 6 (skS b n i3)).2.1))).1 = -1
          · have zy := zbY.2.2 zg
            obtain ⟨zy1, zy2⟩ := z3y zg
            have zy2 : 2 * s3 29 ≤ 2 * s2 29 + 3 * ((coG b n (unK b n 6) (cmG b n (smK b n 6) (skS b n (smK b n 6 (skS b n i3)).2.1))).2.1 - skS b n (smK b n 6 (skS b n i3)).2.1) + 1 := zy2
            exact cl_e1 (j := (coG b n (unK b n 6) (cmG b n (smK b n 6) (skS b n (smK b n 6 (skS b n i3)).2.1))).2.1) (t := (smK b n 6 (skS b n i3)).2.2 ++ (coG b n (unK b n 6) (cmG b n (smK b n 6) (skS b n (smK b n 6 (skS b n i3)).2.1))).2.2) hr0 hr6 hc0 hc1 hT h290 (by omega) h28 h29 h50 (by omega) h30 (by omega) hQ (by rw [trL_app]; exact (zG.at_ (j' := skS b n (smK b n 6 (skS b n i3)).2.1)).seq zy1) (by omega) (by rw [zRR, rcT_ok zg]) (by omega) zS3 (Fr.tr (Fr.tr (hF) (zF1.mono fun z zz => Or.inl zz)) (zF3.mono fun z zz => isRm_q zz)) hc he
          · exact cl_bad (b := b) (n := n) hr0 hr6 hc0 hc1 hT h290 hQ ((zG.at_ (j' := skS b n (smK b n 6 (skS b n i3)).2.1)).bad (z3n zg)) ⟨by have := zbY.1; omega, by have := zbY.2.1; omega⟩ (by rw [zRR, rcT_no zg]; rfl) (by omega) zS3 (Fr.tr (Fr.tr (hF) (zF1.mono fun z zz => Or.inl zz)) (zF3.mono fun z zz => isRm_q zz)) hc he
      · refine j_iload_n hc dX11_clause_151 rfl ?_
        refine j_bipush hc dX11_clause_152 (by decide) ?_
        refine j_icmp_eq (tgt := 163) hc dX11_clause_154 (by decide) ⟨by omega, by omega⟩ ⟨by omega, by omega⟩ (fun zc4 => ?_) (fun zc4 => ?_)
        · have zch : isCm (hrS b n (skS b n (smK b n 6 (skS b n i3)).2.1)) := by omega
          refine j_iconst hc dX11_clause_163 ?_
          refine j_goto (tgt := 168) hc dX11_clause_164 (by decide) ?_
          refine j_istore_n (L' := [_, _, _, _]) hc dX11_clause_168 (Nat.le_of_ble_eq_true rfl) rfl ?_
          refine j_iload_n hc dX11_clause_169 rfl ?_
          refine j_if_eq (b := 0) (tgt := 178) hc dX11_clause_170 (by decide) ⟨by omega, by omega⟩ (fun zc5 => ?_) (fun zc5 => ?_)
          · exact absurd zc5 (by decide)
          · refine j_aload_n hc dX11_clause_173 rfl ?_
            refine j_iconst hc dX11_clause_174 ?_
            refine j_callV (d' := d - 1) hc dX11_clause_175 vX11_208 zS1.1 (mt_co1 b n hr0 hr6 (d - 1) _ _ _ (by omega) zS1 (SmE.rd zG.1.f3 hT hQ.1.1.1) (by show 0 ≤ skS b n (smK b n 6 (skS b n i3)).2.1; omega) (by show skS b n (smK b n 6 (skS b n i3)).2.1 ≤ n; omega) (show s2 4 = -1 from zG.2.1) (by show s2 5 = 0; omega) (zG.1.f3.in_ h28) (by show 0 ≤ s2 29; omega) (by show 2 * s2 29 + 3 * (n - skS b n (smK b n 6 (skS b n i3)).2.1) ≤ 790; omega)) rfl (by omega) (by omega) (by omega) rfl rfl (Nat.le_of_ble_eq_true rfl) (retN fun zq175 zp175 => ?_)
            obtain ⟨s3, g3, ⟨z35, z3b, z3n, z3y⟩, zS3, zF3⟩ := zp175
            dsimp only at z3n z3y
            rw [fuA_at, fu_same] at z3n z3y
            rw [fuA_fuA] at zS3
            have z35 : s3 5 = s2 5 := z35
            have zbY : RpB n (skS b n (smK b n 6 (skS b n i3)).2.1) (coG b n (unK b n 6) (cmG b n (smK b n 6) (skS b n (smK b n 6 (skS b n i3)).2.1))) := coG_b (unK_b b n 6) (by omega) (cmG_b (smK_b b n 6) _ (by omega) (by omega))
            have zRR : R = rcT (coG b n (unK b n 6) (cmG b n (smK b n 6) (skS b n (smK b n 6 (skS b n i3)).2.1))) fun j' u => giG b n ((smK b n 6 (skS b n i3)).2.2 ++ u) j' := by rw [hR, rcT_ok zf]; exact if_pos zch
            by_cases zg : (coG b n (unK b n 6) (cmG b n (smK b n 6) (skS b n (smK b n 6 (skS b n i3)).2.1))).1 = -1
            · have zy := zbY.2.2 zg
              obtain ⟨zy1, zy2⟩ := z3y zg
              have zy2 : 2 * s3 29 ≤ 2 * s2 29 + 3 * ((coG b n (unK b n 6) (cmG b n (smK b n 6) (skS b n (smK b n 6 (skS b n i3)).2.1))).2.1 - skS b n (smK b n 6 (skS b n i3)).2.1) + 1 := zy2
              exact cl_e1 (j := (coG b n (unK b n 6) (cmG b n (smK b n 6) (skS b n (smK b n 6 (skS b n i3)).2.1))).2.1) (t := (smK b n 6 (skS b n i3)).2.2 ++ (coG b n (unK b n 6) (cmG b n (smK b n 6) (skS b n (smK b n 6 (skS b n i3)).2.1))).2.2) hr0 hr6 hc0 hc1 hT h290 (by omega) h28 h29 h50 (by omega) h30 (by omega) hQ (by rw [trL_app]; exact (zG.at_ (j' := skS b n (smK b n 6 (skS b n i3)).2.1)).seq zy1) (by omega) (by rw [zRR, rcT_ok zg]) (by omega) zS3 (Fr.tr (Fr.tr (hF) (zF1.mono fun z zz => Or.inl zz)) (zF3.mono fun z zz => isRm_q zz)) hc he
            · exact cl_bad (b := b) (n := n) hr0 hr6 hc0 hc1 hT h290 hQ ((zG.at_ (j' := skS b n (smK b n 6 (skS b n i3)).2.1)).bad (z3n zg)) ⟨by have := zbY.1; omega, by have := zbY.2.1; omega⟩ (by rw [zRR, rcT_no zg]; rfl) (by omega) zS3 (Fr.tr (Fr.tr (hF) (zF1.mono fun z zz => Or.inl zz)) (zF3.mono fun z zz => isRm_q zz)) hc he
        · refine j_iload_n hc dX11_clause_157 rfl ?_
          refine j_bipush hc dX11_clause_158 (by decide) ?_
          refine j_icmp_ne (tgt := 167) hc dX11_clause_160 (by decide) ⟨by omega, by omega⟩ ⟨by omega, by omega⟩ (fun zc6 => ?_) (fun zc6 => ?_)
          · have zch : ¬ isCm (hrS b n (skS b n (smK b n 6 (skS b n i3)).2.1)) := by omega
            refine j_iconst hc dX11_clause_167 ?_
            refine j_istore_n (L' := [_, _, _, _]) hc dX11_clause_168 (Nat.le_of_ble_eq_true rfl) rfl ?_
            refine j_iload_n hc dX11_clause_169 rfl ?_
            refine j_if_eq (b := 0) (tgt := 178) hc dX11_clause_170 (by decide) ⟨by omega, by omega⟩ (fun zc7 => ?_) (fun zc7 => ?_)
            · exact cl_e0 (b := b) (n := n) (t := (smK b n 6 (skS b n i3)).2.2) hr0 hr6 hc0 hc1 hT h290 hQ (zG.at_ (j' := skS b n (smK b n 6 (skS b n i3)).2.1)) (by show 2 * s2 29 ≤ 2 * s 29 + 3 * (skS b n (smK b n 6 (skS b n i3)).2.1 - s 3); omega) (by rw [hR, rcT_ok zf]; exact if_neg zch) h5 zS1 (Fr.tr (hF) (zF1.mono fun z zz => Or.inl zz)) hc he
            · exact absurd rfl zc7
          · have zch : isCm (hrS b n (skS b n (smK b n 6 (skS b n i3)).2.1)) := by omega
            refine j_iconst hc dX11_clause_163 ?_
            refine j_goto (tgt := 168) hc dX11_clause_164 (by decide) ?_
            refine j_istore_n (L' := [_, _, _, _]) hc dX11_clause_168 (Nat.le_of_ble_eq_true rfl) rfl ?_
            refine j_iload_n hc dX11_clause_169 rfl ?_
            refine j_if_eq (b := 0) (tgt := 178) hc dX11_clause_170 (by decide) ⟨by omega, by omega⟩ (fun zc8 => ?_) (fun zc8 => ?_)
            · exact absurd zc8 (by decide)
            · refine j_aload_n hc dX11_clause_173 rfl ?_
              refine j_iconst hc dX11_clause_174 ?_
              refine j_callV (d' := d - 1) hc dX11_clause_175 vX11_208 zS1.1 (mt_co1 b n hr0 hr6 (d - 1) _ _ _ (by omega) zS1 (SmE.rd zG.1.f3 hT hQ.1.1.1) (by show 0 ≤ skS b n (smK b n 6 (skS b n i3)).2.1; omega) (by show skS b n (smK b n 6 (skS b n i3)).2.1 ≤ n; omega) (show s2 4 = -1 from zG.2.1) (by show s2 5 = 0; omega) (zG.1.f3.in_ h28) (by show 0 ≤ s2 29; omega) (by show 2 * s2 29 + 3 * (n - skS b n (smK b n 6 (skS b n i3)).2.1) ≤ 790; omega)) rfl (by omega) (by omega) (by omega) rfl rfl (Nat.le_of_ble_eq_true rfl) (retN fun zq175 zp175 => ?_)
              obtain ⟨s3, g3, ⟨z35, z3b, z3n, z3y⟩, zS3, zF3⟩ := zp175
              dsimp only at z3n z3y
              rw [fuA_at, fu_same] at z3n z3y
              rw [fuA_fuA] at zS3
              have z35 : s3 5 = s2 5 := z35
              have zbY : RpB n (skS b n (smK b n 6 (skS b n i3)).2.1) (coG b n (unK b n 6) (cmG b n (smK b n 6) (skS b n (smK b n 6 (skS b n i3)).2.1))) := coG_b (unK_b b n 6) (by omega) (cmG_b (smK_b b n 6) _ (by omega) (by omega))
              have zRR : R = rcT (coG b n (unK b n 6) (cmG b n (smK b n 6) (skS b n (smK b n 6 (skS b n i3)).2.1))) fun j' u => giG b n ((smK b n 6 (skS b n i3)).2.2 ++ u) j' := by rw [hR, rcT_ok zf]; exact if_pos zch
              by_cases zg : (coG b n (unK b n 6) (cmG b n (smK b n 6) (skS b n (smK b n 6 (skS b n i3)).2.1))).1 = -1
              · have zy := zbY.2.2 zg
                obtain ⟨zy1, zy2⟩ := z3y zg
                have zy2 : 2 * s3 29 ≤ 2 * s2 29 + 3 * ((coG b n (unK b n 6) (cmG b n (smK b n 6) (skS b n (smK b n 6 (skS b n i3)).2.1))).2.1 - skS b n (smK b n 6 (skS b n i3)).2.1) + 1 := zy2
                exact cl_e1 (j := (coG b n (unK b n 6) (cmG b n (smK b n 6) (skS b n (smK b n 6 (skS b n i3)).2.1))).2.1) (t := (smK b n 6 (skS b n i3)).2.2 ++ (coG b n (unK b n 6) (cmG b n (smK b n 6) (skS b n (smK b n 6 (skS b n i3)).2.1))).2.2) hr0 hr6 hc0 hc1 hT h290 (by omega) h28 h29 h50 (by omega) h30 (by omega) hQ (by rw [trL_app]; exact (zG.at_ (j' := skS b n (smK b n 6 (skS b n i3)).2.1)).seq zy1) (by omega) (by rw [zRR, rcT_ok zg]) (by omega) zS3 (Fr.tr (Fr.tr (hF) (zF1.mono fun z zz => Or.inl zz)) (zF3.mono fun z zz => isRm_q zz)) hc he
              · exact cl_bad (b := b) (n := n) hr0 hr6 hc0 hc1 hT h290 hQ ((zG.at_ (j' := skS b n (smK b n 6 (skS b n i3)).2.1)).bad (z3n zg)) ⟨by have := zbY.1; omega, by have := zbY.2.1; omega⟩ (by rw [zRR, rcT_no zg]; rfl) (by omega) zS3 (Fr.tr (Fr.tr (hF) (zF1.mono fun z zz => Or.inl zz)) (zF3.mono fun z zz => isRm_q zz)) hc he
set_option maxRecDepth 100000 in
set_option maxHeartbeats 4000000 in
theorem cl_94 {k : WC} {d : Nat} {w : MC} {h0 h : AH} {s s1 : Int → Int} {A A1 : MAs} {b : Int → Int} {n : Int} {r c : Int} {R : RC} {i3 : Int} {z3 : Option AV} (hr0 : 0 ≤ r) (hr6 : r ≤ 6) (hc0 : 0 ≤ c) (hc1 : c < 64) (hT : RdM s A b n) (h290 : 0 ≤ s 29) (hd : 110 ≤ d) (h28 : s 28 = r) (h29 : 2 * s 29 ≤ 3 * s 3) (h50 : s 5 = 0) (h30 : 0 ≤ s 3) (h31 : s 3 + 2 ≤ i3) (hi3 : i3 ≤ n) (hR : R = clB b n i3) (hQ : Cq A A1 r c (s 29)) (zG0 : Gs s (A 23) r (skS b n i3) [] s1 (A 23)) (h5 : s1 5 = s 5) (hS : MdS h s1 A1) (hF : Fr isRq h0 h) (hc : Cx w k d 0 0 mdX11_clause) (he : Ends w 0 0 (ClP s A r c R h0)) : J w 0 0 94 [some (vR (70, 0)), some (vI (64 * r + c)), some (vI (hrM b n (skS b n i3))), z3] [] h := by
  have hn := hT.2.1
  obtain ⟨p1, p2, p3⟩ := skS_b b n i3
  have p2 := p2 hi3
  have z03 := zG0.2.2.1
  have z29 := zG0.2.2.2.1
  simp only [List.length_nil] at z29
  have z29 : s1 29 = s 29 := by omega
  have zs1 := hrM_S hT (show 0 ≤ skS b n i3 by omega)
  have zs2 := hrM_b hT (show 0 ≤ skS b n i3 by omega)
  by_cases hq : hrM b n (skS b n i3) = 33 ∨ hrM b n (skS b n i3) = 40
  · skip
    refine j_iload_n hc dX11_clause_94 rfl ?_
    refine j_bipush hc dX11_clause_95 (by decide) ?_
    refine j_icmp_eq (tgt := 106) hc dX11_clause_97 (by decide) ⟨by omega, by omega⟩ ⟨by omega, by omega⟩ (fun zc1 => ?_) (fun zc1 => ?_)
    · refine j_iconst hc dX11_clause_106 ?_
      refine j_goto (tgt := 111) hc dX11_clause_107 (by decide) ?_
      refine j_istore_n (L' := [_, _, _, _]) hc dX11_clause_111 (Nat.le_of_ble_eq_true rfl) rfl ?_
      refine j_iload_n hc dX11_clause_112 rfl ?_
      refine j_if_eq (b := 0) (tgt := 124) hc dX11_clause_113 (by decide) ⟨by omega, by omega⟩ (fun zc2 => ?_) (fun zc2 => ?_)
      · exact absurd zc2 (by decide)
      · refine j_aload_n hc dX11_clause_116 rfl ?_
        refine j_iconst hc dX11_clause_117 ?_
        refine j_callV (d' := d - 1) hc dX11_clause_118 vX11_208 hS.1 (mt_co0 b n hr0 hr6 (d - 1) _ _ _ (by omega) hS (SmE.rd zG0.1 hT hQ.1.1.1) (by rw [z03]; omega) (by rw [z03]; omega) zG0.2.1 (by omega) (zG0.1.in_ h28) (by omega) (by rw [z03]; omega)) rfl (by omega) (by omega) (by omega) rfl rfl (Nat.le_of_ble_eq_true rfl) (retN fun zq118 zp118 => ?_)
        obtain ⟨s2, g2, ⟨z25, z2b, z2n, z2y⟩, zS2, zF2⟩ := zp118
        try dsimp only at z2n z2y
        rw [z03, hQ.2.1] at z2n z2y
        rw [z03] at z2b
        have zG2 : (coG b n (unK b n 6) (unK b n 6 (skS b n i3))).1 = -1 → Gs s (A 23) r (coG b n (unK b n 6) (unK b n 6 (skS b n i3))).2.1 (trL (coG b n (unK b n 6) (unK b n 6 (skS b n i3))).2.2) s2 g2 := fun z => zG0.seq (z2y z).1
        have zB2 : (coG b n (unK b n 6) (unK b n 6 (skS b n i3))).1 ≠ -1 → Bs s (A 23) r (coG b n (unK b n 6) (unK b n 6 (skS b n i3))).1 s2 g2 := fun z => zG0.bad (z2n z)
        refine j_goto (tgt := 178) hc dX11_clause_121 (by decide) ?_
        have zbX : RpB n (skS b n i3) (coG b n (unK b n 6) (unK b n 6 (skS b n i3))) := coG_b (unK_b b n 6) (by omega) (unK_b b n 6 _ (by omega) (by omega))
        have zRR : R = rcT (coG b n (unK b n 6) (unK b n 6 (skS b n i3))) fun j t => giG b n t j := by rw [hR]; unfold clB; rw [if_pos (by omega)]
        by_cases zf : (coG b n (unK b n 6) (unK b n 6 (skS b n i3))).1 = -1
        · have zx := zbX.2.2 zf
          have zyb := (z2y zf).2
          exact cl_e1 (j := (coG b n (unK b n 6) (unK b n 6 (skS b n i3))).2.1) (t := (coG b n (unK b n 6) (unK b n 6 (skS b n i3))).2.2) hr0 hr6 hc0 hc1 hT h290 (by omega) h28 h29 h50 (by omega) h30 (by omega) hQ (zG2 zf) (by omega) (by rw [zRR, rcT_ok zf]) (by omega) zS2 (Fr.tr (hF) (zF2.mono fun z zz => isRm_q zz)) hc he
        · exact cl_bad (b := b) (n := n) hr0 hr6 hc0 hc1 hT h290 hQ (zB2 zf) ⟨by have := zbX.1; omega, by have := zbX.2.1; omega⟩ (by rw [zRR, rcT_no zf]; rfl) (by omega) zS2 (Fr.tr (hF) (zF2.mono fun z zz => isRm_q zz)) hc he
    · refine j_iload_n hc dX11_clause_100 rfl ?_
      refine j_bipush hc dX11_clause_101 (by decide) ?_
      refine j_icmp_ne (tgt := 110) hc dX11_clause_103 (by decide) ⟨by omega, by omega⟩ ⟨by omega, by omega⟩ (fun zc3 => ?_) (fun zc3 => ?_)
      · exact absurd hq (by omega)
      · refine j_iconst hc dX11_clause_106 ?_
        refine j_goto (tgt := 111) hc dX11_clause_107 (by decide) ?_
        refine j_istore_n (L' := [_, _, _, _]) hc dX11_clause_111 (Nat.le_of_ble_eq_true rfl) rfl ?_
        refine j_iload_n hc dX11_clause_112 rfl ?_
        refine j_if_eq (b := 0) (tgt := 124) hc dX11_clause_113 (by decide) ⟨by omega, by omega⟩ (fun zc4 => ?_) (fun zc4 => ?_)
        · exact absurd zc4 (by decide)
        · refine j_aload_n hc dX11_clause_116 rfl ?_
          refine j_iconst hc dX11_clause_117 ?_
          refine j_callV (d' := d - 1) hc dX11_clause_118 vX11_208 hS.1 (mt_co0 b n hr0 hr6 (d - 1) _ _ _ (by omega) hS (SmE.rd zG0.1 hT hQ.1.1.1) (by rw [z03]; omega) (by rw [z03]; omega) zG0.2.1 (by omega) (zG0.1.in_ h28) (by omega) (by rw [z03]; omega)) rfl (by omega) (by omega) (by omega) rfl rfl (Nat.le_of_ble_eq_true rfl) (retN fun zq118 zp118 => ?_)
          obtain ⟨s2, g2, ⟨z25, z2b, z2n, z2y⟩, zS2, zF2⟩ := zp118
          try dsimp only at z2n z2y
          rw [z03, hQ.2.1] at z2n z2y
          rw [z03] at z2b
          have zG2 : (coG b n (unK b n 6) (unK b n 6 (skS b n i3))).1 = -1 → Gs s (A 23) r (coG b n (unK b n 6) (unK b n 6 (skS b n i3))).2.1 (trL (coG b n (unK b n 6) (unK b n 6 (skS b n i3))).2.2) s2 g2 := fun z => zG0.seq (z2y z).1
          have zB2 : (coG b n (unK b n 6) (unK b n 6 (skS b n i3))).1 ≠ -1 → Bs s (A 23) r (coG b n (unK b n 6) (unK b n 6 (skS b n i3))).1 s2 g2 := fun z => zG0.bad (z2n z)
          refine j_goto (tgt := 178) hc dX11_clause_121 (by decide) ?_
          have zbX : RpB n (skS b n i3) (coG b n (unK b n 6) (unK b n 6 (skS b n i3))) := coG_b (unK_b b n 6) (by omega) (unK_b b n 6 _ (by omega) (by omega))
          have zRR : R = rcT (coG b n (unK b n 6) (unK b n 6 (skS b n i3))) fun j t => giG b n t j := by rw [hR]; unfold clB; rw [if_pos (by omega)]
          by_cases zf : (coG b n (unK b n 6) (unK b n 6 (skS b n i3))).1 = -1
          · have zx := zbX.2.2 zf
            have zyb := (z2y zf).2
            exact cl_e1 (j := (coG b n (unK b n 6) (unK b n 6 (skS b n i3))).2.1) (t := (coG b n (unK b n 6) (unK b n 6 (skS b n i3))).2.2) hr0 hr6 hc0 hc1 hT h290 (by omega) h28 h29 h50 (by omega) h30 (by omega) hQ (zG2 zf) (by omega) (by rw [zRR, rcT_ok zf]) (by omega) zS2 (Fr.tr (hF) (zF2.mono fun z zz => isRm_q zz)) hc he
          · exact cl_bad (b := b) (n := n) hr0 hr6 hc0 hc1 hT h290 hQ (zB2 zf) ⟨by have := zbX.1; omega, by have := zbX.2.1; omega⟩ (by rw [zRR, rcT_no zf]; rfl) (by omega) zS2 (Fr.tr (hF) (zF2.mono fun z zz => isRm_q zz)) hc he
  · skip
    refine j_iload_n hc dX11_clause_94 rfl ?_
    refine j_bipush hc dX11_clause_95 (by decide) ?_
    refine j_icmp_eq (tgt := 106) hc dX11_clause_97 (by decide) ⟨by omega, by omega⟩ ⟨by omega, by omega⟩ (fun zc1 => ?_) (fun zc1 => ?_)
    · exact absurd (Or.inl zc1) hq
    · refine j_iload_n hc dX11_clause_100 rfl ?_
      refine j_bipush hc dX11_clause_101 (by decide) ?_
      refine j_icmp_ne (tgt := 110) hc dX11_clause_103 (by decide) ⟨by omega, by omega⟩ ⟨by omega, by omega⟩ (fun zc2 => ?_) (fun zc2 => ?_)
      · refine j_iconst hc dX11_clause_110 ?_
        refine j_istore_n (L' := [_, _, _, _]) hc dX11_clause_111 (Nat.le_of_ble_eq_true rfl) rfl ?_
        refine j_iload_n hc dX11_clause_112 rfl ?_
        refine j_if_eq (b := 0) (tgt := 124) hc dX11_clause_113 (by decide) ⟨by omega, by omega⟩ (fun zc3 => ?_) (fun zc3 => ?_)
        · refine j_aload_n hc dX11_clause_124 rfl ?_
          refine j_callV (d' := d - 1) hc dX11_clause_125 vX11_192 hS.1 (mt_smK b n hr0 hr6 6 0 rfl (by omega) (d - 1) _ _ _ (by omega) hS (SmE.rd zG0.1 hT hQ.1.1.1) (by rw [z03]; omega) (by rw [z03]; omega) zG0.2.1 (by omega) (zG0.1.in_ h28) (by omega) (by rw [z03]; omega)) rfl (by omega) (by omega) (by omega) rfl rfl (Nat.le_of_ble_eq_true rfl) (retN fun zq125 zp125 => ?_)
          obtain ⟨s2, g2, ⟨z25, z2b, z2n, z2y⟩, zS2, zF2⟩ := zp125
          try dsimp only at z2n z2y
          rw [z03, hQ.2.1] at z2n z2y
          rw [z03] at z2b
          have zG2 : (smK b n 6 (skS b n i3)).1 = -1 → Gs s (A 23) r (smK b n 6 (skS b n i3)).2.1 (trL (smK b n 6 (skS b n i3)).2.2) s2 g2 := fun z => zG0.seq (z2y z).1
          have zB2 : (smK b n 6 (skS b n i3)).1 ≠ -1 → Bs s (A 23) r (smK b n 6 (skS b n i3)).1 s2 g2 := fun z => zG0.bad (z2n z)
          exact cl_128 hr0 hr6 hc0 hc1 hT h290 hd h28 h29 h50 h30 h31 hi3 (by rw [hR]; unfold clB; rw [if_neg (by omega)]) hQ zG2 zB2 (fun z => (z2y z).2) z2b (by omega) z29 zS2 (Fr.tr (hF) (zF2.mono fun z zz => isRm_q zz)) hc he
        · exact absurd rfl zc3
      · exact absurd (Or.inr zc2) hq
set_option maxRecDepth 100000 in
set_option maxHeartbeats 4000000 in
theorem ev_X11_clause {k : WC} {d : Nat} {h : AH} {s : Int → Int} {A : MAs} {b : Int → Int} {n : Int} {r c : Int} (hr0 : 0 ≤ r) (hr6 : r ≤ 6) (hc0 : 0 ≤ c) (hc1 : c < 64) (hT : RdM s A b n) (h290 : 0 ≤ s 29) (hd : 112 ≤ d) (hS : MdS h s A) (h28 : s 28 = r) (h29 : 2 * s 29 ≤ 3 * s 3) (h4 : s 4 = -1) (h5 : s 5 = 0) (h30 : 0 ≤ s 3) (h31 : s 3 ≤ n) (hcl : A 24 r = c) : Ev k d mdX11_clause h [vR (70, 0)] 0 0 (ClP s A r c (clG b n (s 3)) h) := by
  have hn := hT.2.1
  obtain ⟨p1, p2, p3⟩ := skS_b b n (s 3)
  have p2 := p2 h31
  have zs1 := hrM_S hT (show 0 ≤ skS b n (s 3) by omega)
  have zs2 := hrM_b hT (show 0 ≤ skS b n (s 3) by omega)
  refine Ev.mk (by decide +kernel) [_, _, _, _] rfl (Nat.le_of_ble_eq_true rfl) (fun w hc he => ?_)
  refine j_bipush hc dX11_clause_0 (by decide) ?_
  refine j_aload_n hc dX11_clause_2 rfl ?_
  refine j_get hc dX11_clause_3 fX11_174 hS.1 rfl ?_
  rw [h28]
  refine j_imul hc dX11_clause_6 ?_
  refine j_aload_n hc dX11_clause_7 rfl ?_
  refine j_get hc dX11_clause_8 fX11_64 hS.1 rfl ?_
  refine j_aload_n hc dX11_clause_11 rfl ?_
  refine j_get hc dX11_clause_12 fX11_174 hS.1 rfl ?_
  rw [h28]
  refine j_iald hc dX11_clause_15 hS.2.2.2.2.2.2.2.2.2.2.2.2.2.2.2.2.2.2.2.1 (by omega) (by omega) ?_
  rw [hcl]
  refine j_iadd hc dX11_clause_16 ?_
  refine j_istore_n (L' := [_, _, _, _]) hc dX11_clause_17 (Nat.le_of_ble_eq_true rfl) rfl ?_
  refine j_aload_n hc dX11_clause_18 rfl ?_
  refine j_callV (d' := d - 1) hc dX11_clause_19 vX11_135 hS.1 (ev_X11_look (by omega) hS (hT) h30 (by omega)) rfl (by omega) (by omega) (by omega) rfl rfl (Nat.le_of_ble_eq_true rfl) (retE fun zv19 zq19 zp19 => ?_)
  obtain ⟨zv7, zS7, zF7⟩ := zp19
  subst zv7
  skip
  refine j_bipush hc dX11_clause_22 (by decide) ?_
  refine j_icmp_eq (tgt := 32) hc dX11_clause_24 (by decide) ⟨by omega, by omega⟩ ⟨by omega, by omega⟩ (fun zc1 => ?_) (fun zc1 => ?_)
  · have z1c : hrS b n (skS b n (s 3)) = 107 := by omega
    obtain ⟨q1, q2, q3⟩ := skS_b b n (skS b n (s 3) + 1)
    have q2 := q2 (by omega)
    have zt1 := hrM_S hT (show 0 ≤ skS b n (skS b n (s 3) + 1) by omega)
    have zt2 := hrM_b hT (show 0 ≤ skS b n (skS b n (s 3) + 1) by omega)
    refine j_aload_n hc dX11_clause_32 rfl ?_
    refine j_dup hc dX11_clause_33 rfl ?_
    refine j_get hc dX11_clause_34 fX11_125 zS7.1 rfl ?_
    rw [fu_same]
    refine j_iconst hc dX11_clause_37 ?_
    refine j_iadd hc dX11_clause_38 ?_
    refine j_put  hc dX11_clause_39 pX11_125 zS7.1 rfl mset_3 ?_
    generalize ezh1 : up _ _ _ = zh1
    have zzmod_zh1 := MdS.pf ezh1 zS7
    have zR1 := zzmod_zh1
    rw [fu_fu] at zR1
    refine j_aload_n hc dX11_clause_42 rfl ?_
    refine j_callV (d' := d - 1) hc dX11_clause_43 vX11_135 zR1.1 (ev_X11_look (b := b) (n := n) (by omega) zR1 (SmE.rd (SmE.rf s).f3 hT rfl) (by show 0 ≤ skS b n (s 3) + 1; omega) (by show skS b n (s 3) + 1 ≤ 900; omega)) rfl (by omega) (by omega) (by omega) rfl rfl (Nat.le_of_ble_eq_true rfl) (retE fun zv43 zq43 zp43 => ?_)
    obtain ⟨zv8, zS8, zF8⟩ := zp43
    subst zv8
    rw [show fu s 3 (skS b n (s 3) + 1) 3 = skS b n (s 3) + 1 from rfl]
    rw [show fu s 3 (skS b n (s 3) + 1) 3 = skS b n (s 3) + 1 from rfl, fu_fu] at zS8
    refine j_bipush hc dX11_clause_46 (by decide) ?_
    refine j_icmp_eq (tgt := 56) hc dX11_clause_48 (by decide) ⟨by omega, by omega⟩ ⟨by omega, by omega⟩ (fun zc2 => ?_) (fun zc2 => ?_)
    · have z2c : hrS b n (skS b n (skS b n (s 3) + 1)) = 58 := by omega
      refine j_aload_n hc dX11_clause_56 rfl ?_
      refine j_dup hc dX11_clause_57 rfl ?_
      refine j_get hc dX11_clause_58 fX11_125 zS8.1 rfl ?_
      rw [fu_same]
      refine j_iconst hc dX11_clause_61 ?_
      refine j_iadd hc dX11_clause_62 ?_
      refine j_put  hc dX11_clause_63 pX11_125 zS8.1 rfl mset_3 ?_
      generalize ezh2 : up _ _ _ = zh2
      have zzmod_zh2 := MdS.pf ezh2 zS8
      have zR2 := zzmod_zh2
      rw [fu_fu] at zR2
      refine j_aload_n hc dX11_clause_66 rfl ?_
      refine j_get hc dX11_clause_67 fX11_64 zR2.1 rfl ?_
      refine j_aload_n hc dX11_clause_70 rfl ?_
      refine j_get hc dX11_clause_71 fX11_174 zR2.1 rfl ?_
      rw [show fu s 3 _ 28 = r from h28]
      refine j_dup2 hc dX11_clause_74 rfl rfl ?_
      refine j_iald hc dX11_clause_75 zR2.2.2.2.2.2.2.2.2.2.2.2.2.2.2.2.2.2.2.2.1 (by omega) (by omega) ?_
      rw [hcl]
      refine j_iconst hc dX11_clause_76 ?_
      refine j_iadd hc dX11_clause_77 ?_
      refine j_iast hc dX11_clause_78 zR2.2.2.2.2.2.2.2.2.2.2.2.2.2.2.2.2.2.2.2.1 (by omega) (by omega) ?_
      generalize ezh3 : up _ _ _ = zh3
      have zzmod_zh3 := MdS.pa_24 ezh3 zR2
      refine j_aload_n hc dX11_clause_79 rfl ?_
      refine j_get hc dX11_clause_80 fX11_67 zzmod_zh3.1 rfl ?_
      refine j_iload_n hc dX11_clause_83 rfl ?_
      refine j_aload_n hc dX11_clause_84 rfl ?_
      refine j_get hc dX11_clause_85 fX11_177 zzmod_zh3.1 rfl ?_
      rw [show fu s 3 _ 29 = s 29 from rfl]
      refine j_iast hc dX11_clause_88 zzmod_zh3.2.2.2.2.2.2.2.2.2.2.2.2.2.2.2.2.2.2.2.2.1 (by omega) (by omega) ?_
      generalize ezh4 : up _ _ _ = zh4
      have zzmod_zh4 := MdS.pa_25 ezh4 zzmod_zh3
      refine j_aload_n hc dX11_clause_89 rfl ?_
      refine j_callV (d' := d - 1) hc dX11_clause_90 vX11_135 zzmod_zh4.1 (ev_X11_look (b := b) (n := n) (by omega) zzmod_zh4 (SmE.rd (SmE.rf s).f3 hT rfl) (by show 0 ≤ skS b n (skS b n (s 3) + 1) + 1; omega) (by show skS b n (skS b n (s 3) + 1) + 1 ≤ 900; omega)) rfl (by omega) (by omega) (by omega) rfl rfl (Nat.le_of_ble_eq_true rfl) (retE fun zv90 zq90 zp90 => ?_)
      obtain ⟨zv9, zS9, zF9⟩ := zp90
      subst zv9
      rw [show fu s 3 (skS b n (skS b n (s 3) + 1) + 1) 3 = skS b n (skS b n (s 3) + 1) + 1 from rfl]
      rw [show fu s 3 (skS b n (skS b n (s 3) + 1) + 1) 3 = skS b n (skS b n (s 3) + 1) + 1 from rfl, fu_fu] at zS9
      refine j_istore_n (L' := [_, _, _, _]) hc dX11_clause_93 (Nat.le_of_ble_eq_true rfl) rfl ?_
      exact cl_94 (A1 := (fuA (fuA A 24 (fu (A 24) r (c + 1))) 25 (fu (A 25) (64 * r + c) (s 29)))) (i3 := skS b n (skS b n (s 3) + 1) + 1) hr0 hr6 hc0 hc1 hT h290 (by omega) h28 h29 h5 h30 (by omega) (by omega) (by unfold clG neS; rw [if_pos z1c, rcT_ok rfl]; dsimp only; rw [if_pos z2c, rcT_ok rfl]) ⟨(AgQ.f24 A r _).tr (AgQ.f25 _ r _ hc0 hc1), rfl, fu_same _ _ _, fu_same _ _ _, fun z z0 z1 => ⟨fu_ne (by omega), rfl⟩⟩ ((Gs.st (A 23) r h4).at_) rfl zS9 (Fr.tr ((by rw [← ezh4]; exact Fr.push ((by rw [← ezh3]; exact Fr.push ((by rw [← ezh2]; exact Fr.push (Fr.tr ((by rw [← ezh1]; exact Fr.push (Fr.tr (Fr.rf _ _) (zF7.mono fun z zz => Or.inl zz)) (by first | exact Or.inl rfl | exact Or.inr (by decide)))) (zF8.mono fun z zz => Or.inl zz)) (by first | exact Or.inl rfl | exact Or.inr (by decide)))) (by first | exact Or.inl rfl | exact Or.inr (by decide)))) (by first | exact Or.inl rfl | exact Or.inr (by decide)))) (zF9.mono fun z zz => Or.inl zz)) hc he
    · have z2c : ¬ hrS b n (skS b n (skS b n (s 3) + 1)) = 58 := by omega
      refine j_aload_n hc dX11_clause_51 rfl ?_
      refine j_callV (d' := d - 1) hc dX11_clause_52 vX11_142 zS8.1 (ev_X11_bad_n (by omega) zS8 (show fu s 3 _ 4 = -1 from h4)) rfl (by omega) (by omega) (by omega) rfl rfl (Nat.le_of_ble_eq_true rfl) (retN fun zq52 zp52 => ?_)
      obtain ⟨zS6, zF6⟩ := zp52
      rw [fu_same] at zS6
      exact j_vret hc he dX11_clause_55 rfl (by omega) (by omega) ⟨rfl, fu (fu s 3 (skS b n (skS b n (s 3) + 1))) 4 (skS b n (skS b n (s 3) + 1)), A, ⟨AgQ.rf A r, rfl, fun _ => ⟨(SmE.rf s).f3.f4, by unfold clG neS; rw [if_pos z1c, rcT_ok rfl]; dsimp only; rw [if_neg z2c, rcT_no (show (rpF _).1 ≠ -1 by show skS b n (skS b n (s 3) + 1) ≠ -1; omega)]; rfl⟩, fun z => absurd z (by unfold clG neS; rw [if_pos z1c, rcT_ok rfl]; dsimp only; rw [if_neg z2c, rcT_no (show (rpF _).1 ≠ -1 by show skS b n (skS b n (s 3) + 1) ≠ -1; omega)]; show skS b n (skS b n (s 3) + 1) ≠ -1; omega)⟩, zS6, Fr.tr (Fr.tr ((by rw [← ezh1]; exact Fr.push (Fr.tr (Fr.rf _ _) (zF7.mono fun z zz => Or.inl zz)) (by first | exact Or.inl rfl | exact Or.inr (by decide)))) (zF8.mono fun z zz => Or.inl zz)) (zF6.mono fun z zz => Or.inl zz)⟩
  · have z1c : ¬ hrS b n (skS b n (s 3)) = 107 := by omega
    refine j_aload_n hc dX11_clause_27 rfl ?_
    refine j_callV (d' := d - 1) hc dX11_clause_28 vX11_142 zS7.1 (ev_X11_bad_n (by omega) zS7 (show fu s 3 _ 4 = -1 from h4)) rfl (by omega) (by omega) (by omega) rfl rfl (Nat.le_of_ble_eq_true rfl) (retN fun zq28 zp28 => ?_)
    obtain ⟨zS6, zF6⟩ := zp28
    rw [fu_same] at zS6
    exact j_vret hc he dX11_clause_31 rfl (by omega) (by omega) ⟨rfl, fu (fu s 3 (skS b n (s 3))) 4 (skS b n (s 3)), A, ⟨AgQ.rf A r, rfl, fun _ => ⟨(SmE.rf s).f3.f4, by unfold clG neS; rw [if_neg z1c, rcT_no (show (rpF _).1 ≠ -1 by show skS b n (s 3) ≠ -1; omega)]; rfl⟩, fun z => absurd z (by unfold clG neS; rw [if_neg z1c, rcT_no (show (rpF _).1 ≠ -1 by show skS b n (s 3) ≠ -1; omega)]; show skS b n (s 3) ≠ -1; omega)⟩, zS6, Fr.tr (Fr.tr (Fr.rf _ _) (zF7.mono fun z zz => Or.inl zz)) (zF6.mono fun z zz => Or.inl zz)⟩
