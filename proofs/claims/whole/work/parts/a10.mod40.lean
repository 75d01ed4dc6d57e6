/-! ===== the reference reads a land: its statements, its head ===== -/
theorem RdM.ag {s0 s : Int → Int} {A0 A : MAs} {b : Int → Int} {n l : Int} (h : RdM s0 A0 b n) (hm : SmR s0 s) (hA : AgL A0 A l) : RdM s A b n := ⟨(hm 2 (by omega) (by omega)).trans h.1, h.2.1, fun j j0 j1 => ⟨(congrFun hA.1.1 j).trans (h.2.2 j j0 j1).1, (h.2.2 j j0 j1).2⟩⟩
theorem lnR_la {b : Int → Int} {n : Int} {X : DrS} (h1 : hrS b n (skS b n 0) = 121) (h2 : (nuS b n (skS b n 0 + 1) 1 4).1 = -1) : lnR (lsN b n 240 (nuS b n (skS b n 0 + 1) 1 4).2.1 (xYe X (nuS b n (skS b n 0 + 1) 1 4).2.2)) n (laR b n X) := by
  unfold laR
  rw [if_neg (by omega), if_neg (by omega)]
  refine ⟨fun z => ?_, fun z => ⟨fun q => ?_, fun q => ?_⟩⟩
  · rw [if_pos z]
  · rw [if_neg (by omega), if_pos q]
  · rw [if_neg (by omega), if_neg q]
set_option maxRecDepth 100000 in
set_option maxHeartbeats 4000000 in
theorem lp_X11_readLand1 {k : WC} {d : Nat} {w : MC} {h0 : AH} {s0 : Int → Int} {A0 : MAs} {b : Int → Int} {n : Int} {l : Int} {R : Int × DrS} (hd : 7 ≤ d) (hl0 : 0 ≤ l) (hl6 : l ≤ 6) (hT0 : RdM s0 A0 b n) (hc : Cx w k d 0 0 mdX11_readLand) (he : Ends w 0 0 (RLP s0 A0 l R h0)) : ∀ (zm : Nat) (i : Int) (X : DrS) (A : MAs) (s : Int → Int) (h : AH) (z2 : Option AV), n - i ≤ zm → 0 ≤ i → i ≤ n → XOK X → lnR (lsN b n zm i X) n R → DrM A l X → s 3 = i → s 4 = -1 → SmR s0 s → AgL A0 A l → MdS h s A → Fr isLm h0 h → J w 0 0 107 [some (vR (70, 0)), some (vI l), z2] [] h := by
  intro zm
  induction zm using Nat.strongRecOn with
  | _ zm ih =>
    intro i X A s h z2 hzm hi0 hi1 hX hR hD h3 h4 hm hA hS hF
    have hn := hT0.2.1
    have hT := RdM.ag hT0 hm hA
    obtain ⟨p1, p2, p3⟩ := skS_b b n i
    have p2 := p2 hi1
    have zs1 := hrM_S hT (show 0 ≤ skS b n i by omega)
    have zs2 := hrM_b hT (show 0 ≤ skS b n i by omega)
    refine j_aload_n hc dX11_readLand_107 rfl ?_
    refine j_get hc dX11_readLand_108 fX11_132 hS.1 rfl ?_
    refine j_iconst hc dX11_readLand_111 ?_
    refine j_icmp_ne (tgt := 142) hc dX11_readLand_112 (by decide) (by rw [h4]; exact ⟨by omega, by omega⟩) ⟨by omega, by omega⟩ (fun zc1 => ?_) (fun zc1 => ?_)
    · exact absurd h4 zc1
    · refine j_aload_n hc dX11_readLand_115 rfl ?_
      refine j_callV (d' := d - 1) hc dX11_readLand_116 vX11_135 hS.1 (ev_X11_look (by omega) hS (hT) (by omega) (by omega)) rfl (by omega) (by omega) (by omega) rfl rfl (Nat.le_of_ble_eq_true rfl) (retE fun zv116 zq116 zp116 => ?_)
      obtain ⟨zv7, zS7, zF7⟩ := zp116
      subst zv7
      rw [h3]
      rw [h3] at zS7
      refine j_bipush hc dX11_readLand_119 (by decide) ?_
      refine j_icmp_ne (tgt := 142) hc dX11_readLand_121 (by decide) ⟨by omega, by omega⟩ ⟨by omega, by omega⟩ (fun zc2 => ?_) (fun zc2 => ?_)
      · have z59 : hrS b n (skS b n i) ≠ 59 := by omega
        rw [lsN_no hi1 z59 zm (by omega)] at hR
        refine j_aload_n hc dX11_readLand_142 rfl ?_
        refine j_get hc dX11_readLand_143 fX11_132 zS7.1 rfl ?_
        refine j_iconst hc dX11_readLand_146 ?_
        refine j_icmp_ne (tgt := 162) hc dX11_readLand_147 (by decide) (by show inI (s 4); rw [h4]; exact ⟨by omega, by omega⟩) ⟨by omega, by omega⟩ (fun zc3 => ?_) (fun zc3 => ?_)
        · exact absurd h4 zc3
        · refine j_aload_n hc dX11_readLand_150 rfl ?_
          refine j_callV (d' := d - 1) hc dX11_readLand_151 vX11_135 zS7.1 (ev_X11_look (by omega) zS7 (hm.f3.rd (RdM.ag hT0 (SmR.rf _) hA)) (by show 0 ≤ skS b n i; omega) (by show skS b n i ≤ 900; omega)) rfl (by omega) (by omega) (by omega) rfl rfl (Nat.le_of_ble_eq_true rfl) (retE fun zv151 zq151 zp151 => ?_)
          obtain ⟨zv8, zS8, zF8⟩ := zp151
          subst zv8
          rw [show skS b n (fu s 3 (skS b n i) 3) = skS b n i from skS_idem b n i]
          rw [show skS b n (fu s 3 (skS b n i) 3) = skS b n i from skS_idem b n i] at zS8
          refine j_iconst hc dX11_readLand_154 ?_
          refine j_icmp_eq (tgt := 162) hc dX11_readLand_155 (by decide) ⟨by omega, by omega⟩ ⟨by omega, by omega⟩ (fun zc4 => ?_) (fun zc4 => ?_)
          · skip
            refine j_iconst hc dX11_readLand_162 ?_
            refine j_istore_n (L' := [_, _, _]) hc dX11_readLand_163 (Nat.le_of_ble_eq_true rfl) rfl ?_
            have zR2 : R = (-1, X) := (hR.2 rfl).2 (by show ¬ (skS b n i < n); omega)
            rw [zR2] at he
            exact lp_X11_readLand2 (by omega) hl0 hl6 hX (show fu (fu s 3 _) 3 _ 4 = -1 from h4) hm.f3.f3 hc he _ 0 A _ rfl (by omega) (by omega) hD.t.1 (fun x x0 x1 => by omega) (fun x x0 x1 => hD.t.2 x x0 x1) hA zS8 (Fr.tr (Fr.tr (hF) (zF7.mono fun z zz => Or.inl zz)) (zF8.mono fun z zz => Or.inl zz))
          · skip
            refine j_aload_n hc dX11_readLand_158 rfl ?_
            refine j_callV (d' := d - 1) hc dX11_readLand_159 vX11_142 zS8.1 (ev_X11_bad (by omega) zS8 (by show inI (skS b n i); exact ⟨by omega, by omega⟩) (by show inI (s 4); exact ⟨by omega, by omega⟩)) rfl (by omega) (by omega) (by omega) rfl rfl (Nat.le_of_ble_eq_true rfl) (retN fun zq159 zp159 => ?_)
            obtain ⟨zS6, zF6⟩ := zp159
            refine j_iconst hc dX11_readLand_162 ?_
            refine j_istore_n (L' := [_, _, _]) hc dX11_readLand_163 (Nat.le_of_ble_eq_true rfl) rfl ?_
            have zR2 : R.1 = skS b n i := (hR.2 rfl).1 (by show skS b n i < n; omega)
            have z4e : (if s 4 = -1 then skS b n i else s 4) = skS b n i := if_pos h4
            exact rl_bad2 (by omega) hn.2 zS6 (by show (if s 4 = -1 then skS b n i else s 4) ≠ -1; omega) (by show -1 ≤ (if s 4 = -1 then skS b n i else s 4) ∧ (if s 4 = -1 then skS b n i else s 4) ≤ n; omega) (by show (if s 4 = -1 then skS b n i else s 4) = R.1; omega) hm.f3.f3.f4 hA (Fr.tr (Fr.tr (Fr.tr (hF) (zF7.mono fun z zz => Or.inl zz)) (zF8.mono fun z zz => Or.inl zz)) (zF6.mono fun z zz => Or.inl zz)) hc he
      · have z59 : hrS b n (skS b n i) = 59 := by omega
        refine j_aload_n hc dX11_readLand_124 rfl ?_
        refine j_dup hc dX11_readLand_125 rfl ?_
        refine j_get hc dX11_readLand_126 fX11_125 zS7.1 rfl ?_
        rw [fu_same]
        refine j_iconst hc dX11_readLand_129 ?_
        refine j_iadd hc dX11_readLand_130 ?_
        refine j_put  hc dX11_readLand_131 pX11_125 zS7.1 rfl mset_3 ?_
        generalize ezh1 : up _ _ _ = zh1
        have zzmod_zh1 := MdS.pf ezh1 zS7
        refine j_aload_n hc dX11_readLand_134 rfl ?_
        refine j_iload_n hc dX11_readLand_135 rfl ?_
        refine j_callV (d' := d - 1) hc dX11_readLand_136 vX11_153 zzmod_zh1.1 (ev_X11_statement (X := X) (by omega) zzmod_zh1 (hm.f3.f3.rd (RdM.ag hT0 (SmR.rf _) hA)) hl0 hl6 hX hD (by show 0 ≤ skS b n i + 1; omega) (by show skS b n i + 1 ≤ n; omega) (by show s 4 = -1; exact h4)) rfl (by omega) (by omega) (by omega) rfl rfl (Nat.le_of_ble_eq_true rfl) (retN fun zq136 zp136 => ?_)
        obtain ⟨s9, A9, zS9, zm9, zA9, zF9, z39, z49, zR9⟩ := zp136
        refine j_goto (tgt := 107) hc dX11_readLand_139 (by decide) ?_
        obtain ⟨zm2, rfl⟩ : ∃ x, zm = x + 1 := ⟨zm - 1, by omega⟩
        have zR9 : StR b n (stS b n (skS b n i + 1) X) A9 l s9 := zR9
        have zl : lsN b n (zm2 + 1) i X = if (stS b n (skS b n i + 1) X).1 = -1 then lsN b n zm2 (stS b n (skS b n i + 1) X).2.1 (stS b n (skS b n i + 1) X).2.2 else ((stS b n (skS b n i + 1) X).1, 0, X) := by simp only [lsN]; rw [if_pos z59]
        rw [zl] at hR
        have zmm := hm.f3.f3.tr zm9
        have zFF : Fr isLm h0 _ := Fr.tr ((by rw [← ezh1]; exact Fr.push (Fr.tr (hF) (zF7.mono fun z zz => Or.inl zz)) (by first | exact Or.inl rfl | exact Or.inr (by decide)))) zF9
        by_cases zf : (stS b n (skS b n i + 1) X).1 = -1
        · rw [if_pos zf] at hR
          obtain ⟨zo1, zo2, zo3⟩ := stS_ok hX (by omega) (by omega) zf
          rcases zR9.2 zf with ⟨y1, y2, y3⟩ | ⟨y1, y2⟩
          · exact ih zm2 (by omega) _ _ A9 s9 _ _ (by omega) (by omega) zo3 zo1 hR y3 y2 y1 zmm (hA.tr zA9) zS9 zFF
          · exact rl_bad (by omega) hn.2 zS9 (by omega) z49 (y1.trans (lnR_dg (by omega) y2 hR).symm) zmm (hA.tr zA9) zFF hc he
        · rw [if_neg zf] at hR
          exact rl_bad (by omega) hn.2 zS9 (by rw [zR9.1 zf]; exact zf) z49 ((zR9.1 zf).trans (hR.1 zf).symm) zmm (hA.tr zA9) zFF hc he
set_option maxRecDepth 100000 in
set_option maxHeartbeats 4000000 in
theorem rl_70 {k : WC} {d : Nat} {w : MC} {h0 h : AH} {s0 s : Int → Int} {A0 A : MAs} {b : Int → Int} {n : Int} {l : Int} {cn hv ws sk wt : Int → Int} (hz : zrC cn hv ws) {z2 : Option AV} (hd : 7 ≤ d) (hl0 : 0 ≤ l) (hl6 : l ≤ 6) (hT0 : RdM s0 A0 b n) (h3 : s 3 = 0) (h4 : s 4 = -1) (a8 : A 8 l = 0) (a9 : A 9 l = 0) (a13 : A 13 l = 0) (a14 : A 14 l = 0) (a15 : A 15 l = 20) (a12 : ∀ q : Int, 0 ≤ q → q < 4 → A 12 (4 * l + q) = 0) (hm : SmR s0 s) (hA : AgL A0 A l) (hS : MdS h s A) (hF : Fr isLm h0 h) (hc : Cx w k d 0 0 mdX11_readLand) (he : Ends w 0 0 (RLP s0 A0 l (laR b n (x0S cn hv ws sk wt)) h0)) : J w 0 0 70 [some (vR (70, 0)), some (vI l), z2] [] h := by
  have hn := hT0.2.1
  have hT := RdM.ag hT0 hm hA
  obtain ⟨p1, p2, p3⟩ := skS_b b n 0
  have p2 := p2 (by omega)
  have zs1 := hrM_S hT (show 0 ≤ skS b n 0 by omega)
  have zs2 := hrM_b hT (show 0 ≤ skS b n 0 by omega)
  have z4e : (if s 4 = -1 then skS b n 0 else s 4) = skS b n 0 := if_pos h4
  refine j_aload_n hc dX11_readLand_70 rfl ?_
  refine j_callV (d' := d - 1) hc dX11_readLand_71 vX11_135 hS.1 (ev_X11_look (by omega) hS (RdM.ag hT0 hm hA) (by omega) (by omega)) rfl (by omega) (by omega) (by omega) rfl rfl (Nat.le_of_ble_eq_true rfl) (retE fun zv71 zq71 zp71 => ?_)
  obtain ⟨zv7, zS7, zF7⟩ := zp71
  subst zv7
  rw [h3]
  rw [h3] at zS7
  refine j_bipush hc dX11_readLand_74 (by decide) ?_
  refine j_icmp_eq (tgt := 83) hc dX11_readLand_76 (by decide) ⟨by omega, by omega⟩ ⟨by omega, by omega⟩ (fun zc1 => ?_) (fun zc1 => ?_)
  · have z121 : hrS b n (skS b n 0) = 121 := by omega
    refine j_aload_n hc dX11_readLand_83 rfl ?_
    refine j_dup hc dX11_readLand_84 rfl ?_
    refine j_get hc dX11_readLand_85 fX11_125 zS7.1 rfl ?_
    rw [fu_same]
    refine j_iconst hc dX11_readLand_88 ?_
    refine j_iadd hc dX11_readLand_89 ?_
    refine j_put  hc dX11_readLand_90 pX11_125 zS7.1 rfl mset_3 ?_
    generalize ezh1 : up _ _ _ = zh1
    have zzmod_zh1 := MdS.pf ezh1 zS7
    refine j_aload_n hc dX11_readLand_93 rfl ?_
    refine j_get hc dX11_readLand_94 fX11_13 zzmod_zh1.1 rfl ?_
    refine j_iload_n hc dX11_readLand_97 rfl ?_
    refine j_aload_n hc dX11_readLand_98 rfl ?_
    refine j_iconst hc dX11_readLand_99 ?_
    refine j_iconst hc dX11_readLand_100 ?_
    refine j_iconst hc dX11_readLand_101 ?_
    refine j_iconst hc dX11_readLand_102 ?_
    refine j_callV (d' := d - 1) hc dX11_readLand_103 vX11_149 zzmod_zh1.1 (ev_X11_number (l := -1) (by omega) zzmod_zh1 (hm.f3.f3.rd (RdM.ag hT0 (SmR.rf _) hA)) ⟨by omega, by omega⟩ ⟨by omega, by omega⟩ (by omega) ⟨by omega, by omega⟩ (Or.inl rfl) (by show 0 ≤ skS b n 0 + 1; omega) (by show skS b n 0 + 1 ≤ n; omega) (by show s 4 = -1; exact h4)) rfl (by omega) (by omega) (by omega) rfl rfl (Nat.le_of_ble_eq_true rfl) (retE fun zv103 zq103 zp103 => ?_)
    obtain ⟨x1, i1, w1, u1, zv1, zN1, zi1, zw1, zS1, z31, z41, zm1, zF1⟩ := zp103
    subst zv1
    refine j_iast hc dX11_readLand_106 zS1.2.2.1 (by omega) (by omega) ?_
    generalize ezh2 : up _ _ _ = zh2
    have zzmod_zh2 := MdS.pa_6 ezh2 zS1
    have zN : NuM A b n (nuS b n (skS b n 0 + 1) 1 4) 1 4 (-1) (-1) x1 i1 w1 := zN1
    have zb := nuS_b (b := b) (lo := 1) (hi := 4) (show 0 ≤ skS b n 0 + 1 by omega) (show skS b n 0 + 1 ≤ n by omega)
    have zmm := hm.f3.f3.tr zm1
    have zAA := hA.tr (AgL.f6 A l x1)
    have zFF : Fr isLm h0 zh2 := (by rw [← ezh2]; exact Fr.push (Fr.tr ((by rw [← ezh1]; exact Fr.push (Fr.tr (hF) (zF7.mono fun z zz => Or.inl zz)) (by first | exact Or.inl rfl | exact Or.inr (by decide)))) (zF1.mono fun z zz => Or.inl zz)) (by first | exact Or.inl rfl | exact Or.inr (by decide)))
    by_cases zr : (nuS b n (skS b n 0 + 1) 1 4).1 ≠ -1
    · have zw := zN.2.1 zr
      exact rl_bad (by omega) hn.2 zzmod_zh2 (by omega) (by omega) (by unfold laR; rw [if_neg (by omega), if_pos zr]; omega) zmm zAA zFF hc he
    · have zr2 : (nuS b n (skS b n 0 + 1) 1 4).1 = -1 := by omega
      have zb5 := zb.2.2.2.2 zr2
      have zl := lnR_la (X := (x0S cn hv ws sk wt)) z121 zr2
      obtain ⟨zx, zy⟩ := (zN.2.2 zr2).2 (fun z => by rcases z with z | z; (· omega); exact z.1 rfl)
      rcases zy with ⟨y1, y2, y3⟩ | ⟨y1, y2⟩
      · exact lp_X11_readLand1 (by omega) hl0 hl6 hT0 hc he 240 (nuS b n (skS b n 0 + 1) 1 4).2.1 (xYe (x0S cn hv ws sk wt) (nuS b n (skS b n 0 + 1) 1 4).2.2) (fuA A 6 (fu (A 6) l x1)) u1 _ _ (by omega) (by omega) (by omega) (x0_ok hz (by omega) (by omega)) zl ⟨(fu_same _ _ _).trans zx, a8, a9, a13, a14, a15, fun q q0 q1 => ⟨(a12 q q0 q1).trans (hz.2.1 q q0 q1).symm, fun i i0 i1 => by have i1 : i < hv q := i1; rw [hz.2.1 q q0 q1] at i1; omega⟩, fun j j0 j1 => by have j1 : j < 0 := j1; omega⟩ (z31.trans y2) (z41.trans y1) zmm zAA zzmod_zh2 zFF
      · exact rl_bad (by omega) hn.2 zzmod_zh2 (by omega) (by omega) ((z41.trans y1).trans (lnR_dg (by omega) y2 zl).symm) zmm zAA zFF hc he
  · have z121 : hrS b n (skS b n 0) ≠ 121 := by omega
    refine j_aload_n hc dX11_readLand_79 rfl ?_
    refine j_callV (d' := d - 1) hc dX11_readLand_80 vX11_142 zS7.1 (ev_X11_bad (by omega) zS7 (by show inI (skS b n 0); exact ⟨by omega, by omega⟩) (by show inI (s 4); exact ⟨by omega, by omega⟩)) rfl (by omega) (by omega) (by omega) rfl rfl (Nat.le_of_ble_eq_true rfl) (retN fun zq80 zp80 => ?_)
    obtain ⟨zS6, zF6⟩ := zp80
    refine j_aload_n hc dX11_readLand_83 rfl ?_
    refine j_dup hc dX11_readLand_84 rfl ?_
    refine j_get hc dX11_readLand_85 fX11_125 zS6.1 rfl ?_
    rw [show fu (fu s 3 (skS b n 0)) 4 _ 3 = skS b n 0 from rfl]
    refine j_iconst hc dX11_readLand_88 ?_
    refine j_iadd hc dX11_readLand_89 ?_
    refine j_put  hc dX11_readLand_90 pX11_125 zS6.1 rfl mset_3 ?_
    generalize ezh3 : up _ _ _ = zh3
    have zzmod_zh3 := MdS.pf ezh3 zS6
    refine j_aload_n hc dX11_readLand_93 rfl ?_
    refine j_get hc dX11_readLand_94 fX11_13 zzmod_zh3.1 rfl ?_
    refine j_iload_n hc dX11_readLand_97 rfl ?_
    refine j_aload_n hc dX11_readLand_98 rfl ?_
    refine j_iconst hc dX11_readLand_99 ?_
    refine j_iconst hc dX11_readLand_100 ?_
    refine j_iconst hc dX11_readLand_101 ?_
    refine j_iconst hc dX11_readLand_102 ?_
    refine j_callV (d' := d - 1) hc dX11_readLand_103 vX11_149 zzmod_zh3.1 (ev_X11_number_w (by omega) zzmod_zh3 (by show (if s 4 = -1 then skS b n 0 else s 4) ≠ -1; omega) (by show inI (if s 4 = -1 then skS b n 0 else s 4); rw [z4e]; exact ⟨by omega, by omega⟩)) rfl (by omega) (by omega) (by omega) rfl rfl (Nat.le_of_ble_eq_true rfl) (ret1 ?_)
    refine j_iast hc dX11_readLand_106 zzmod_zh3.2.2.1 (by omega) (by omega) ?_
    generalize ezh4 : up _ _ _ = zh4
    have zzmod_zh4 := MdS.pa_6 ezh4 zzmod_zh3
    exact rl_bad (by omega) hn.2 zzmod_zh4 (by show (if s 4 = -1 then skS b n 0 else s 4) ≠ -1; omega) (by show -1 ≤ (if s 4 = -1 then skS b n 0 else s 4) ∧ (if s 4 = -1 then skS b n 0 else s 4) ≤ n; omega) (by show (if s 4 = -1 then skS b n 0 else s 4) = (laR b n (x0S cn hv ws sk wt)).1; rw [z4e]; unfold laR; rw [if_pos z121]) hm.f3.f4.f3 (hA.tr (AgL.f6 A l _)) ((by rw [← ezh4]; exact Fr.push ((by rw [← ezh3]; exact Fr.push (Fr.tr (Fr.tr (hF) (zF7.mono fun z zz => Or.inl zz)) (zF6.mono fun z zz => Or.inl zz)) (by first | exact Or.inl rfl | exact Or.inr (by decide)))) (by first | exact Or.inl rfl | exact Or.inr (by decide)))) hc he
set_option maxRecDepth 100000 in
set_option maxHeartbeats 4000000 in
theorem lp_X11_readLand0 {k : WC} {d : Nat} {w : MC} {h0 : AH} {s0 s : Int → Int} {A0 A : MAs} {b : Int → Int} {n : Int} {l : Int} {cn hv ws sk wt : Int → Int} (hz : zrC cn hv ws) (hd : 7 ≤ d) (hl0 : 0 ≤ l) (hl6 : l ≤ 6) (hT0 : RdM s0 A0 b n) (h3 : s 3 = 0) (h4 : s 4 = -1) (a8 : A 8 l = 0) (a9 : A 9 l = 0) (a13 : A 13 l = 0) (a14 : A 14 l = 0) (a15 : A 15 l = 20) (hm : SmR s0 s) (hc : Cx w k d 0 0 mdX11_readLand) (he : Ends w 0 0 (RLP s0 A0 l (laR b n (x0S cn hv ws sk wt)) h0)) : ∀ (zm : Nat) (q : Int) (g : Int → Int) (h : AH), (4 - q).toNat = zm → 0 ≤ q → q ≤ 4 → (∀ x : Int, 0 ≤ x → x < q → g (4 * l + x) = 0) → AgL A0 (fuA A 12 g) l → MdS h s (fuA A 12 g) → Fr isLm h0 h → J w 0 0 48 [some (vR (70, 0)), some (vI l), some (vI q)] [] h := by
  intro zm
  induction zm using Nat.strongRecOn with
  | _ zm ih =>
    intro q g h hm2 hq0 hq4 hg hA hS hF
    refine j_iload_n hc dX11_readLand_48 rfl ?_
    refine j_iconst hc dX11_readLand_49 ?_
    refine j_icmp_ge (tgt := 70) hc dX11_readLand_50 (by decide) ⟨by omega, by omega⟩ ⟨by omega, by omega⟩ (fun zc1 => ?_) (fun zc1 => ?_)
    · exact rl_70 (A := fuA A 12 g) hz hd hl0 hl6 hT0 h3 h4 a8 a9 a13 a14 a15 (fun x x0 x1 => hg x x0 (by omega)) hm hA hS hF hc he
    · refine j_aload_n hc dX11_readLand_53 rfl ?_
      refine j_get hc dX11_readLand_54 fX11_31 hS.1 rfl ?_
      refine j_iconst hc dX11_readLand_57 ?_
      refine j_iload_n hc dX11_readLand_58 rfl ?_
      refine j_imul hc dX11_readLand_59 ?_
      refine j_iload_n hc dX11_readLand_60 rfl ?_
      refine j_iadd hc dX11_readLand_61 ?_
      refine j_iconst hc dX11_readLand_62 ?_
      refine j_iast hc dX11_readLand_63 hS.2.2.2.2.2.2.2.2.1 (by omega) (by omega) ?_
      generalize ezh1 : up _ _ _ = zh1
      have zzmod_zh1 := MdS.pa_12 ezh1 hS
      refine j_iinc (L' := [_, _, _]) hc dX11_readLand_64 rfl (Nat.le_of_ble_eq_true rfl) rfl ?_
      refine j_goto (tgt := 48) hc dX11_readLand_67 (by decide) ?_
      have zS2 := zzmod_zh1
      have zA2 := hA.tr (AgL.f12 (fuA A 12 g) l 0 (q := q) (by omega) (by omega))
      rw [fuA_fuA] at zS2 zA2
      exact ih (4 - (q + 1)).toNat (by omega) (q + 1) _ _ rfl (by omega) (by omega) (fun x x0 x1 => by by_cases e : x = q; (· rw [e]; exact fu_same _ _ _); exact (fu_ne (by omega)).trans (hg x x0 (by omega))) zA2 zS2 (by rw [← ezh1]; exact hF.push (Or.inr (by decide)))
set_option maxRecDepth 100000 in
set_option maxHeartbeats 4000000 in
theorem ev_X11_readLand {k : WC} {d : Nat} {h : AH} {s : Int → Int} {A : MAs} {b : Int → Int} {n : Int} {l : Int} {cn hv ws sk wt : Int → Int} (hz : zrC cn hv ws) (hd : 7 ≤ d) (hS : MdS h s A) (hT : RdM s A b n) (hl0 : 0 ≤ l) (hl6 : l ≤ 6) : Ev k d mdX11_readLand h [vR (70, 0), vI l] 0 0 (RLP s A l (laR b n (x0S cn hv ws sk wt)) h) := by
  refine Ev.mk (by decide +kernel) [_, _, _] rfl (Nat.le_of_ble_eq_true rfl) (fun w hc he => ?_)
  refine j_aload_n hc dX11_readLand_0 rfl ?_
  refine j_iconst hc dX11_readLand_1 ?_
  refine j_put  hc dX11_readLand_2 pX11_125 hS.1 rfl mset_3 ?_
  generalize ezh1 : up _ _ _ = zh1
  have zzmod_zh1 := MdS.pf ezh1 hS
  refine j_aload_n hc dX11_readLand_5 rfl ?_
  refine j_iconst hc dX11_readLand_6 ?_
  refine j_put  hc dX11_readLand_7 pX11_132 zzmod_zh1.1 rfl mset_4 ?_
  generalize ezh2 : up _ _ _ = zh2
  have zzmod_zh2 := MdS.pf ezh2 zzmod_zh1
  refine j_aload_n hc dX11_readLand_10 rfl ?_
  refine j_get hc dX11_readLand_11 fX11_19 zzmod_zh2.1 rfl ?_
  refine j_iload_n hc dX11_readLand_14 rfl ?_
  refine j_iconst hc dX11_readLand_15 ?_
  refine j_iast hc dX11_readLand_16 zzmod_zh2.2.2.2.2.1 (by omega) (by omega) ?_
  generalize ezh3 : up _ _ _ = zh3
  have zzmod_zh3 := MdS.pa_8 ezh3 zzmod_zh2
  refine j_aload_n hc dX11_readLand_17 rfl ?_
  refine j_get hc dX11_readLand_18 fX11_22 zzmod_zh3.1 rfl ?_
  refine j_iload_n hc dX11_readLand_21 rfl ?_
  refine j_iconst hc dX11_readLand_22 ?_
  refine j_iast hc dX11_readLand_23 zzmod_zh3.2.2.2.2.2.1 (by omega) (by omega) ?_
  generalize ezh4 : up _ _ _ = zh4
  have zzmod_zh4 := MdS.pa_9 ezh4 zzmod_zh3
  refine j_aload_n hc dX11_readLand_24 rfl ?_
  refine j_get hc dX11_readLand_25 fX11_34 zzmod_zh4.1 rfl ?_
  refine j_iload_n hc dX11_readLand_28 rfl ?_
  refine j_iconst hc dX11_readLand_29 ?_
  refine j_iast hc dX11_readLand_30 zzmod_zh4.2.2.2.2.2.2.2.2.2.1 (by omega) (by omega) ?_
  generalize ezh5 : up _ _ _ = zh5
  have zzmod_zh5 := MdS.pa_13 ezh5 zzmod_zh4
  refine j_aload_n hc dX11_readLand_31 rfl ?_
  refine j_get hc dX11_readLand_32 fX11_37 zzmod_zh5.1 rfl ?_
  refine j_iload_n hc dX11_readLand_35 rfl ?_
  refine j_iconst hc dX11_readLand_36 ?_
  refine j_iast hc dX11_readLand_37 zzmod_zh5.2.2.2.2.2.2.2.2.2.2.1 (by omega) (by omega) ?_
  generalize ezh6 : up _ _ _ = zh6
  have zzmod_zh6 := MdS.pa_14 ezh6 zzmod_zh5
  refine j_aload_n hc dX11_readLand_38 rfl ?_
  refine j_get hc dX11_readLand_39 fX11_40 zzmod_zh6.1 rfl ?_
  refine j_iload_n hc dX11_readLand_42 rfl ?_
  refine j_bipush hc dX11_readLand_43 (by decide) ?_
  refine j_iast hc dX11_readLand_45 zzmod_zh6.2.2.2.2.2.2.2.2.2.2.2.1 (by omega) (by omega) ?_
  generalize ezh7 : up _ _ _ = zh7
  have zzmod_zh7 := MdS.pa_15 ezh7 zzmod_zh6
  refine j_iconst hc dX11_readLand_46 ?_
  refine j_istore_n (L' := [_, _, _]) hc dX11_readLand_47 (Nat.le_of_ble_eq_true rfl) rfl ?_
  have zS2 := zzmod_zh7
  have zA2 := ((((AgL.f8 A l 0).tr (AgL.f9 _ l 0)).tr (AgL.f13 _ l 0)).tr (AgL.f14 _ l 0)).tr (AgL.f15 _ l 20)
  exact lp_X11_readLand0 (A := (fuA (fuA (fuA (fuA (fuA A 8 (fu (A 8) l 0)) 9 (fu ((fuA A 8 (fu (A 8) l 0)) 9) l 0)) 13 (fu ((fuA (fuA A 8 (fu (A 8) l 0)) 9 (fu ((fuA A 8 (fu (A 8) l 0)) 9) l 0)) 13) l 0)) 14 (fu ((fuA (fuA (fuA A 8 (fu (A 8) l 0)) 9 (fu ((fuA A 8 (fu (A 8) l 0)) 9) l 0)) 13 (fu ((fuA (fuA A 8 (fu (A 8) l 0)) 9 (fu ((fuA A 8 (fu (A 8) l 0)) 9) l 0)) 13) l 0)) 14) l 0)) 15 (fu ((fuA (fuA (fuA (fuA A 8 (fu (A 8) l 0)) 9 (fu ((fuA A 8 (fu (A 8) l 0)) 9) l 0)) 13 (fu ((fuA (fuA A 8 (fu (A 8) l 0)) 9 (fu ((fuA A 8 (fu (A 8) l 0)) 9) l 0)) 13) l 0)) 14 (fu ((fuA (fuA (fuA A 8 (fu (A 8) l 0)) 9 (fu ((fuA A 8 (fu (A 8) l 0)) 9) l 0)) 13 (fu ((fuA (fuA A 8 (fu (A 8) l 0)) 9 (fu ((fuA A 8 (fu (A 8) l 0)) 9) l 0)) 13) l 0)) 14) l 0)) 15) l 20))) hz hd hl0 hl6 hT rfl rfl (fu_same _ _ _) (fu_same _ _ _) (fu_same _ _ _) (fu_same _ _ _) (fu_same _ _ _) (SmR.rf s).f3.f4 hc he _ 0 ((fuA (fuA (fuA (fuA (fuA A 8 (fu (A 8) l 0)) 9 (fu ((fuA A 8 (fu (A 8) l 0)) 9) l 0)) 13 (fu ((fuA (fuA A 8 (fu (A 8) l 0)) 9 (fu ((fuA A 8 (fu (A 8) l 0)) 9) l 0)) 13) l 0)) 14 (fu ((fuA (fuA (fuA A 8 (fu (A 8) l 0)) 9 (fu ((fuA A 8 (fu (A 8) l 0)) 9) l 0)) 13 (fu ((fuA (fuA A 8 (fu (A 8) l 0)) 9 (fu ((fuA A 8 (fu (A 8) l 0)) 9) l 0)) 13) l 0)) 14) l 0)) 15 (fu ((fuA (fuA (fuA (fuA A 8 (fu (A 8) l 0)) 9 (fu ((fuA A 8 (fu (A 8) l 0)) 9) l 0)) 13 (fu ((fuA (fuA A 8 (fu (A 8) l 0)) 9 (fu ((fuA A 8 (fu (A 8) l 0)) 9) l 0)) 13) l 0)) 14 (fu ((fuA (fuA (fuA A 8 (fu (A 8) l 0)) 9 (fu ((fuA A 8 (fu (A 8) l 0)) 9) l 0)) 13 (fu ((fuA (fuA A 8 (fu (A 8) l 0)) 9 (fu ((fuA A 8 (fu (A 8) l 0)) 9) l 0)) 13) l 0)) 14) l 0)) 15) l 20)) 12) _ rfl (by omega) (by omega) (fun x x0 x1 => by omega) (by rw [fuA_self]; exact zA2) (by rw [fuA_self]; exact zS2) ((by rw [← ezh7]; exact Fr.push ((by rw [← ezh6]; exact Fr.push ((by rw [← ezh5]; exact Fr.push ((by rw [← ezh4]; exact Fr.push ((by rw [← ezh3]; exact Fr.push ((by rw [← ezh2]; exact Fr.push ((by rw [← ezh1]; exact Fr.push (Fr.rf _ _) (by first | exact Or.inl rfl | exact Or.inr (by decide)))) (by first | exact Or.inl rfl | exact Or.inr (by decide)))) (by first | exact Or.inl rfl | exact Or.inr (by decide)))) (by first | exact Or.inl rfl | exact Or.inr (by decide)))) (by first | exact Or.inl rfl | exact Or.inr (by decide)))) (by first | exact Or.inl rfl | exact Or.inr (by decide)))) (by first | exact Or.inl rfl | exact Or.inr (by decide))))
