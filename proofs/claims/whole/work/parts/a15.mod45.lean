/-! ===== the reference reads a rule: units ===== -/
theorem ExG.at_ {s a0 s' g : Int → Int} {n r p : Int} {R : RP} (h : ExG (fu s 3 p) a0 n r R s' g) (hp : s 3 ≤ p) : ExG s a0 n r R s' g := by
  obtain ⟨e5, eb, en, ey⟩ := h
  have eb : 2 * s' 29 ≤ 2 * s 29 + 3 * (n - p) + 1 := eb
  have hm : ∀ {u : Int → Int}, SmE (fu s 3 p) u → SmE s u := fun z => (SmE.rf s).f3.tr z
  refine ⟨e5, by omega, fun z => ⟨hm (en z).1, (en z).2⟩, fun z => ⟨⟨hm (ey z).1.1, (ey z).1.2⟩, ?_⟩⟩
  have y2 : 2 * s' 29 ≤ 2 * s 29 + 3 * (R.2.1 - p) + 1 := (ey z).2
  omega
theorem mo_not {s a0 sO s2 g2 : Int → Int} {n r p : Int} {Y : RP} (hG : Gs s a0 r (p + 1) [] sO a0) (hO : sO 5 = s 5 + 1) (hp : s 3 ≤ p) (hpn : p < n) (h290 : 0 ≤ s 29) (h29 : 2 * s 29 + 3 * (n - s 3) ≤ 790) (hY : RpB n (p + 1) Y) (hE : ExG sO a0 n r Y s2 g2) :
    ExG s a0 n r (rpT Y fun j t => (-1, j, t ++ [-15])) (fu (fu s2 5 (s2 5 - 1)) 29 (s2 29 + 1)) (fu g2 (400 * r + s2 29) 33) ∧ 0 ≤ s2 29 ∧ s2 29 < 400 ∧ SmE s s2 := by
  obtain ⟨e5, eb, en, ey⟩ := hE
  have o29 := hG.2.2.2.1
  have o3 := hG.2.2.1
  simp only [List.length_nil] at o29
  by_cases zf : Y.1 = -1
  · obtain ⟨y1, y2⟩ := ey zf
    have hy := hY.2.2 zf
    have zG := hG.seq y1
    have z29 := zG.2.2.2.1
    rw [rpT_ok zf]
    refine ⟨ExG.of_ok rfl (by show s2 5 - 1 = s 5; omega) (by omega) (by show 2 * (s2 29 + 1) ≤ _; omega) ?_, by omega, by omega, zG.1⟩
    rw [trL_app, trL_1]
    exact (zG.dp (v := s2 5 - 1)).say (c := 33) (by show s2 29 < 400; omega)
  · have zB := hG.bad (en zf)
    have zb4 := zB.2.2.2.1
    rw [rpT_no zf]
    exact ⟨ExG.of_bad rfl zf (by show s2 5 - 1 = s 5; omega) (by show 2 * (s2 29 + 1) ≤ _; omega) ((zB.dp (v := s2 5 - 1)).say (c := 33) (by show s2 29 < 400; omega)), by omega, by omega, zB.1⟩
set_option maxRecDepth 100000 in
set_option maxHeartbeats 4000000 in
theorem mt_unit1 {k : WC} {b : Int → Int} {n r dp : Int} {c : Nat} {S : Int → RP} (hr0 : 0 ≤ r) (hr6 : r ≤ 6) (hg : GdP n S) (hP : NtM k mdX11_sum [] b n r dp c S) : NtM k mdX11_unit [vI 1] b n r dp (c + 5) (cmG b n S) := by
  intro d h s A hd hS hT h30 h31 h4 h5 h28 h290 h29
  have hn := hT.2.1
  obtain ⟨p1, p2, p3⟩ := skS_b b n (s 3)
  have p2 := p2 h31
  have zs1 := hrM_S hT (show 0 ≤ skS b n (s 3) by omega)
  have zs2 := hrM_b hT (show 0 ≤ skS b n (s 3) by omega)
  have hS0 : MdS h s (fuA A 23 (A 23)) := by rw [fuA_self]; exact hS
  refine Ev.mk (by decide +kernel) [_, _, _] rfl (Nat.le_of_ble_eq_true rfl) (fun w hc he => ?_)
  refine j_aload_n hc dX11_unit_0 rfl ?_
  refine j_get hc dX11_unit_1 fX11_132 hS0.1 rfl ?_
  refine j_iconst hc dX11_unit_4 ?_
  refine j_icmp_ne (tgt := 15) hc dX11_unit_5 (by decide) (by rw [h4]; exact ⟨by omega, by omega⟩) ⟨by omega, by omega⟩ (fun zc1 => ?_) (fun zc1 => ?_)
  · exact absurd h4 zc1
  · refine j_aload_n hc dX11_unit_8 rfl ?_
    refine j_callV (d' := d - 1) hc dX11_unit_9 vX11_135 hS0.1 (ev_X11_look (by omega) hS0 (SmE.rd (SmE.rf s) hT rfl) h30 (by omega)) rfl (by omega) (by omega) (by omega) rfl rfl (Nat.le_of_ble_eq_true rfl) (retE fun zv9 zq9 zp9 => ?_)
    obtain ⟨zv7, zS7, zF7⟩ := zp9
    subst zv7
    skip
    refine j_goto (tgt := 16) hc dX11_unit_12 (by decide) ?_
    refine j_istore_n (L' := [_, _, _]) hc dX11_unit_16 (Nat.le_of_ble_eq_true rfl) rfl ?_
    refine j_iload_n hc dX11_unit_17 rfl ?_
    refine j_if_ne (b := 0) (tgt := 88) hc dX11_unit_18 (by decide) ⟨by omega, by omega⟩ (fun zc2 => ?_) (fun zc2 => ?_)
    · refine j_iload_n hc dX11_unit_88 rfl ?_
      refine j_if_ne (b := 0) (tgt := 96) hc dX11_unit_89 (by decide) ⟨by omega, by omega⟩ (fun zc3 => ?_) (fun zc3 => ?_)
      · exact tl_X11_cmp (X := (-1, skS b n (s 3), [])) (s1 := fu s 3 (skS b n (s 3))) (g1 := A 23) hr0 hr6 hg hP (by omega) hT h30 h31 h5 h28 h290 h29 ⟨by show (-1 : Int) ≤ -1; omega, by show (-1 : Int) ≤ n; omega, fun _ => ⟨p1, p2, by simp only [List.length_nil]; omega⟩⟩ (ExG.of_ok (j := skS b n (s 3)) (t := []) rfl rfl p2 (by show 2 * s 29 ≤ _; omega) (Gs.st (A 23) r h4).at_) (by
          rw [rpT_ok rfl]
          show (rpT (cmG b n S (skS b n (s 3))) fun j' t' => (-1, j', [] ++ t')) = cmG b n S (s 3)
          have e1 : cmG b n S (skS b n (s 3)) = cmG b n S (s 3) := by unfold cmG; rw [skS_idem]
          rw [e1]
          by_cases zy : (cmG b n S (s 3)).1 = -1
          · rw [rpT_ok zy, List.nil_append, ← zy]
          · rw [rpT_no zy]
            unfold cmG at zy ⊢
            split
            · rename_i q1
              rw [if_pos q1] at zy
              by_cases zu : (S (skS b n (s 3) + 1)).1 = -1
              · rw [rpT_ok zu] at zy
                exact absurd rfl zy
              · rw [rpT_no zu]
                rfl
            · rfl) zS7 (Fr.tr (Fr.rf _ _) (zF7.mono fun z zz => Or.inl zz)) hc he
      · exact absurd zc3 (by decide)
    · exact absurd zc2 (by decide)
set_option maxRecDepth 100000 in
set_option maxHeartbeats 4000000 in
theorem mt_unit0 {k : WC} {b : Int → Int} {n r dp : Int} {c : Nat} {S : Int → RP} {U : Option (Int → RP)} (hr0 : 0 ≤ r) (hr6 : r ≤ 6) (hdp0 : 0 ≤ dp) (hg : GdP n S) (hP : NtM k mdX11_sum [] b n r dp c S) (h6 : U = none → dp = 6) (hU : ∀ u, U = some u → dp < 6 ∧ GdP n u ∧ NtM k mdX11_unit [vI 0] b n r (dp + 1) c u ∧ NtM k mdX11_condition [vI 0] b n r (dp + 1) c (fun i => coG b n u (u i))) : NtM k mdX11_unit [vI 0] b n r dp (c + 5) (unG b n U S) := by
  intro d h s A hd hS hT h30 h31 h4 h5 h28 h290 h29
  have hn := hT.2.1
  obtain ⟨p1, p2, p3⟩ := skS_b b n (s 3)
  have p2 := p2 h31
  have zs1 := hrM_S hT (show 0 ≤ skS b n (s 3) by omega)
  have zs2 := hrM_b hT (show 0 ≤ skS b n (s 3) by omega)
  have hS0 : MdS h s (fuA A 23 (A 23)) := by rw [fuA_self]; exact hS
  by_cases hq : hrM b n (skS b n (s 3)) = 33
  · have zlt : skS b n (s 3) < n := by omega
    cases U with
    | none =>
      have zdp := h6 rfl
      rw [unG_33n (show hrS b n (skS b n (s 3)) = 33 by omega)]
      refine Ev.mk (by decide +kernel) [_, _, _] rfl (Nat.le_of_ble_eq_true rfl) (fun w hc he => ?_)
      refine j_aload_n hc dX11_unit_0 rfl ?_
      refine j_get hc dX11_unit_1 fX11_132 hS0.1 rfl ?_
      refine j_iconst hc dX11_unit_4 ?_
      refine j_icmp_ne (tgt := 15) hc dX11_unit_5 (by decide) (by rw [h4]; exact ⟨by omega, by omega⟩) ⟨by omega, by omega⟩ (fun zc1 => ?_) (fun zc1 => ?_)
      · exact absurd h4 zc1
      · refine j_aload_n hc dX11_unit_8 rfl ?_
        refine j_callV (d' := d - 1) hc dX11_unit_9 vX11_135 hS0.1 (ev_X11_look (by omega) hS0 (SmE.rd (SmE.rf s) hT rfl) h30 (by omega)) rfl (by omega) (by omega) (by omega) rfl rfl (Nat.le_of_ble_eq_true rfl) (retE fun zv9 zq9 zp9 => ?_)
        obtain ⟨zv7, zS7, zF7⟩ := zp9
        subst zv7
        skip
        refine j_goto (tgt := 16) hc dX11_unit_12 (by decide) ?_
        refine j_istore_n (L' := [_, _, _]) hc dX11_unit_16 (Nat.le_of_ble_eq_true rfl) rfl ?_
        refine j_iload_n hc dX11_unit_17 rfl ?_
        refine j_if_ne (b := 0) (tgt := 88) hc dX11_unit_18 (by decide) ⟨by omega, by omega⟩ (fun zc2 => ?_) (fun zc2 => ?_)
        · exact absurd rfl zc2
        · refine j_iload_n hc dX11_unit_21 rfl ?_
          refine j_bipush hc dX11_unit_22 (by decide) ?_
          refine j_icmp_eq (tgt := 33) hc dX11_unit_24 (by decide) ⟨by omega, by omega⟩ ⟨by omega, by omega⟩ (fun zc3 => ?_) (fun zc3 => ?_)
          · refine j_aload_n hc dX11_unit_33 rfl ?_
            refine j_callV (d' := d - 1) hc dX11_unit_34 vX11_189 zS7.1 (ev_X11_opens_n (by omega) zS7 (show fu s 3 _ 5 = 6 from h5.trans zdp) (show fu s 3 _ 4 = -1 from h4)) rfl (by omega) (by omega) (by omega) rfl rfl (Nat.le_of_ble_eq_true rfl) (retN fun zq34 zp34 => ?_)
            obtain ⟨zS1, zF1⟩ := zp34
            rw [fu_same] at zS1
            refine j_aload_n hc dX11_unit_37 rfl ?_
            refine j_get hc dX11_unit_38 fX11_132 zS1.1 rfl ?_
            refine j_iconst hc dX11_unit_41 ?_
            refine j_icmp_eq (tgt := 46) hc dX11_unit_42 (by decide) (by show inI (skS b n (s 3)); exact ⟨by omega, by omega⟩) ⟨by omega, by omega⟩ (fun zc4 => ?_) (fun zc4 => ?_)
            · exact absurd (show skS b n (s 3) = -1 from zc4) (by omega)
            · exact j_vret hc he dX11_unit_45 rfl (by omega) (by omega) ⟨rfl, fu (fu s 3 (skS b n (s 3))) 4 (skS b n (s 3)), A 23, ExG.of_bad rfl (show skS b n (s 3) ≠ -1 by omega) rfl (by show 2 * s 29 ≤ 2 * s 29 + 3 * (n - s 3) + 1; omega) (((Gs.st (A 23) r h4).at_ (j' := skS b n (s 3))).wrong (by omega)), zS1, Fr.tr (Fr.tr (Fr.rf _ _) (zF7.mono fun z zz => Or.inl zz)) (zF1.mono fun z zz => Or.inl zz)⟩
          · exact absurd hq zc3
    | some u =>
      obtain ⟨zdp, zgu, zun, zco⟩ := hU u rfl
      rw [unG_33 (show hrS b n (skS b n (s 3)) = 33 by omega)]
      refine Ev.mk (by decide +kernel) [_, _, _] rfl (Nat.le_of_ble_eq_true rfl) (fun w hc he => ?_)
      refine j_aload_n hc dX11_unit_0 rfl ?_
      refine j_get hc dX11_unit_1 fX11_132 hS0.1 rfl ?_
      refine j_iconst hc dX11_unit_4 ?_
      refine j_icmp_ne (tgt := 15) hc dX11_unit_5 (by decide) (by rw [h4]; exact ⟨by omega, by omega⟩) ⟨by omega, by omega⟩ (fun zc1 => ?_) (fun zc1 => ?_)
      · exact absurd h4 zc1
      · refine j_aload_n hc dX11_unit_8 rfl ?_
        refine j_callV (d' := d - 1) hc dX11_unit_9 vX11_135 hS0.1 (ev_X11_look (by omega) hS0 (SmE.rd (SmE.rf s) hT rfl) h30 (by omega)) rfl (by omega) (by omega) (by omega) rfl rfl (Nat.le_of_ble_eq_true rfl) (retE fun zv9 zq9 zp9 => ?_)
        obtain ⟨zv7, zS7, zF7⟩ := zp9
        subst zv7
        skip
        refine j_goto (tgt := 16) hc dX11_unit_12 (by decide) ?_
        refine j_istore_n (L' := [_, _, _]) hc dX11_unit_16 (Nat.le_of_ble_eq_true rfl) rfl ?_
        refine j_iload_n hc dX11_unit_17 rfl ?_
        refine j_if_ne (b := 0) (tgt := 88) hc dX11_unit_18 (by decide) ⟨by omega, by omega⟩ (fun zc2 => ?_) (fun zc2 => ?_)
        · exact absurd rfl zc2
        · refine j_iload_n hc dX11_unit_21 rfl ?_
          refine j_bipush hc dX11_unit_22 (by decide) ?_
          refine j_icmp_eq (tgt := 33) hc dX11_unit_24 (by decide) ⟨by omega, by omega⟩ ⟨by omega, by omega⟩ (fun zc3 => ?_) (fun zc3 => ?_)
          · refine j_aload_n hc dX11_unit_33 rfl ?_
            refine j_callV (d' := d - 1) hc dX11_unit_34 vX11_189 zS7.1 (ev_X11_opens (by omega) zS7 (by show 0 ≤ s 5; omega) (by show s 5 < 6; omega)) rfl (by omega) (by omega) (by omega) rfl rfl (Nat.le_of_ble_eq_true rfl) (retN fun zq34 zp34 => ?_)
            obtain ⟨zS1, zF1⟩ := zp34
            rw [fu_same] at zS1
            have zG1 : Gs s (A 23) r (skS b n (s 3) + 1) [] (fu (fu (fu s 3 (skS b n (s 3))) 5 (fu s 3 (skS b n (s 3)) 5 + 1)) 3 (skS b n (s 3) + 1)) (A 23) := (((Gs.st (A 23) r h4).at_ (j' := skS b n (s 3))).dp).at_
            refine j_aload_n hc dX11_unit_37 rfl ?_
            refine j_get hc dX11_unit_38 fX11_132 zS1.1 rfl ?_
            refine j_iconst hc dX11_unit_41 ?_
            refine j_icmp_eq (tgt := 46) hc dX11_unit_42 (by decide) (by show inI (s 4); rw [h4]; exact ⟨by omega, by omega⟩) ⟨by omega, by omega⟩ (fun zc4 => ?_) (fun zc4 => ?_)
            · refine j_iload_n hc dX11_unit_46 rfl ?_
              refine j_bipush hc dX11_unit_47 (by decide) ?_
              refine j_icmp_ne (tgt := 76) hc dX11_unit_49 (by decide) ⟨by omega, by omega⟩ ⟨by omega, by omega⟩ (fun zc5 => ?_) (fun zc5 => ?_)
              · exact absurd hq zc5
              · refine j_aload_n hc dX11_unit_52 rfl ?_
                refine j_iconst hc dX11_unit_53 ?_
                refine j_callV (d' := d - 1) hc dX11_unit_54 vX11_204 zS1.1 (zun (d - 1) _ _ _ (by omega) zS1 (SmE.rd zG1.1 hT rfl) (by show 0 ≤ skS b n (s 3) + 1; omega) (by show skS b n (s 3) + 1 ≤ n; omega) h4 (by show s 5 + 1 = dp + 1; omega) h28 (by show 0 ≤ s 29; omega) (by show 2 * s 29 + 3 * (n - (skS b n (s 3) + 1)) ≤ 790; omega)) rfl (by omega) (by omega) (by omega) rfl rfl (Nat.le_of_ble_eq_true rfl) (retN fun zq54 zp54 => ?_)
                obtain ⟨s2, g2, zE2, zS2, zF2⟩ := zp54
                rw [fuA_at] at zE2
                rw [fuA_fuA] at zS2
                obtain ⟨zX2, zX3, zX4, zX5⟩ := mo_not zG1 rfl p1 zlt h290 h29 (zgu _ (by omega) (by omega)) zE2
                refine j_aload_n hc dX11_unit_57 rfl ?_
                refine j_dup hc dX11_unit_58 rfl ?_
                refine j_get hc dX11_unit_59 fX11_180 zS2.1 rfl ?_
                refine j_iconst hc dX11_unit_62 ?_
                refine j_isub hc dX11_unit_63 ?_
                refine j_put  hc dX11_unit_64 pX11_180 zS2.1 rfl mset_5 ?_
                generalize ezh1 : up _ _ _ = zh1
                have zzmod_zh1 := MdS.pf ezh1 zS2
                refine j_aload_n hc dX11_unit_67 rfl ?_
                refine j_bipush hc dX11_unit_68 (by decide) ?_
                refine j_callV (d' := d - 1) hc dX11_unit_70 vX11_183 zzmod_zh1.1 (ev_X11_say' (by omega) zzmod_zh1 hr0 hr6 (zX5.f5.in_ h28) (zX3) (zX4)) rfl (by omega) (by omega) (by omega) rfl rfl (Nat.le_of_ble_eq_true rfl) (retN fun zq70 zp70 => ?_)
                obtain ⟨zS5, zF5⟩ := zp70
                refine j_goto (tgt := 87) hc dX11_unit_73 (by decide) ?_
                exact j_vret hc he dX11_unit_87 rfl (by omega) (by omega) ⟨rfl, _, _, zX2, zS5, Fr.tr ((by rw [← ezh1]; exact Fr.push (Fr.tr (Fr.tr (Fr.tr (Fr.rf _ _) (zF7.mono fun z zz => Or.inl zz)) (zF1.mono fun z zz => Or.inl zz)) zF2) (Or.inl rfl))) zF5⟩
            · exact absurd h4 zc4
          · exact absurd hq zc3
  by_cases hq2 : hrM b n (skS b n (s 3)) = 40
  · have zlt : skS b n (s 3) < n := by omega
    cases U with
    | none =>
      have zdp := h6 rfl
      rw [unG_40n (show hrS b n (skS b n (s 3)) = 40 by omega)]
      refine Ev.mk (by decide +kernel) [_, _, _] rfl (Nat.le_of_ble_eq_true rfl) (fun w hc he => ?_)
      refine j_aload_n hc dX11_unit_0 rfl ?_
      refine j_get hc dX11_unit_1 fX11_132 hS0.1 rfl ?_
      refine j_iconst hc dX11_unit_4 ?_
      refine j_icmp_ne (tgt := 15) hc dX11_unit_5 (by decide) (by rw [h4]; exact ⟨by omega, by omega⟩) ⟨by omega, by omega⟩ (fun zc1 => ?_) (fun zc1 => ?_)
      · exact absurd h4 zc1
      · refine j_aload_n hc dX11_unit_8 rfl ?_
        refine j_callV (d' := d - 1) hc dX11_unit_9 vX11_135 hS0.1 (ev_X11_look (by omega) hS0 (SmE.rd (SmE.rf s) hT rfl) h30 (by omega)) rfl (by omega) (by omega) (by omega) rfl rfl (Nat.le_of_ble_eq_true rfl) (retE fun zv9 zq9 zp9 => ?_)
        obtain ⟨zv7, zS7, zF7⟩ := zp9
        subst zv7
        skip
        refine j_goto (tgt := 16) hc dX11_unit_12 (by decide) ?_
        refine j_istore_n (L' := [_, _, _]) hc dX11_unit_16 (Nat.le_of_ble_eq_true rfl) rfl ?_
        refine j_iload_n hc dX11_unit_17 rfl ?_
        refine j_if_ne (b := 0) (tgt := 88) hc dX11_unit_18 (by decide) ⟨by omega, by omega⟩ (fun zc2 => ?_) (fun zc2 => ?_)
        · exact absurd rfl zc2
        · refine j_iload_n hc dX11_unit_21 rfl ?_
          refine j_bipush hc dX11_unit_22 (by decide) ?_
          refine j_icmp_eq (tgt := 33) hc dX11_unit_24 (by decide) ⟨by omega, by omega⟩ ⟨by omega, by omega⟩ (fun zc3 => ?_) (fun zc3 => ?_)
          · exact absurd zc3 hq
          · refine j_iload_n hc dX11_unit_27 rfl ?_
            refine j_bipush hc dX11_unit_28 (by decide) ?_
            refine j_icmp_ne (tgt := 88) hc dX11_unit_30 (by decide) ⟨by omega, by omega⟩ ⟨by omega, by omega⟩ (fun zc4 => ?_) (fun zc4 => ?_)
            · exact absurd hq2 zc4
            · refine j_aload_n hc dX11_unit_33 rfl ?_
              refine j_callV (d' := d - 1) hc dX11_unit_34 vX11_189 zS7.1 (ev_X11_opens_n (by omega) zS7 (show fu s 3 _ 5 = 6 from h5.trans zdp) (show fu s 3 _ 4 = -1 from h4)) rfl (by omega) (by omega) (by omega) rfl rfl (Nat.le_of_ble_eq_true rfl) (retN fun zq34 zp34 => ?_)
              obtain ⟨zS1, zF1⟩ := zp34
              rw [fu_same] at zS1
              refine j_aload_n hc dX11_unit_37 rfl ?_
              refine j_get hc dX11_unit_38 fX11_132 zS1.1 rfl ?_
              refine j_iconst hc dX11_unit_41 ?_
              refine j_icmp_eq (tgt := 46) hc dX11_unit_42 (by decide) (by show inI (skS b n (s 3)); exact ⟨by omega, by omega⟩) ⟨by omega, by omega⟩ (fun zc5 => ?_) (fun zc5 => ?_)
              · exact absurd (show skS b n (s 3) = -1 from zc5) (by omega)
              · exact j_vret hc he dX11_unit_45 rfl (by omega) (by omega) ⟨rfl, fu (fu s 3 (skS b n (s 3))) 4 (skS b n (s 3)), A 23, ExG.of_bad rfl (show skS b n (s 3) ≠ -1 by omega) rfl (by show 2 * s 29 ≤ 2 * s 29 + 3 * (n - s 3) + 1; omega) (((Gs.st (A 23) r h4).at_ (j' := skS b n (s 3))).wrong (by omega)), zS1, Fr.tr (Fr.tr (Fr.rf _ _) (zF7.mono fun z zz => Or.inl zz)) (zF1.mono fun z zz => Or.inl zz)⟩
    | some u =>
      obtain ⟨zdp, zgu, zun, zco⟩ := hU u rfl
      rw [unG_40 (show hrS b n (skS b n (s 3)) = 40 by omega)]
      refine Ev.mk (by decide +kernel) [_, _, _] rfl (Nat.le_of_ble_eq_true rfl) (fun w hc he => ?_)
      refine j_aload_n hc dX11_unit_0 rfl ?_
      refine j_get hc dX11_unit_1 fX11_132 hS0.1 rfl ?_
      refine j_iconst hc dX11_unit_4 ?_
      refine j_icmp_ne (tgt := 15) hc dX11_unit_5 (by decide) (by rw [h4]; exact ⟨by omega, by omega⟩) ⟨by omega, by omega⟩ (fun zc1 => ?_) (fun zc1 => ?_)
      · exact absurd h4 zc1
      · refine j_aload_n hc dX11_unit_8 rfl ?_
        refine j_callV (d' := d - 1) hc dX11_unit_9 vX11_135 hS0.1 (ev_X11_look (by omega) hS0 (SmE.rd (SmE.rf s) hT rfl) h30 (by omega)) rfl (by omega) (by omega) (by omega) rfl rfl (Nat.le_of_ble_eq_true rfl) (retE fun zv9 zq9 zp9 => ?_)
        obtain ⟨zv7, zS7, zF7⟩ := zp9
        subst zv7
        skip
        refine j_goto (tgt := 16) hc dX11_unit_12 (by decide) ?_
        refine j_istore_n (L' := [_, _, _]) hc dX11_unit_16 (Nat.le_of_ble_eq_true rfl) rfl ?_
        refine j_iload_n hc dX11_unit_17 rfl ?_
        refine j_if_ne (b := 0) (tgt := 88) hc dX11_unit_18 (by decide) ⟨by omega, by omega⟩ (fun zc2 => ?_) (fun zc2 => ?_)
        · exact absurd rfl zc2
        · refine j_iload_n hc dX11_unit_21 rfl ?_
          refine j_bipush hc dX11_unit_22 (by decide) ?_
          refine j_icmp_eq (tgt := 33) hc dX11_unit_24 (by decide) ⟨by omega, by omega⟩ ⟨by omega, by omega⟩ (fun zc3 => ?_) (fun zc3 => ?_)
          · exact absurd zc3 hq
          · refine j_iload_n hc dX11_unit_27 rfl ?_
            refine j_bipush hc dX11_unit_28 (by decide) ?_
            refine j_icmp_ne (tgt := 88) hc dX11_unit_30 (by decide) ⟨by omega, by omega⟩ ⟨by omega, by omega⟩ (fun zc4 => ?_) (fun zc4 => ?_)
            · exact absurd hq2 zc4
            · refine j_aload_n hc dX11_unit_33 rfl ?_
              refine j_callV (d' := d - 1) hc dX11_unit_34 vX11_189 zS7.1 (ev_X11_opens (by omega) zS7 (by show 0 ≤ s 5; omega) (by show s 5 < 6; omega)) rfl (by omega) (by omega) (by omega) rfl rfl (Nat.le_of_ble_eq_true rfl) (retN fun zq34 zp34 => ?_)
              obtain ⟨zS1, zF1⟩ := zp34
              rw [fu_same] at zS1
              have zG1 : Gs s (A 23) r (skS b n (s 3) + 1) [] (fu (fu (fu s 3 (skS b n (s 3))) 5 (fu s 3 (skS b n (s 3)) 5 + 1)) 3 (skS b n (s 3) + 1)) (A 23) := (((Gs.st (A 23) r h4).at_ (j' := skS b n (s 3))).dp).at_
              refine j_aload_n hc dX11_unit_37 rfl ?_
              refine j_get hc dX11_unit_38 fX11_132 zS1.1 rfl ?_
              refine j_iconst hc dX11_unit_41 ?_
              refine j_icmp_eq (tgt := 46) hc dX11_unit_42 (by decide) (by show inI (s 4); rw [h4]; exact ⟨by omega, by omega⟩) ⟨by omega, by omega⟩ (fun zc5 => ?_) (fun zc5 => ?_)
              · refine j_iload_n hc dX11_unit_46 rfl ?_
                refine j_bipush hc dX11_unit_47 (by decide) ?_
                refine j_icmp_ne (tgt := 76) hc dX11_unit_49 (by decide) ⟨by omega, by omega⟩ ⟨by omega, by omega⟩ (fun zc6 => ?_) (fun zc6 => ?_)
                · refine j_aload_n hc dX11_unit_76 rfl ?_
                  refine j_iconst hc dX11_unit_77 ?_
                  refine j_callV (d' := d - 1) hc dX11_unit_78 vX11_208 zS1.1 (zco (d - 1) _ _ _ (by omega) zS1 (SmE.rd zG1.1 hT rfl) (by show 0 ≤ skS b n (s 3) + 1; omega) (by show skS b n (s 3) + 1 ≤ n; omega) h4 (by show s 5 + 1 = dp + 1; omega) h28 (by show 0 ≤ s 29; omega) (by show 2 * s 29 + 3 * (n - (skS b n (s 3) + 1)) ≤ 790; omega)) rfl (by omega) (by omega) (by omega) rfl rfl (Nat.le_of_ble_eq_true rfl) (retN fun zq78 zp78 => ?_)
                  obtain ⟨s2, g2, ⟨z25, z2b, z2n, z2y⟩, zS2, zF2⟩ := zp78
                  rw [fuA_at] at z2n z2y
                  rw [fuA_fuA] at zS2
                  have zR : RpB n (skS b n (s 3) + 1) (coG b n u (u (skS b n (s 3) + 1))) := coG_b zgu (by omega) (zgu _ (by omega) (by omega))
                  have z25 : s2 5 = s 5 + 1 := z25
                  have z2b : 2 * s2 29 ≤ 2 * s 29 + 3 * (n - (skS b n (s 3) + 1)) + 1 := z2b
                  exact tl_X11_unit (z3 := none) (P := skS b n (s 3) + 1) (by omega) hT h30 (by omega) (by omega) (fun z => zG1.bad (z2n z)) (fun z => ⟨zG1.seq (z2y z).1, (z2y z).2⟩) z25 z2b zR zS2 (Fr.tr (Fr.tr (Fr.tr (Fr.rf _ _) (zF7.mono fun z zz => Or.inl zz)) (zF1.mono fun z zz => Or.inl zz)) zF2) hc he
                · exact absurd zc6 hq
              · exact absurd h4 zc5
  rw [unG_s (show hrS b n (skS b n (s 3)) ≠ 33 by omega) (show hrS b n (skS b n (s 3)) ≠ 40 by omega)]
  refine Ev.mk (by decide +kernel) [_, _, _] rfl (Nat.le_of_ble_eq_true rfl) (fun w hc he => ?_)
  refine j_aload_n hc dX11_unit_0 rfl ?_
  refine j_get hc dX11_unit_1 fX11_132 hS0.1 rfl ?_
  refine j_iconst hc dX11_unit_4 ?_
  refine j_icmp_ne (tgt := 15) hc dX11_unit_5 (by decide) (by rw [h4]; exact ⟨by omega, by omega⟩) ⟨by omega, by omega⟩ (fun zc1 => ?_) (fun zc1 => ?_)
  · exact absurd h4 zc1
  · refine j_aload_n hc dX11_unit_8 rfl ?_
    refine j_callV (d' := d - 1) hc dX11_unit_9 vX11_135 hS0.1 (ev_X11_look (by omega) hS0 (SmE.rd (SmE.rf s) hT rfl) h30 (by omega)) rfl (by omega) (by omega) (by omega) rfl rfl (Nat.le_of_ble_eq_true rfl) (retE fun zv9 zq9 zp9 => ?_)
    obtain ⟨zv7, zS7, zF7⟩ := zp9
    subst zv7
    skip
    refine j_goto (tgt := 16) hc dX11_unit_12 (by decide) ?_
    refine j_istore_n (L' := [_, _, _]) hc dX11_unit_16 (Nat.le_of_ble_eq_true rfl) rfl ?_
    refine j_iload_n hc dX11_unit_17 rfl ?_
    refine j_if_ne (b := 0) (tgt := 88) hc dX11_unit_18 (by decide) ⟨by omega, by omega⟩ (fun zc2 => ?_) (fun zc2 => ?_)
    · exact absurd rfl zc2
    · refine j_iload_n hc dX11_unit_21 rfl ?_
      refine j_bipush hc dX11_unit_22 (by decide) ?_
      refine j_icmp_eq (tgt := 33) hc dX11_unit_24 (by decide) ⟨by omega, by omega⟩ ⟨by omega, by omega⟩ (fun zc3 => ?_) (fun zc3 => ?_)
      · exact absurd zc3 hq
      · refine j_iload_n hc dX11_unit_27 rfl ?_
        refine j_bipush hc dX11_unit_28 (by decide) ?_
        refine j_icmp_ne (tgt := 88) hc dX11_unit_30 (by decide) ⟨by omega, by omega⟩ ⟨by omega, by omega⟩ (fun zc4 => ?_) (fun zc4 => ?_)
        · refine j_iload_n hc dX11_unit_88 rfl ?_
          refine j_if_ne (b := 0) (tgt := 96) hc dX11_unit_89 (by decide) ⟨by omega, by omega⟩ (fun zc5 => ?_) (fun zc5 => ?_)
          · exact absurd rfl zc5
          · refine j_aload_n hc dX11_unit_92 rfl ?_
            refine j_callV (d' := d - 1) hc dX11_unit_93 vX11_192 zS7.1 (hP (d - 1) _ _ _ (by omega) zS7 (SmE.rd (SmE.rf s).f3 hT rfl) (by show 0 ≤ skS b n (s 3); omega) (by show skS b n (s 3) ≤ n; omega) h4 h5 h28 h290 (by show 2 * s 29 + 3 * (n - skS b n (s 3)) ≤ 790; omega)) rfl (by omega) (by omega) (by omega) rfl rfl (Nat.le_of_ble_eq_true rfl) (retN fun zq93 zp93 => ?_)
            obtain ⟨s2, g2, zE2, zS2, zF2⟩ := zp93
            rw [fuA_at] at zE2
            rw [fuA_fuA] at zS2
            exact tl_X11_cmp (X := S (skS b n (s 3))) hr0 hr6 hg hP (by omega) hT h30 h31 h5 h28 h290 h29 ((hg _ (by omega) p2).mono p1).w (zE2.at_ p1) rfl zS2 (Fr.tr (Fr.tr (Fr.rf _ _) (zF7.mono fun z zz => Or.inl zz)) zF2) hc he
        · exact absurd zc4 hq2
theorem mt_unK {k : WC} (b : Int → Int) (n : Int) {r : Int} (hr0 : 0 ≤ r) (hr6 : r ≤ 6) : ∀ (K : Nat) (dp : Int), dp = 6 - K → K ≤ 6 → NtM k mdX11_unit [vI 0] b n r dp (13 * (K + 1) + 5) (unK b n K)
  | 0, dp, hdp, hK => mt_unit0 hr0 hr6 (by omega) (smK_b b n 0) (mt_smK b n hr0 hr6 0 dp hdp hK) (fun _ => by omega) (fun u hu => nomatch hu)
  | K + 1, dp, hdp, hK => by
    have h1 := mt_unK b n hr0 hr6 K (dp + 1) (by omega) (by omega) (k := k)
    have h2 := mt_X11_truth hr0 hr6 (unK_b b n K) h1 (unK_b b n K) h1
    have h3 := mt_X11_condition hr0 hr6 (fun i i0 i1 => trG_b (unK_b b n K) i0 (unK_b b n K i i0 i1)) h2 (fun i i0 i1 => trG_b (unK_b b n K) i0 (unK_b b n K i i0 i1)) h2
    exact mt_unit0 (c := 13 * (K + 1 + 1)) hr0 hr6 (by omega) (smK_b b n (K + 1)) (mt_smK b n hr0 hr6 (K + 1) dp hdp hK) (fun z => nomatch z) (fun u hu => by
      injection hu with hu
      subst hu
      exact ⟨by omega, unK_b b n K, h1.mono (by omega), h3.mono (by omega)⟩)
