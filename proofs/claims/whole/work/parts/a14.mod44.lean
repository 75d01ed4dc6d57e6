/-! ===== the reference reads a rule: truths, conditions ===== -/
theorem lpT_no {b : Int → Int} {n : Int} {P : Int → RP} {c o : Int} {r : RP} (q : r.1 = -1) (q2 : ¬ hrS b n (skS b n r.2.1) = c) : ∀ m : Nat, n - r.2.1 ≤ m → lpT b n P c o m r = (-1, skS b n r.2.1, r.2.2)
  | 0, hm => by
    have e : skS b n r.2.1 = r.2.1 := skS_stop (fun z => by omega)
    rw [e]
    show r = _
    rw [← q]
  | m + 1, _ => lpT_end q q2 (m + 1) (by omega)
set_option maxRecDepth 100000 in
set_option maxHeartbeats 4000000 in
theorem lp_X11_truth {k : WC} {d : Nat} {w : MC} {h0 : AH} {s : Int → Int} {A : MAs} {b : Int → Int} {n : Int} {r dp e : Int} {c : Nat} {P : Int → RP} {R : RP} (hr0 : 0 ≤ r) (hr6 : r ≤ 6) (hg : GdP n P) (hP : NtM k mdX11_unit [vI 0] b n r dp c P) (hd : c + 4 ≤ d) (hT : RdM s A b n) (h30 : 0 ≤ s 3) (h31 : s 3 ≤ n) (h5d : s 5 = dp) (h28 : s 28 = r) (h290 : 0 ≤ s 29) (h29 : 2 * s 29 + 3 * (n - s 3) ≤ 790) (hc : Cx w k d 0 0 mdX11_truth) (he : Ends w 0 0 (ExP s A n r R h0)) : ∀ (zm : Nat) (X : RP) (s1 g1 : Int → Int) (h : AH), RpB n (s 3) X → ExG s (A 23) n r X s1 g1 → (X.1 = -1 → n - X.2.1 ≤ zm) → lpT b n P 38 (-13) zm X = R → MdS h s1 (fuA A 23 g1) → Fr isRm h0 h → J w 0 0 5 [some (vR (70, 0)), some (vI e)] [] h := by
  intro zm
  induction zm using Nat.strongRecOn with
  | _ zm ih =>
    intro X s1 g1 h hX hE hm hR hS hF
    have hn := hT.2.1
    obtain ⟨h5, hb, hbad, hgood⟩ := hE
    by_cases zf : X.1 ≠ -1
    · have zB := hbad zf
      refine j_aload_n hc dX11_truth_5 rfl ?_
      refine j_get hc dX11_truth_6 fX11_132 hS.1 rfl ?_
      refine j_iconst hc dX11_truth_9 ?_
      refine j_icmp_ne (tgt := 46) hc dX11_truth_10 (by decide) (by rw [zB.2.1]; exact ⟨by have := hX.1; omega, by have := hX.2.1; omega⟩) ⟨by omega, by omega⟩ (fun zc1 => ?_) (fun zc1 => ?_)
      · exact j_vret hc he dX11_truth_46 rfl (by omega) (by omega) ⟨rfl, _, _, by rw [← hR, lpT_bad zf]; exact ⟨h5, hb, hbad, hgood⟩, hS, hF⟩
      · exact absurd (zB.2.1.symm.trans zc1) zf
    · have zf : X.1 = -1 := by omega
      obtain ⟨zG, zG2⟩ := hgood zf
      have zx := hX.2.2 zf
      have zm1 := hm zf
      have z29 := zG.2.2.2.1
      obtain ⟨p1, p2, p3⟩ := skS_b b n X.2.1
      have p2 := p2 (by omega)
      have zs1 := hrM_S hT (show 0 ≤ skS b n X.2.1 by omega)
      have zs2 := hrM_b hT (show 0 ≤ skS b n X.2.1 by omega)
      refine j_aload_n hc dX11_truth_5 rfl ?_
      refine j_get hc dX11_truth_6 fX11_132 hS.1 rfl ?_
      refine j_iconst hc dX11_truth_9 ?_
      refine j_icmp_ne (tgt := 46) hc dX11_truth_10 (by decide) (by rw [zG.2.1]; exact ⟨by omega, by omega⟩) ⟨by omega, by omega⟩ (fun zc1 => ?_) (fun zc1 => ?_)
      · exact absurd zG.2.1 zc1
      · refine j_aload_n hc dX11_truth_13 rfl ?_
        refine j_callV (d' := d - 1) hc dX11_truth_14 vX11_135 hS.1 (ev_X11_look (b := b) (n := n) (by omega) hS (SmE.rd zG.1 hT rfl) (by rw [zG.2.2.1]; omega) (by rw [zG.2.2.1]; omega)) rfl (by omega) (by omega) (by omega) rfl rfl (Nat.le_of_ble_eq_true rfl) (retE fun zv14 zq14 zp14 => ?_)
        obtain ⟨zv1, zS1, zF1⟩ := zp14
        subst zv1
        rw [zG.2.2.1]
        rw [zG.2.2.1] at zS1
        refine j_bipush hc dX11_truth_17 (by decide) ?_
        refine j_icmp_ne (tgt := 46) hc dX11_truth_19 (by decide) ⟨by omega, by omega⟩ ⟨by omega, by omega⟩ (fun zc2 => ?_) (fun zc2 => ?_)
        · exact j_vret hc he dX11_truth_46 rfl (by omega) (by omega) ⟨rfl, _, _, ExG.of_ok (j := skS b n X.2.1) (t := X.2.2) (by rw [← hR]; exact lpT_no zf (by omega) _ zm1) (by show s1 5 = s 5; omega) (by omega) (by show 2 * s1 29 ≤ _; omega) zG.at_, zS1, Fr.tr (hF) (zF1.mono fun z zz => Or.inl zz)⟩
        · have zch : hrS b n (skS b n X.2.1) = 38 := by omega
          refine j_aload_n hc dX11_truth_22 rfl ?_
          refine j_dup hc dX11_truth_23 rfl ?_
          refine j_get hc dX11_truth_24 fX11_125 zS1.1 rfl ?_
          rw [fu_same]
          refine j_iconst hc dX11_truth_27 ?_
          refine j_iadd hc dX11_truth_28 ?_
          refine j_put  hc dX11_truth_29 pX11_125 zS1.1 rfl mset_3 ?_
          generalize ezh1 : up _ _ _ = zh1
          have zzmod_zh1 := MdS.pf ezh1 zS1
          have zS8 := zzmod_zh1
          rw [fu_fu] at zS8
          refine j_aload_n hc dX11_truth_32 rfl ?_
          refine j_iconst hc dX11_truth_33 ?_
          refine j_callV (d' := d - 1) hc dX11_truth_34 vX11_204 zS8.1 (hP (d - 1) _ _ _ (by omega) zS8 (SmE.rd zG.1.f3 hT rfl) (by show 0 ≤ skS b n X.2.1 + 1; omega) (by show skS b n X.2.1 + 1 ≤ n; omega) (show s1 4 = -1 from zG.2.1) (by show s1 5 = dp; omega) (zG.1.f3.in_ h28) (by show 0 ≤ s1 29; omega) (by show 2 * s1 29 + 3 * (n - (skS b n X.2.1 + 1)) ≤ 790; omega)) rfl (by omega) (by omega) (by omega) rfl rfl (Nat.le_of_ble_eq_true rfl) (retN fun zq34 zp34 => ?_)
          obtain ⟨s2, g2, zE4, zS4, zF4⟩ := zp34
          rw [fuA_at] at zE4
          rw [fuA_fuA] at zS4
          obtain ⟨zX1, zX2, zX3, zX4, zX5⟩ := mo_step (o := (-13)) (c := 38) zG zG2 hX.w zf h5 (by omega) (by omega) h30 h290 h29 (hg _ (by omega) (by omega)) zE4 rfl
          refine j_aload_n hc dX11_truth_37 rfl ?_
          refine j_bipush hc dX11_truth_38 (by decide) ?_
          refine j_callV (d' := d - 1) hc dX11_truth_40 vX11_183 zS4.1 (ev_X11_say' (by omega) zS4 hr0 hr6 (zX5.in_ h28) (zX3) (zX4)) rfl (by omega) (by omega) (by omega) rfl rfl (Nat.le_of_ble_eq_true rfl) (retN fun zq40 zp40 => ?_)
          obtain ⟨zS5, zF5⟩ := zp40
          refine j_goto (tgt := 5) hc dX11_truth_43 (by decide) ?_
          obtain ⟨zm2, rfl⟩ : ∃ x, zm = x + 1 := ⟨zm - 1, by omega⟩
          refine ih zm2 (by omega) _ _ _ _ zX1 zX2 (fun z => ?_) ?_ zS5 (Fr.tr (Fr.tr ((by rw [← ezh1]; exact Fr.push (Fr.tr (hF) (zF1.mono fun z zz => Or.inl zz)) (Or.inl rfl))) zF4) zF5)
          · by_cases zy : (P (skS b n X.2.1 + 1)).1 = -1
            · rw [rpT_ok zy]
              have := ((hg (skS b n X.2.1 + 1) (by omega) (by omega)).2.2 zy).1
              show n - (P (skS b n X.2.1 + 1)).2.1 ≤ zm2
              omega
            · rw [rpT_no zy] at z
              exact absurd z zy
          · rw [← hR, lpT_go zf zch]
set_option maxRecDepth 100000 in
set_option maxHeartbeats 4000000 in
theorem mt_X11_truth {k : WC} {b : Int → Int} {n r dp e : Int} {c : Nat} {P0 P : Int → RP} (hr0 : 0 ≤ r) (hr6 : r ≤ 6) (hg0 : GdP n P0) (hP0 : NtM k mdX11_unit [vI e] b n r dp c P0) (hg : GdP n P) (hP : NtM k mdX11_unit [vI 0] b n r dp c P) : NtM k mdX11_truth [vI e] b n r dp (c + 4) (fun i => lpT b n P 38 (-13) 240 (P0 i)) := by
  intro d h s A hd hS hT h30 h31 h4 h5 h28 h290 h29
  have hn := hT.2.1
  refine Ev.mk (by decide +kernel) [_, _] rfl (Nat.le_of_ble_eq_true rfl) (fun w hc he => ?_)
  refine j_aload_n hc dX11_truth_0 rfl ?_
  refine j_iload_n hc dX11_truth_1 rfl ?_
  refine j_callV (d' := d - 1) hc dX11_truth_2 vX11_204 hS.1 (hP0 (d - 1) h s A (by omega) hS hT h30 h31 h4 h5 h28 h290 h29) rfl (by omega) (by omega) (by omega) rfl rfl (Nat.le_of_ble_eq_true rfl) (retN fun zq2 zp2 => ?_)
  obtain ⟨s1, g1, zE1, zS1, zF1⟩ := zp2
  exact lp_X11_truth hr0 hr6 hg hP (by omega) hT h30 h31 h5 h28 h290 h29 hc he 240 _ s1 g1 _ (hg0 _ h30 h31) zE1 (fun z => by have := (hg0 _ h30 h31).2.2 z; omega) rfl zS1 (Fr.tr (Fr.rf _ _) zF1)
set_option maxRecDepth 100000 in
set_option maxHeartbeats 4000000 in
theorem lp_X11_condition {k : WC} {d : Nat} {w : MC} {h0 : AH} {s : Int → Int} {A : MAs} {b : Int → Int} {n : Int} {r dp e : Int} {c : Nat} {P : Int → RP} {R : RP} (hr0 : 0 ≤ r) (hr6 : r ≤ 6) (hg : GdP n P) (hP : NtM k mdX11_truth [vI 0] b n r dp c P) (hd : c + 4 ≤ d) (hT : RdM s A b n) (h30 : 0 ≤ s 3) (h31 : s 3 ≤ n) (h5d : s 5 = dp) (h28 : s 28 = r) (h290 : 0 ≤ s 29) (h29 : 2 * s 29 + 3 * (n - s 3) ≤ 790) (hc : Cx w k d 0 0 mdX11_condition) (he : Ends w 0 0 (ExP s A n r R h0)) : ∀ (zm : Nat) (X : RP) (s1 g1 : Int → Int) (h : AH), RpB n (s 3) X → ExG s (A 23) n r X s1 g1 → (X.1 = -1 → n - X.2.1 ≤ zm) → lpT b n P 124 (-14) zm X = R → MdS h s1 (fuA A 23 g1) → Fr isRm h0 h → J w 0 0 5 [some (vR (70, 0)), some (vI e)] [] h := by
  intro zm
  induction zm using Nat.strongRecOn with
  | _ zm ih =>
    intro X s1 g1 h hX hE hm hR hS hF
    have hn := hT.2.1
    obtain ⟨h5, hb, hbad, hgood⟩ := hE
    by_cases zf : X.1 ≠ -1
    · have zB := hbad zf
      refine j_aload_n hc dX11_condition_5 rfl ?_
      refine j_get hc dX11_condition_6 fX11_132 hS.1 rfl ?_
      refine j_iconst hc dX11_condition_9 ?_
      refine j_icmp_ne (tgt := 46) hc dX11_condition_10 (by decide) (by rw [zB.2.1]; exact ⟨by have := hX.1; omega, by have := hX.2.1; omega⟩) ⟨by omega, by omega⟩ (fun zc1 => ?_) (fun zc1 => ?_)
      · exact j_vret hc he dX11_condition_46 rfl (by omega) (by omega) ⟨rfl, _, _, by rw [← hR, lpT_bad zf]; exact ⟨h5, hb, hbad, hgood⟩, hS, hF⟩
      · exact absurd (zB.2.1.symm.trans zc1) zf
    · have zf : X.1 = -1 := by omega
      obtain ⟨zG, zG2⟩ := hgood zf
      have zx := hX.2.2 zf
      have zm1 := hm zf
      have z29 := zG.2.2.2.1
      obtain ⟨p1, p2, p3⟩ := skS_b b n X.2.1
      have p2 := p2 (by omega)
      have zs1 := hrM_S hT (show 0 ≤ skS b n X.2.1 by omega)
      have zs2 := hrM_b hT (show 0 ≤ skS b n X.2.1 by omega)
      refine j_aload_n hc dX11_condition_5 rfl ?_
      refine j_get hc dX11_condition_6 fX11_132 hS.1 rfl ?_
      refine j_iconst hc dX11_condition_9 ?_
      refine j_icmp_ne (tgt := 46) hc dX11_condition_10 (by decide) (by rw [zG.2.1]; exact ⟨by omega, by omega⟩) ⟨by omega, by omega⟩ (fun zc1 => ?_) (fun zc1 => ?_)
      · exact absurd zG.2.1 zc1
      · refine j_aload_n hc dX11_condition_13 rfl ?_
        refine j_callV (d' := d - 1) hc dX11_condition_14 vX11_135 hS.1 (ev_X11_look (b := b) (n := n) (by omega) hS (SmE.rd zG.1 hT rfl) (by rw [zG.2.2.1]; omega) (by rw [zG.2.2.1]; omega)) rfl (by omega) (by omega) (by omega) rfl rfl (Nat.le_of_ble_eq_true rfl) (retE fun zv14 zq14 zp14 => ?_)
        obtain ⟨zv1, zS1, zF1⟩ := zp14
        subst zv1
        rw [zG.2.2.1]
        rw [zG.2.2.1] at zS1
        refine j_bipush hc dX11_condition_17 (by decide) ?_
        refine j_icmp_ne (tgt := 46) hc dX11_condition_19 (by decide) ⟨by omega, by omega⟩ ⟨by omega, by omega⟩ (fun zc2 => ?_) (fun zc2 => ?_)
        · exact j_vret hc he dX11_condition_46 rfl (by omega) (by omega) ⟨rfl, _, _, ExG.of_ok (j := skS b n X.2.1) (t := X.2.2) (by rw [← hR]; exact lpT_no zf (by omega) _ zm1) (by show s1 5 = s 5; omega) (by omega) (by show 2 * s1 29 ≤ _; omega) zG.at_, zS1, Fr.tr (hF) (zF1.mono fun z zz => Or.inl zz)⟩
        · have zch : hrS b n (skS b n X.2.1) = 124 := by omega
          refine j_aload_n hc dX11_condition_22 rfl ?_
          refine j_dup hc dX11_condition_23 rfl ?_
          refine j_get hc dX11_condition_24 fX11_125 zS1.1 rfl ?_
          rw [fu_same]
          refine j_iconst hc dX11_condition_27 ?_
          refine j_iadd hc dX11_condition_28 ?_
          refine j_put  hc dX11_condition_29 pX11_125 zS1.1 rfl mset_3 ?_
          generalize ezh1 : up _ _ _ = zh1
          have zzmod_zh1 := MdS.pf ezh1 zS1
          have zS8 := zzmod_zh1
          rw [fu_fu] at zS8
          refine j_aload_n hc dX11_condition_32 rfl ?_
          refine j_iconst hc dX11_condition_33 ?_
          refine j_callV (d' := d - 1) hc dX11_condition_34 vX11_211 zS8.1 (hP (d - 1) _ _ _ (by omega) zS8 (SmE.rd zG.1.f3 hT rfl) (by show 0 ≤ skS b n X.2.1 + 1; omega) (by show skS b n X.2.1 + 1 ≤ n; omega) (show s1 4 = -1 from zG.2.1) (by show s1 5 = dp; omega) (zG.1.f3.in_ h28) (by show 0 ≤ s1 29; omega) (by show 2 * s1 29 + 3 * (n - (skS b n X.2.1 + 1)) ≤ 790; omega)) rfl (by omega) (by omega) (by omega) rfl rfl (Nat.le_of_ble_eq_true rfl) (retN fun zq34 zp34 => ?_)
          obtain ⟨s2, g2, zE4, zS4, zF4⟩ := zp34
          rw [fuA_at] at zE4
          rw [fuA_fuA] at zS4
          obtain ⟨zX1, zX2, zX3, zX4, zX5⟩ := mo_step (o := (-14)) (c := 124) zG zG2 hX.w zf h5 (by omega) (by omega) h30 h290 h29 (hg _ (by omega) (by omega)) zE4 rfl
          refine j_aload_n hc dX11_condition_37 rfl ?_
          refine j_bipush hc dX11_condition_38 (by decide) ?_
          refine j_callV (d' := d - 1) hc dX11_condition_40 vX11_183 zS4.1 (ev_X11_say' (by omega) zS4 hr0 hr6 (zX5.in_ h28) (zX3) (zX4)) rfl (by omega) (by omega) (by omega) rfl rfl (Nat.le_of_ble_eq_true rfl) (retN fun zq40 zp40 => ?_)
          obtain ⟨zS5, zF5⟩ := zp40
          refine j_goto (tgt := 5) hc dX11_condition_43 (by decide) ?_
          obtain ⟨zm2, rfl⟩ : ∃ x, zm = x + 1 := ⟨zm - 1, by omega⟩
          refine ih zm2 (by omega) _ _ _ _ zX1 zX2 (fun z => ?_) ?_ zS5 (Fr.tr (Fr.tr ((by rw [← ezh1]; exact Fr.push (Fr.tr (hF) (zF1.mono fun z zz => Or.inl zz)) (Or.inl rfl))) zF4) zF5)
          · by_cases zy : (P (skS b n X.2.1 + 1)).1 = -1
            · rw [rpT_ok zy]
              have := ((hg (skS b n X.2.1 + 1) (by omega) (by omega)).2.2 zy).1
              show n - (P (skS b n X.2.1 + 1)).2.1 ≤ zm2
              omega
            · rw [rpT_no zy] at z
              exact absurd z zy
          · rw [← hR, lpT_go zf zch]
set_option maxRecDepth 100000 in
set_option maxHeartbeats 4000000 in
theorem mt_X11_condition {k : WC} {b : Int → Int} {n r dp e : Int} {c : Nat} {P0 P : Int → RP} (hr0 : 0 ≤ r) (hr6 : r ≤ 6) (hg0 : GdP n P0) (hP0 : NtM k mdX11_truth [vI e] b n r dp c P0) (hg : GdP n P) (hP : NtM k mdX11_truth [vI 0] b n r dp c P) : NtM k mdX11_condition [vI e] b n r dp (c + 4) (fun i => lpT b n P 124 (-14) 240 (P0 i)) := by
  intro d h s A hd hS hT h30 h31 h4 h5 h28 h290 h29
  have hn := hT.2.1
  refine Ev.mk (by decide +kernel) [_, _] rfl (Nat.le_of_ble_eq_true rfl) (fun w hc he => ?_)
  refine j_aload_n hc dX11_condition_0 rfl ?_
  refine j_iload_n hc dX11_condition_1 rfl ?_
  refine j_callV (d' := d - 1) hc dX11_condition_2 vX11_211 hS.1 (hP0 (d - 1) h s A (by omega) hS hT h30 h31 h4 h5 h28 h290 h29) rfl (by omega) (by omega) (by omega) rfl rfl (Nat.le_of_ble_eq_true rfl) (retN fun zq2 zp2 => ?_)
  obtain ⟨s1, g1, zE1, zS1, zF1⟩ := zp2
  exact lp_X11_condition hr0 hr6 hg hP (by omega) hT h30 h31 h5 h28 h290 h29 hc he 240 _ s1 g1 _ (hg0 _ h30 h31) zE1 (fun z => by have := (hg0 _ h30 h31).2.2 z; omega) rfl zS1 (Fr.tr (Fr.rf _ _) zF1)
set_option maxRecDepth 100000 in
set_option maxHeartbeats 4000000 in
theorem tl_X11_cmp {k : WC} {d : Nat} {w : MC} {h0 h : AH} {s s1 g1 : Int → Int} {A : MAs} {b : Int → Int} {n : Int} {r dp e : Int} {c : Nat} {S : Int → RP} {X R : RP} {z2 : Option AV} (hr0 : 0 ≤ r) (hr6 : r ≤ 6) (hg : GdP n S) (hP : NtM k mdX11_sum [] b n r dp c S) (hd : c + 4 ≤ d) (hT : RdM s A b n) (h30 : 0 ≤ s 3) (h31 : s 3 ≤ n) (h5d : s 5 = dp) (h28 : s 28 = r) (h290 : 0 ≤ s 29) (h29 : 2 * s 29 + 3 * (n - s 3) ≤ 790) (hX : RpW n (s 3) X) (hE : ExG s (A 23) n r X s1 g1) (hR : (rpT X fun j t => rpT (cmG b n S j) fun j' t' => (-1, j', t ++ t')) = R) (hS : MdS h s1 (fuA A 23 g1)) (hF : Fr isRm h0 h) (hc : Cx w k d 0 0 mdX11_unit) (he : Ends w 0 0 (ExP s A n r R h0)) : J w 0 0 96 [some (vR (70, 0)), some (vI e), z2] [] h := by
  have hn := hT.2.1
  obtain ⟨h5, hb, hbad, hgood⟩ := hE
  by_cases zf : X.1 ≠ -1
  · have zB := hbad zf
    refine j_aload_n hc dX11_unit_96 rfl ?_
    refine j_get hc dX11_unit_97 fX11_132 hS.1 rfl ?_
    refine j_iconst hc dX11_unit_100 ?_
    refine j_icmp_ne (tgt := 111) hc dX11_unit_101 (by decide) (by rw [zB.2.1]; exact ⟨by have := hX.1; omega, by have := hX.2.1; omega⟩) ⟨by omega, by omega⟩ (fun zc1 => ?_) (fun zc1 => ?_)
    · refine j_iconst hc dX11_unit_111 ?_
      refine j_istore_n (L' := [_, _, _]) hc dX11_unit_112 (Nat.le_of_ble_eq_true rfl) rfl ?_
      refine j_iload_n hc dX11_unit_113 rfl ?_
      refine j_bipush hc dX11_unit_114 (by decide) ?_
      refine j_icmp_eq (tgt := 136) hc dX11_unit_116 (by decide) ⟨by omega, by omega⟩ ⟨by omega, by omega⟩ (fun zc2 => ?_) (fun zc2 => ?_)
      · exact absurd zc2 (by decide)
      · refine j_iload_n hc dX11_unit_119 rfl ?_
        refine j_bipush hc dX11_unit_120 (by decide) ?_
        refine j_icmp_eq (tgt := 136) hc dX11_unit_122 (by decide) ⟨by omega, by omega⟩ ⟨by omega, by omega⟩ (fun zc3 => ?_) (fun zc3 => ?_)
        · exact absurd zc3 (by decide)
        · refine j_iload_n hc dX11_unit_125 rfl ?_
          refine j_bipush hc dX11_unit_126 (by decide) ?_
          refine j_icmp_eq (tgt := 136) hc dX11_unit_128 (by decide) ⟨by omega, by omega⟩ ⟨by omega, by omega⟩ (fun zc4 => ?_) (fun zc4 => ?_)
          · exact absurd zc4 (by decide)
          · refine j_aload_n hc dX11_unit_131 rfl ?_
            refine j_callV (d' := d - 1) hc dX11_unit_132 vX11_142 hS.1 (ev_X11_bad_w (by omega) hS (by rw [zB.2.1]; exact ⟨by have := hX.1; omega, by have := hX.2.1; omega⟩) (by rw [zB.2.1]; exact zf)) rfl (by omega) (by omega) (by omega) rfl rfl (Nat.le_of_ble_eq_true rfl) (retN fun zq132 zp132 => ?_)
            obtain ⟨zS1, zF1⟩ := zp132
            exact j_vret hc he dX11_unit_135 rfl (by omega) (by omega) ⟨rfl, _, _, ExG.of_bad (by rw [← hR]; exact rpT_no zf) zf h5 hb zB, zS1, Fr.tr (hF) (zF1.mono fun z zz => Or.inl zz)⟩
    · exact absurd (zB.2.1.symm.trans zc1) zf
  · have zf : X.1 = -1 := by omega
    obtain ⟨zG, zG2⟩ := hgood zf
    have zx := hX.2.2 zf
    have z29 := zG.2.2.2.1
    obtain ⟨p1, p2, p3⟩ := skS_b b n X.2.1
    have p2 := p2 (by omega)
    have zs1 := hrM_S hT (show 0 ≤ skS b n X.2.1 by omega)
    have zs2 := hrM_b hT (show 0 ≤ skS b n X.2.1 by omega)
    refine j_aload_n hc dX11_unit_96 rfl ?_
    refine j_get hc dX11_unit_97 fX11_132 hS.1 rfl ?_
    refine j_iconst hc dX11_unit_100 ?_
    refine j_icmp_ne (tgt := 111) hc dX11_unit_101 (by decide) (by rw [zG.2.1]; exact ⟨by omega, by omega⟩) ⟨by omega, by omega⟩ (fun zc1 => ?_) (fun zc1 => ?_)
    · exact absurd zG.2.1 zc1
    · refine j_aload_n hc dX11_unit_104 rfl ?_
      refine j_callV (d' := d - 1) hc dX11_unit_105 vX11_135 hS.1 (ev_X11_look (b := b) (n := n) (by omega) hS (SmE.rd zG.1 hT rfl) (by rw [zG.2.2.1]; omega) (by rw [zG.2.2.1]; omega)) rfl (by omega) (by omega) (by omega) rfl rfl (Nat.le_of_ble_eq_true rfl) (retE fun zv105 zq105 zp105 => ?_)
      obtain ⟨zv1, zS1, zF1⟩ := zp105
      subst zv1
      rw [zG.2.2.1]
      rw [zG.2.2.1] at zS1
      refine j_goto (tgt := 112) hc dX11_unit_108 (by decide) ?_
      refine j_istore_n (L' := [_, _, _]) hc dX11_unit_112 (Nat.le_of_ble_eq_true rfl) rfl ?_
      refine j_iload_n hc dX11_unit_113 rfl ?_
      refine j_bipush hc dX11_unit_114 (by decide) ?_
      refine j_icmp_eq (tgt := 136) hc dX11_unit_116 (by decide) ⟨by omega, by omega⟩ ⟨by omega, by omega⟩ (fun zc2 => ?_) (fun zc2 => ?_)
      · have zch : isCm (hrS b n (skS b n X.2.1)) := by omega
        refine j_aload_n hc dX11_unit_136 rfl ?_
        refine j_dup hc dX11_unit_137 rfl ?_
        refine j_get hc dX11_unit_138 fX11_125 zS1.1 rfl ?_
        rw [fu_same]
        refine j_iconst hc dX11_unit_141 ?_
        refine j_iadd hc dX11_unit_142 ?_
        refine j_put  hc dX11_unit_143 pX11_125 zS1.1 rfl mset_3 ?_
        generalize ezh1 : up _ _ _ = zh1
        have zzmod_zh1 := MdS.pf ezh1 zS1
        have zS8 := zzmod_zh1
        rw [fu_fu] at zS8
        refine j_aload_n hc dX11_unit_146 rfl ?_
        refine j_callV (d' := d - 1) hc dX11_unit_147 vX11_192 zS8.1 (hP (d - 1) _ _ _ (by omega) zS8 (SmE.rd zG.1.f3 hT rfl) (by show 0 ≤ skS b n X.2.1 + 1; omega) (by show skS b n X.2.1 + 1 ≤ n; omega) (show s1 4 = -1 from zG.2.1) (by show s1 5 = dp; omega) (zG.1.f3.in_ h28) (by show 0 ≤ s1 29; omega) (by show 2 * s1 29 + 3 * (n - (skS b n X.2.1 + 1)) ≤ 790; omega)) rfl (by omega) (by omega) (by omega) rfl rfl (Nat.le_of_ble_eq_true rfl) (retN fun zq147 zp147 => ?_)
        obtain ⟨s2, g2, zE4, zS4, zF4⟩ := zp147
        rw [fuA_at] at zE4
        rw [fuA_fuA] at zS4
        obtain ⟨zX1, zX2, zX3, zX4, zX5⟩ := mo_step (o := coP (hrS b n (skS b n X.2.1))) (c := hrM b n (skS b n X.2.1)) zG zG2 hX zf h5 (by omega) (by omega) h30 h290 h29 (hg _ (by omega) (by omega)) zE4 (by rw [show hrM b n (skS b n X.2.1) = hrS b n (skS b n X.2.1) by omega]; rcases zch with z | z | z <;> (rw [z]; rfl))
        refine j_aload_n hc dX11_unit_150 rfl ?_
        refine j_iload_n hc dX11_unit_151 rfl ?_
        refine j_callV (d' := d - 1) hc dX11_unit_152 vX11_183 zS4.1 (ev_X11_say' (by omega) zS4 hr0 hr6 (zX5.in_ h28) (zX3) (zX4)) rfl (by omega) (by omega) (by omega) rfl rfl (Nat.le_of_ble_eq_true rfl) (retN fun zq152 zp152 => ?_)
        obtain ⟨zS5, zF5⟩ := zp152
        exact j_vret hc he dX11_unit_155 rfl (by omega) (by omega) ⟨rfl, _, _, by
          have zR : R = rpT (S (skS b n X.2.1 + 1)) fun j t => (-1, j, X.2.2 ++ t ++ [coP (hrS b n (skS b n X.2.1))]) := by
            rw [← hR, rpT_ok zf]
            unfold cmG
            rw [if_pos zch]
            by_cases zy : (S (skS b n X.2.1 + 1)).1 = -1
            · rw [rpT_ok zy, rpT_ok zy, rpT_ok rfl, List.append_assoc]
            · rw [rpT_no zy, rpT_no zy, rpT_no (show (rpF _).1 ≠ -1 from zy)]
              rfl
          rw [zR]
          exact zX2, zS5, Fr.tr (Fr.tr ((by rw [← ezh1]; exact Fr.push (Fr.tr (hF) (zF1.mono fun z zz => Or.inl zz)) (Or.inl rfl))) zF4) zF5⟩
      · refine j_iload_n hc dX11_unit_119 rfl ?_
        refine j_bipush hc dX11_unit_120 (by decide) ?_
        refine j_icmp_eq (tgt := 136) hc dX11_unit_122 (by decide) ⟨by omega, by omega⟩ ⟨by omega, by omega⟩ (fun zc3 => ?_) (fun zc3 => ?_)
        · have zch : isCm (hrS b n (skS b n X.2.1)) := by omega
          refine j_aload_n hc dX11_unit_136 rfl ?_
          refine j_dup hc dX11_unit_137 rfl ?_
          refine j_get hc dX11_unit_138 fX11_125 zS1.1 rfl ?_
          rw [fu_same]
          refine j_iconst hc dX11_unit_141 ?_
          refine j_iadd hc dX11_unit_142 ?_
          refine j_put  hc dX11_unit_143 pX11_125 zS1.1 rfl mset_3 ?_
          generalize ezh2 : up _ _ _ = zh2
          have zzmod_zh2 := MdS.pf ezh2 zS1
          have zS8 := zzmod_zh2
          rw [fu_fu] at zS8
          refine j_aload_n hc dX11_unit_146 rfl ?_
          refine j_callV (d' := d - 1) hc dX11_unit_147 vX11_192 zS8.1 (hP (d - 1) _ _ _ (by omega) zS8 (SmE.rd zG.1.f3 hT rfl) (by show 0 ≤ skS b n X.2.1 + 1; omega) (by show skS b n X.2.1 + 1 ≤ n; omega) (show s1 4 = -1 from zG.2.1) (by show s1 5 = dp; omega) (zG.1.f3.in_ h28) (by show 0 ≤ s1 29; omega) (by show 2 * s1 29 + 3 * (n - (skS b n X.2.1 + 1)) ≤ 790; omega)) rfl (by omega) (by omega) (by omega) rfl rfl (Nat.le_of_ble_eq_true rfl) (retN fun zq147 zp147 => ?_)
          obtain ⟨s2, g2, zE4, zS4, zF4⟩ := zp147
          rw [fuA_at] at zE4
          rw [fuA_fuA] at zS4
          obtain ⟨zX1, zX2, zX3, zX4, zX5⟩ := mo_step (o := coP (hrS b n (skS b n X.2.1))) (c := hrM b n (skS b n X.2.1)) zG zG2 hX zf h5 (by omega) (by omega) h30 h290 h29 (hg _ (by omega) (by omega)) zE4 (by rw [show hrM b n (skS b n X.2.1) = hrS b n (skS b n X.2.1) by omega]; rcases zch with z | z | z <;> (rw [z]; rfl))
          refine j_aload_n hc dX11_unit_150 rfl ?_
          refine j_iload_n hc dX11_unit_151 rfl ?_
          refine j_callV (d' := d - 1) hc dX11_unit_152 vX11_183 zS4.1 (ev_X11_say' (by omega) zS4 hr0 hr6 (zX5.in_ h28) (zX3) (zX4)) rfl (by omega) (by omega) (by omega) rfl rfl (Nat.le_of_ble_eq_true rfl) (retN fun zq152 zp152 => ?_)
          obtain ⟨zS5, zF5⟩ := zp152
          exact j_vret hc he dX11_unit_155 rfl (by omega) (by omega) ⟨rfl, _, _, by
            have zR : R = rpT (S (skS b n X.2.1 + 1)) fun j t => (-1, j, X.2.2 ++ t ++ [coP (hrS b n (skS b n X.2.1))]) := by
              rw [← hR, rpT_ok zf]
              unfold cmG
              rw [if_pos zch]
              by_cases zy : (S (skS b n X.2.1 + 1)).1 = -1
              · rw [rpT_ok zy, rpT_ok zy, rpT_ok rfl, List.append_assoc]
              · rw [rpT_no zy, rpT_no zy, rpT_no (show (rpF _).1 ≠ -1 from zy)]
                rfl
            rw [zR]
            exact zX2, zS5, Fr.tr (Fr.tr ((by rw [← ezh2]; exact Fr.push (Fr.tr (hF) (zF1.mono fun z zz => Or.inl zz)) (Or.inl rfl))) zF4) zF5⟩
        · refine j_iload_n hc dX11_unit_125 rfl ?_
          refine j_bipush hc dX11_unit_126 (by decide) ?_
          refine j_icmp_eq (tgt := 136) hc dX11_unit_128 (by decide) ⟨by omega, by omega⟩ ⟨by omega, by omega⟩ (fun zc4 => ?_) (fun zc4 => ?_)
          · have zch : isCm (hrS b n (skS b n X.2.1)) := by omega
            refine j_aload_n hc dX11_unit_136 rfl ?_
            refine j_dup hc dX11_unit_137 rfl ?_
            refine j_get hc dX11_unit_138 fX11_125 zS1.1 rfl ?_
            rw [fu_same]
            refine j_iconst hc dX11_unit_141 ?_
            refine j_iadd hc dX11_unit_142 ?_
            refine j_put  hc dX11_unit_143 pX11_125 zS1.1 rfl mset_3 ?_
            generalize ezh3 : up _ _ _ = zh3
            have zzmod_zh3 := MdS.pf ezh3 zS1
            have zS8 := zzmod_zh3
            rw [fu_fu] at zS8
            refine j_aload_n hc dX11_unit_146 rfl ?_
            refine j_callV (d' := d - 1) hc dX11_unit_147 vX11_192 zS8.1 (hP (d - 1) _ _ _ (by omega) zS8 (SmE.rd zG.1.f3 hT rfl) (by show 0 ≤ skS b n X.2.1 + 1; omega) (by show skS b n X.2.1 + 1 ≤ n; omega) (show s1 4 = -1 from zG.2.1) (by show s1 5 = dp; omega) (zG.1.f3.in_ h28) (by show 0 ≤ s1 29; omega) (by show 2 * s1 29 + 3 * (n - (skS b n X.2.1 + 1)) ≤ 790; omega)) rfl (by omega) (by omega) (by omega) rfl rfl (Nat.le_of_ble_eq_true rfl) (retN fun zq147 zp147 => ?_)
            obtain ⟨s2, g2, zE4, zS4, zF4⟩ := zp147
            rw [fuA_at] at zE4
            rw [fuA_fuA] at zS4
            obtain ⟨zX1, zX2, zX3, zX4, zX5⟩ := mo_step (o := coP (hrS b n (skS b n X.2.1))) (c := hrM b n (skS b n X.2.1)) zG zG2 hX zf h5 (by omega) (by omega) h30 h290 h29 (hg _ (by omega) (by omega)) zE4 (by rw [show hrM b n (skS b n X.2.1) = hrS b n (skS b n X.2.1) by omega]; rcases zch with z | z | z <;> (rw [z]; rfl))
            refine j_aload_n hc dX11_unit_150 rfl ?_
            refine j_iload_n hc dX11_unit_151 rfl ?_
            refine j_callV (d' := d - 1) hc dX11_unit_152 vX11_183 zS4.1 (ev_X11_say' (by omega) zS4 hr0 hr6 (zX5.in_ h28) (zX3) (zX4)) rfl (by omega) (by omega) (by omega) rfl rfl (Nat.le_of_ble_eq_true rfl) (retN fun zq152 zp152 => ?_)
            obtain ⟨zS5, zF5⟩ := zp152
            exact j_vret hc he dX11_unit_155 rfl (by omega) (by omega) ⟨rfl, _, _, by
              have zR : R = rpT (S (skS b n X.2.1 + 1)) fun j t => (-1, j, X.2.2 ++ t ++ [coP (hrS b n (skS b n X.2.1))]) := by
                rw [← hR, rpT_ok zf]
                unfold cmG
                rw [if_pos zch]
                by_cases zy : (S (skS b n X.2.1 + 1)).1 = -1
                · rw [rpT_ok zy, rpT_ok zy, rpT_ok rfl, List.append_assoc]
                · rw [rpT_no zy, rpT_no zy, rpT_no (show (rpF _).1 ≠ -1 from zy)]
                  rfl
              rw [zR]
              exact zX2, zS5, Fr.tr (Fr.tr ((by rw [← ezh3]; exact Fr.push (Fr.tr (hF) (zF1.mono fun z zz => Or.inl zz)) (Or.inl rfl))) zF4) zF5⟩
          · have zch : ¬ isCm (hrS b n (skS b n X.2.1)) := by omega
            refine j_aload_n hc dX11_unit_131 rfl ?_
            refine j_callV (d' := d - 1) hc dX11_unit_132 vX11_142 zS1.1 (ev_X11_bad_n (by omega) zS1 (show fu s1 3 _ 4 = -1 from zG.2.1)) rfl (by omega) (by omega) (by omega) rfl rfl (Nat.le_of_ble_eq_true rfl) (retN fun zq132 zp132 => ?_)
            obtain ⟨zS6, zF6⟩ := zp132
            rw [fu_same] at zS6
            exact j_vret hc he dX11_unit_135 rfl (by omega) (by omega) ⟨rfl, _, _, ExG.of_bad (f := skS b n X.2.1) (by rw [← hR, rpT_ok zf, rpT_no (show (cmG b n S X.2.1).1 ≠ -1 by unfold cmG; rw [if_neg zch]; show skS b n X.2.1 ≠ -1; omega)]; unfold cmG; rw [if_neg zch]; rfl) (by omega) (by show s1 5 = s 5; omega) (by show 2 * s1 29 ≤ _; omega) (zG.at_.wrong (by omega)), zS6, Fr.tr (Fr.tr (hF) (zF1.mono fun z zz => Or.inl zz)) (zF6.mono fun z zz => Or.inl zz)⟩
