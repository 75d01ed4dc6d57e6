/-! ===== the reference reads a rule: terms, sums ===== -/
theorem NtM.mono {k : WC} {y : MD} {ext : List AV} {b : Int → Int} {n r dp : Int} {c c' : Nat} {Q : Int → RP} (h : NtM k y ext b n r dp c Q) (hc : c ≤ c') : NtM k y ext b n r dp c' Q := fun d h' s A hd => h d h' s A (by omega)
theorem trL_op {t u : List Int} {o c : Int} (h : trT o = [c]) : trL (t ++ u ++ [o]) = trL t ++ trL u ++ [c] := by rw [trL_app, trL_app, trL_1, h]
theorem ExG.of_bad {s a0 : Int → Int} {n r f : Int} {R : RP} {s' g : Int → Int} (e : R = rpF f) (hf : f ≠ -1) (h5 : s' 5 = s 5) (hb : 2 * s' 29 ≤ 2 * s 29 + 3 * (n - s 3) + 1) (h : Bs s a0 r f s' g) : ExG s a0 n r R s' g := by
  subst e
  exact ⟨h5, hb, fun _ => h, fun z => absurd z hf⟩
theorem ExG.of_ok {s a0 : Int → Int} {n r j : Int} {t : List Int} {R : RP} {s' g : Int → Int} (e : R = (-1, j, t)) (h5 : s' 5 = s 5) (hj : j ≤ n) (hb : 2 * s' 29 ≤ 2 * s 29 + 3 * (j - s 3) + 1) (h : Gs s a0 r j (trL t) s' g) : ExG s a0 n r R s' g := by
  subst e
  exact ⟨h5, by omega, fun z => absurd rfl z, fun _ => ⟨h, hb⟩⟩
/-- as RpB, but nothing need have been read -/
def RpW (n i : Int) (r : RP) : Prop := -1 ≤ r.1 ∧ r.1 ≤ n ∧ (r.1 = -1 → i ≤ r.2.1 ∧ r.2.1 ≤ n ∧ (r.2.2.length : Int) ≤ r.2.1 - i)
theorem RpB.w {n i : Int} {r : RP} (h : RpB n i r) : RpW n i r := ⟨h.1, h.2.1, fun z => by have := h.2.2 z; omega⟩
/-- behind a sign: a part is read, the sign is said -/
theorem mo_step {s a0 s1 g1 s2 g2 : Int → Int} {n r q o c : Int} {X Y : RP} (hG : Gs s a0 r X.2.1 (trL X.2.2) s1 g1) (hGb : 2 * s1 29 ≤ 2 * s 29 + 3 * (X.2.1 - s 3) + 1) (hX : RpW n (s 3) X) (hX1 : X.1 = -1) (h5 : s1 5 = s 5) (hq : X.2.1 ≤ q) (hqn : q < n) (h0 : 0 ≤ s 3) (h290 : 0 ≤ s 29) (h29 : 2 * s 29 + 3 * (n - s 3) ≤ 790) (hY : RpB n (q + 1) Y) (hE : ExG (fu s1 3 (q + 1)) g1 n r Y s2 g2) (ho : trT o = [c]) :
    RpB n (s 3) (rpT Y fun j t => (-1, j, X.2.2 ++ t ++ [o])) ∧ ExG s a0 n r (rpT Y fun j t => (-1, j, X.2.2 ++ t ++ [o])) (fu s2 29 (s2 29 + 1)) (fu g2 (400 * r + s2 29) c) ∧ 0 ≤ s2 29 ∧ s2 29 < 400 ∧ SmE s s2 := by
  obtain ⟨e5, eb, en, ey⟩ := hE
  have e5 : s2 5 = s1 5 := e5
  have eb : 2 * s2 29 ≤ 2 * s1 29 + 3 * (n - (q + 1)) + 1 := eb
  have hx := hX.2.2 hX1
  by_cases zf : Y.1 = -1
  · obtain ⟨y1, y2⟩ := ey zf
    have y2 : 2 * s2 29 ≤ 2 * s1 29 + 3 * (Y.2.1 - (q + 1)) + 1 := y2
    have hy := hY.2.2 zf
    have zG := (hG.at_ (j' := q + 1)).seq y1
    have z29 := zG.2.2.2.1
    rw [rpT_ok zf]
    refine ⟨⟨by show (-1 : Int) ≤ -1; omega, by show (-1 : Int) ≤ n; omega, fun _ => ⟨by show s 3 < Y.2.1; omega, by show Y.2.1 ≤ n; omega, ?_⟩⟩, ExG.of_ok rfl (by show s2 5 = s 5; omega) (by omega) (by show 2 * (s2 29 + 1) ≤ _; omega) ?_, by omega, by omega, zG.1⟩
    · show ((X.2.2 ++ Y.2.2 ++ [o]).length : Int) ≤ Y.2.1 - s 3
      simp only [List.length_append, List.length_cons, List.length_nil]
      omega
    · rw [trL_op ho]
      exact zG.say (by omega)
  · have y1 := en zf
    have zB := (hG.at_ (j' := q + 1)).bad y1
    have zb4 := zB.2.2.2.1
    rw [rpT_no zf]
    exact ⟨RpB.f (by have := hY.1; omega) hY.2.1, ExG.of_bad rfl zf (by show s2 5 = s 5; omega) (by show 2 * (s2 29 + 1) ≤ _; omega) (zB.say (by omega)), by omega, by omega, zB.1⟩
def skR (b : Int → Int) (n : Int) (X : RP) : RP := rpT X fun j t => (-1, skS b n j, t)
theorem skR_t {b : Int → Int} {n : Int} {Y : RP} {g : List Int → List Int} (hY : Y.1 ≠ -1 → True) : skR b n (rpT Y fun j t => (-1, j, g t)) = rpT Y fun j t => (-1, skS b n j, g t) := by
  unfold skR
  by_cases zf : Y.1 = -1
  · rw [rpT_ok zf, rpT_ok zf, rpT_ok rfl]
  · rw [rpT_no zf, rpT_no zf, rpT_no (show (rpF Y.1).1 ≠ -1 from zf)]
    rfl
set_option maxRecDepth 100000 in
set_option maxHeartbeats 4000000 in
theorem lp_X11_term {k : WC} {d : Nat} {w : MC} {h0 : AH} {s : Int → Int} {A : MAs} {b : Int → Int} {n : Int} {r dp : Int} {c : Nat} {P : Int → RP} {R : RP} (hr0 : 0 ≤ r) (hr6 : r ≤ 6) (hg : GdP n P) (hP : NtM k mdX11_atom [] b n r dp c P) (hd : c + 4 ≤ d) (hT : RdM s A b n) (h30 : 0 ≤ s 3) (h31 : s 3 ≤ n) (h5d : s 5 = dp) (h28 : s 28 = r) (h290 : 0 ≤ s 29) (h29 : 2 * s 29 + 3 * (n - s 3) ≤ 790) (hc : Cx w k d 0 0 mdX11_term) (he : Ends w 0 0 (ExP s A n r R h0)) : ∀ (zm : Nat) (X : RP) (s1 g1 : Int → Int) (h : AH) (z1 : Option AV), RpB n (s 3) X → ExG s (A 23) n r X s1 g1 → (X.1 = -1 → n - X.2.1 ≤ zm) → lpO b n P 42 (-8) 47 (-9) zm (skR b n X) = R → MdS h s1 (fuA A 23 g1) → Fr isRm h0 h → J w 0 0 4 [some (vR (70, 0)), z1] [] h := by
  intro zm
  induction zm using Nat.strongRecOn with
  | _ zm ih =>
    intro X s1 g1 h z1 hX hE hm hR hS hF
    have hn := hT.2.1
    obtain ⟨h5, hb, hbad, hgood⟩ := hE
    by_cases zf : X.1 ≠ -1
    · have zB := hbad zf
      have zR : R = rpF X.1 := by
        rw [← hR, show skR b n X = rpF X.1 from rpT_no zf]
        exact lpO_stop (r := rpF X.1) (fun z => zf z.1) _
      refine j_aload_n hc dX11_term_4 rfl ?_
      refine j_get hc dX11_term_5 fX11_132 hS.1 rfl ?_
      refine j_iconst hc dX11_term_8 ?_
      refine j_icmp_ne (tgt := 57) hc dX11_term_9 (by decide) (by rw [zB.2.1]; exact ⟨by have := hX.1; omega, by have := hX.2.1; omega⟩) ⟨by omega, by omega⟩ (fun zc1 => ?_) (fun zc1 => ?_)
      · exact j_vret hc he dX11_term_57 rfl (by omega) (by omega) ⟨rfl, _, _, ExG.of_bad zR zf h5 hb zB, hS, hF⟩
      · exact absurd (zB.2.1.symm.trans zc1) zf
    · have zf : X.1 = -1 := by omega
      obtain ⟨zG, zG2⟩ := hgood zf
      have zx := hX.2.2 zf
      have zm1 := hm zf
      have z29 := zG.2.2.2.1
      obtain ⟨p1, p2, p3⟩ := skS_b b n X.2.1
      have p2 := p2 (by omega)
      have zs1 := hrM_S hT (show 0 ≤ skS b n X.2.1 by omega)
      have zs2 := hrM_b hT (show 0 ≤ skS b n X.2.1 by omega)
      have zsk : skR b n X = (-1, skS b n X.2.1, X.2.2) := rpT_ok zf
      refine j_aload_n hc dX11_term_4 rfl ?_
      refine j_get hc dX11_term_5 fX11_132 hS.1 rfl ?_
      refine j_iconst hc dX11_term_8 ?_
      refine j_icmp_ne (tgt := 57) hc dX11_term_9 (by decide) (by rw [zG.2.1]; exact ⟨by omega, by omega⟩) ⟨by omega, by omega⟩ (fun zc1 => ?_) (fun zc1 => ?_)
      · exact absurd zG.2.1 zc1
      · refine j_aload_n hc dX11_term_12 rfl ?_
        refine j_callV (d' := d - 1) hc dX11_term_13 vX11_135 hS.1 (ev_X11_look (b := b) (n := n) (by omega) hS (SmE.rd zG.1 hT rfl) (by rw [zG.2.2.1]; omega) (by rw [zG.2.2.1]; omega)) rfl (by omega) (by omega) (by omega) rfl rfl (Nat.le_of_ble_eq_true rfl) (retE fun zv13 zq13 zp13 => ?_)
        obtain ⟨zv1, zS1, zF1⟩ := zp13
        subst zv1
        rw [zG.2.2.1]
        rw [zG.2.2.1] at zS1
        refine j_bipush hc dX11_term_16 (by decide) ?_
        refine j_icmp_eq (tgt := 30) hc dX11_term_18 (by decide) ⟨by omega, by omega⟩ ⟨by omega, by omega⟩ (fun zc2 => ?_) (fun zc2 => ?_)
        · have zch : hrM b n (skS b n X.2.1) = 42 := by omega
          refine j_aload_n hc dX11_term_30 rfl ?_
          refine j_callV (d' := d - 1) hc dX11_term_31 vX11_135 zS1.1 (ev_X11_look (b := b) (n := n) (by omega) zS1 (SmE.rd zG.1.f3 hT rfl) (by show 0 ≤ skS b n X.2.1; omega) (by show skS b n X.2.1 ≤ 900; omega)) rfl (by omega) (by omega) (by omega) rfl rfl (Nat.le_of_ble_eq_true rfl) (retE fun zv31 zq31 zp31 => ?_)
          obtain ⟨zv3, zS3, zF3⟩ := zp31
          subst zv3
          rw [show fu s1 3 (skS b n X.2.1) 3 = skS b n X.2.1 from rfl, skS_idem]
          rw [show fu s1 3 (skS b n X.2.1) 3 = skS b n X.2.1 from rfl, skS_idem, fu_fu] at zS3
          refine j_istore_n (L' := [_, _]) hc dX11_term_34 (Nat.le_of_ble_eq_true rfl) rfl ?_
          refine j_aload_n hc dX11_term_35 rfl ?_
          refine j_dup hc dX11_term_36 rfl ?_
          refine j_get hc dX11_term_37 fX11_125 zS3.1 rfl ?_
          rw [fu_same]
          refine j_iconst hc dX11_term_40 ?_
          refine j_iadd hc dX11_term_41 ?_
          refine j_put  hc dX11_term_42 pX11_125 zS3.1 rfl mset_3 ?_
          generalize ezh1 : up _ _ _ = zh1
          have zzmod_zh1 := MdS.pf ezh1 zS3
          have zS8 := zzmod_zh1
          rw [fu_fu] at zS8
          refine j_aload_n hc dX11_term_45 rfl ?_
          refine j_callV (d' := d - 1) hc dX11_term_46 vX11_198 zS8.1 (hP (d - 1) _ _ _ (by omega) zS8 (SmE.rd zG.1.f3 hT rfl) (by show 0 ≤ skS b n X.2.1 + 1; omega) (by show skS b n X.2.1 + 1 ≤ n; omega) (show s1 4 = -1 from zG.2.1) (by show s1 5 = dp; omega) (zG.1.f3.in_ h28) (by show 0 ≤ s1 29; omega) (by show 2 * s1 29 + 3 * (n - (skS b n X.2.1 + 1)) ≤ 790; omega)) rfl (by omega) (by omega) (by omega) rfl rfl (Nat.le_of_ble_eq_true rfl) (retN fun zq46 zp46 => ?_)
          obtain ⟨s2, g2, zE4, zS4, zF4⟩ := zp46
          rw [fuA_at] at zE4
          rw [fuA_fuA] at zS4
          obtain ⟨zX1, zX2, zX3, zX4, zX5⟩ := mo_step (o := (-8)) (c := hrM b n (skS b n X.2.1)) zG zG2 hX.w zf h5 (by omega) (by omega) h30 h290 h29 (hg _ (by omega) (by omega)) zE4 (by rw [zch]; rfl)
          refine j_aload_n hc dX11_term_49 rfl ?_
          refine j_iload_n hc dX11_term_50 rfl ?_
          refine j_callV (d' := d - 1) hc dX11_term_51 vX11_183 zS4.1 (ev_X11_say' (by omega) zS4 hr0 hr6 (zX5.in_ h28) (zX3) (zX4)) rfl (by omega) (by omega) (by omega) rfl rfl (Nat.le_of_ble_eq_true rfl) (retN fun zq51 zp51 => ?_)
          obtain ⟨zS5, zF5⟩ := zp51
          refine j_goto (tgt := 4) hc dX11_term_54 (by decide) ?_
          obtain ⟨zm2, rfl⟩ : ∃ x, zm = x + 1 := ⟨zm - 1, by omega⟩
          refine ih zm2 (by omega) _ _ _ _ _ zX1 zX2 (fun z => ?_) ?_ zS5 (Fr.tr (Fr.tr ((by rw [← ezh1]; exact Fr.push (Fr.tr (Fr.tr (hF) (zF1.mono fun z zz => Or.inl zz)) (zF3.mono fun z zz => Or.inl zz)) (Or.inl rfl))) zF4) zF5)
          · by_cases zy : (P (skS b n X.2.1 + 1)).1 = -1
            · rw [rpT_ok zy]
              have := ((hg (skS b n X.2.1 + 1) (by omega) (by omega)).2.2 zy).1
              show n - (P (skS b n X.2.1 + 1)).2.1 ≤ zm2
              omega
            · rw [rpT_no zy] at z
              exact absurd z zy
          · rw [← hR, zsk, lpO_go (by dsimp only; exact ⟨rfl, by omega⟩), skR_t (g := fun t => X.2.2 ++ t ++ [(-8)]) (fun _ => trivial)]
            dsimp only
            rw [if_pos (by omega)]
        · refine j_aload_n hc dX11_term_21 rfl ?_
          refine j_callV (d' := d - 1) hc dX11_term_22 vX11_135 zS1.1 (ev_X11_look (b := b) (n := n) (by omega) zS1 (SmE.rd zG.1.f3 hT rfl) (by show 0 ≤ skS b n X.2.1; omega) (by show skS b n X.2.1 ≤ 900; omega)) rfl (by omega) (by omega) (by omega) rfl rfl (Nat.le_of_ble_eq_true rfl) (retE fun zv22 zq22 zp22 => ?_)
          obtain ⟨zv2, zS2, zF2⟩ := zp22
          subst zv2
          rw [show fu s1 3 (skS b n X.2.1) 3 = skS b n X.2.1 from rfl, skS_idem]
          rw [show fu s1 3 (skS b n X.2.1) 3 = skS b n X.2.1 from rfl, skS_idem, fu_fu] at zS2
          refine j_bipush hc dX11_term_25 (by decide) ?_
          refine j_icmp_ne (tgt := 57) hc dX11_term_27 (by decide) ⟨by omega, by omega⟩ ⟨by omega, by omega⟩ (fun zc3 => ?_) (fun zc3 => ?_)
          · exact j_vret hc he dX11_term_57 rfl (by omega) (by omega) ⟨rfl, _, _, ExG.of_ok (j := skS b n X.2.1) (t := X.2.2) (by rw [← hR, zsk]; exact lpO_stop (by show ¬ (_ ∧ _); intro z; have := z.2; dsimp only at this; omega) _) (by show s1 5 = s 5; omega) (by omega) (by show 2 * s1 29 ≤ _; omega) zG.at_, zS2, Fr.tr (Fr.tr (hF) (zF1.mono fun z zz => Or.inl zz)) (zF2.mono fun z zz => Or.inl zz)⟩
          · have zch : hrM b n (skS b n X.2.1) = 47 := by omega
            refine j_aload_n hc dX11_term_30 rfl ?_
            refine j_callV (d' := d - 1) hc dX11_term_31 vX11_135 zS2.1 (ev_X11_look (b := b) (n := n) (by omega) zS2 (SmE.rd zG.1.f3 hT rfl) (by show 0 ≤ skS b n X.2.1; omega) (by show skS b n X.2.1 ≤ 900; omega)) rfl (by omega) (by omega) (by omega) rfl rfl (Nat.le_of_ble_eq_true rfl) (retE fun zv31 zq31 zp31 => ?_)
            obtain ⟨zv3, zS3, zF3⟩ := zp31
            subst zv3
            rw [show fu s1 3 (skS b n X.2.1) 3 = skS b n X.2.1 from rfl, skS_idem]
            rw [show fu s1 3 (skS b n X.2.1) 3 = skS b n X.2.1 from rfl, skS_idem, fu_fu] at zS3
            refine j_istore_n (L' := [_, _]) hc dX11_term_34 (Nat.le_of_ble_eq_true rfl) rfl ?_
            refine j_aload_n hc dX11_term_35 rfl ?_
            refine j_dup hc dX11_term_36 rfl ?_
            refine j_get hc dX11_term_37 fX11_125 zS3.1 rfl ?_
            rw [fu_same]
            refine j_iconst hc dX11_term_40 ?_
            refine j_iadd hc dX11_term_41 ?_
            refine j_put  hc dX11_term_42 pX11_125 zS3.1 rfl mset_3 ?_
            generalize ezh2 : up _ _ _ = zh2
            have zzmod_zh2 := MdS.pf ezh2 zS3
            have zS8 := zzmod_zh2
            rw [fu_fu] at zS8
            refine j_aload_n hc dX11_term_45 rfl ?_
            refine j_callV (d' := d - 1) hc dX11_term_46 vX11_198 zS8.1 (hP (d - 1) _ _ _ (by omega) zS8 (SmE.rd zG.1.f3 hT rfl) (by show 0 ≤ skS b n X.2.1 + 1; omega) (by show skS b n X.2.1 + 1 ≤ n; omega) (show s1 4 = -1 from zG.2.1) (by show s1 5 = dp; omega) (zG.1.f3.in_ h28) (by show 0 ≤ s1 29; omega) (by show 2 * s1 29 + 3 * (n - (skS b n X.2.1 + 1)) ≤ 790; omega)) rfl (by omega) (by omega) (by omega) rfl rfl (Nat.le_of_ble_eq_true rfl) (retN fun zq46 zp46 => ?_)
            obtain ⟨s2, g2, zE4, zS4, zF4⟩ := zp46
            rw [fuA_at] at zE4
            rw [fuA_fuA] at zS4
            obtain ⟨zX1, zX2, zX3, zX4, zX5⟩ := mo_step (o := (-9)) (c := hrM b n (skS b n X.2.1)) zG zG2 hX.w zf h5 (by omega) (by omega) h30 h290 h29 (hg _ (by omega) (by omega)) zE4 (by rw [zch]; rfl)
            refine j_aload_n hc dX11_term_49 rfl ?_
            refine j_iload_n hc dX11_term_50 rfl ?_
            refine j_callV (d' := d - 1) hc dX11_term_51 vX11_183 zS4.1 (ev_X11_say' (by omega) zS4 hr0 hr6 (zX5.in_ h28) (zX3) (zX4)) rfl (by omega) (by omega) (by omega) rfl rfl (Nat.le_of_ble_eq_true rfl) (retN fun zq51 zp51 => ?_)
            obtain ⟨zS5, zF5⟩ := zp51
            refine j_goto (tgt := 4) hc dX11_term_54 (by decide) ?_
            obtain ⟨zm2, rfl⟩ : ∃ x, zm = x + 1 := ⟨zm - 1, by omega⟩
            refine ih zm2 (by omega) _ _ _ _ _ zX1 zX2 (fun z => ?_) ?_ zS5 (Fr.tr (Fr.tr ((by rw [← ezh2]; exact Fr.push (Fr.tr (Fr.tr (Fr.tr (hF) (zF1.mono fun z zz => Or.inl zz)) (zF2.mono fun z zz => Or.inl zz)) (zF3.mono fun z zz => Or.inl zz)) (Or.inl rfl))) zF4) zF5)
            · by_cases zy : (P (skS b n X.2.1 + 1)).1 = -1
              · rw [rpT_ok zy]
                have := ((hg (skS b n X.2.1 + 1) (by omega) (by omega)).2.2 zy).1
                show n - (P (skS b n X.2.1 + 1)).2.1 ≤ zm2
                omega
              · rw [rpT_no zy] at z
                exact absurd z zy
            · rw [← hR, zsk, lpO_go (by dsimp only; exact ⟨rfl, by omega⟩), skR_t (g := fun t => X.2.2 ++ t ++ [(-9)]) (fun _ => trivial)]
              dsimp only
              rw [if_neg (by omega)]
set_option maxRecDepth 100000 in
set_option maxHeartbeats 4000000 in
theorem mt_X11_term {k : WC} {b : Int → Int} {n r dp : Int} {c : Nat} {P : Int → RP} (hr0 : 0 ≤ r) (hr6 : r ≤ 6) (hg : GdP n P) (hP : NtM k mdX11_atom [] b n r dp c P) : NtM k mdX11_term [] b n r dp (c + 4) (biG b n P 42 (-8) 47 (-9)) := by
  intro d h s A hd hS hT h30 h31 h4 h5 h28 h290 h29
  have hn := hT.2.1
  refine Ev.mk (by decide +kernel) [_, _] rfl (Nat.le_of_ble_eq_true rfl) (fun w hc he => ?_)
  refine j_aload_n hc dX11_term_0 rfl ?_
  refine j_callV (d' := d - 1) hc dX11_term_1 vX11_198 hS.1 (hP (d - 1) h s A (by omega) hS hT h30 h31 h4 h5 h28 h290 h29) rfl (by omega) (by omega) (by omega) rfl rfl (Nat.le_of_ble_eq_true rfl) (retN fun zq1 zp1 => ?_)
  obtain ⟨s1, g1, zE1, zS1, zF1⟩ := zp1
  exact lp_X11_term hr0 hr6 hg hP (by omega) hT h30 h31 h5 h28 h290 h29 hc he 240 _ s1 g1 _ _ (hg _ h30 h31) zE1 (fun z => by have := (hg _ h30 h31).2.2 z; omega) rfl zS1 (Fr.tr (Fr.rf _ _) zF1)
set_option maxRecDepth 100000 in
set_option maxHeartbeats 4000000 in
theorem lp_X11_sum {k : WC} {d : Nat} {w : MC} {h0 : AH} {s : Int → Int} {A : MAs} {b : Int → Int} {n : Int} {r dp : Int} {c : Nat} {P : Int → RP} {R : RP} (hr0 : 0 ≤ r) (hr6 : r ≤ 6) (hg : GdP n P) (hP : NtM k mdX11_term [] b n r dp c P) (hd : c + 4 ≤ d) (hT : RdM s A b n) (h30 : 0 ≤ s 3) (h31 : s 3 ≤ n) (h5d : s 5 = dp) (h28 : s 28 = r) (h290 : 0 ≤ s 29) (h29 : 2 * s 29 + 3 * (n - s 3) ≤ 790) (hc : Cx w k d 0 0 mdX11_sum) (he : Ends w 0 0 (ExP s A n r R h0)) : ∀ (zm : Nat) (X : RP) (s1 g1 : Int → Int) (h : AH) (z1 : Option AV), RpB n (s 3) X → ExG s (A 23) n r X s1 g1 → (X.1 = -1 → n - X.2.1 ≤ zm) → lpO b n P 43 (-6) 45 (-7) zm (skR b n X) = R → MdS h s1 (fuA A 23 g1) → Fr isRm h0 h → J w 0 0 4 [some (vR (70, 0)), z1] [] h := by
  intro zm
  induction zm using Nat.strongRecOn with
  | _ zm ih =>
    intro X s1 g1 h z1 hX hE hm hR hS hF
    have hn := hT.2.1
    obtain ⟨h5, hb, hbad, hgood⟩ := hE
    by_cases zf : X.1 ≠ -1
    · have zB := hbad zf
      have zR : R = rpF X.1 := by
        rw [← hR, show skR b n X = rpF X.1 from rpT_no zf]
        exact lpO_stop (r := rpF X.1) (fun z => zf z.1) _
      refine j_aload_n hc dX11_sum_4 rfl ?_
      refine j_get hc dX11_sum_5 fX11_132 hS.1 rfl ?_
      refine j_iconst hc dX11_sum_8 ?_
      refine j_icmp_ne (tgt := 57) hc dX11_sum_9 (by decide) (by rw [zB.2.1]; exact ⟨by have := hX.1; omega, by have := hX.2.1; omega⟩) ⟨by omega, by omega⟩ (fun zc1 => ?_) (fun zc1 => ?_)
      · exact j_vret hc he dX11_sum_57 rfl (by omega) (by omega) ⟨rfl, _, _, ExG.of_bad zR zf h5 hb zB, hS, hF⟩
      · exact absurd (zB.2.1.symm.trans zc1) zf
    · have zf : X.1 = -1 := by omega
      obtain ⟨zG, zG2⟩ := hgood zf
      have zx := hX.2.2 zf
      have zm1 := hm zf
      have z29 := zG.2.2.2.1
      obtain ⟨p1, p2, p3⟩ := skS_b b n X.2.1
      have p2 := p2 (by omega)
      have zs1 := hrM_S hT (show 0 ≤ skS b n X.2.1 by omega)
      have zs2 := hrM_b hT (show 0 ≤ skS b n X.2.1 by omega)
      have zsk : skR b n X = (-1, skS b n X.2.1, X.2.2) := rpT_ok zf
      refine j_aload_n hc dX11_sum_4 rfl ?_
      refine j_get hc dX11_sum_5 fX11_132 hS.1 rfl ?_
      refine j_iconst hc dX11_sum_8 ?_
      refine j_icmp_ne (tgt := 57) hc dX11_sum_9 (by decide) (by rw [zG.2.1]; exact ⟨by omega, by omega⟩) ⟨by omega, by omega⟩ (fun zc1 => ?_) (fun zc1 => ?_)
      · exact absurd zG.2.1 zc1
      · refine j_aload_n hc dX11_sum_12 rfl ?_
        refine j_callV (d' := d - 1) hc dX11_sum_13 vX11_135 hS.1 (ev_X11_look (b := b) (n := n) (by omega) hS (SmE.rd zG.1 hT rfl) (by rw [zG.2.2.1]; omega) (by rw [zG.2.2.1]; omega)) rfl (by omega) (by omega) (by omega) rfl rfl (Nat.le_of_ble_eq_true rfl) (retE fun zv13 zq13 zp13 => ?_)
        obtain ⟨zv1, zS1, zF1⟩ := zp13
        subst zv1
        rw [zG.2.2.1]
        rw [zG.2.2.1] at zS1
        refine j_bipush hc dX11_sum_16 (by decide) ?_
        refine j_icmp_eq (tgt := 30) hc dX11_sum_18 (by decide) ⟨by omega, by omega⟩ ⟨by omega, by omega⟩ (fun zc2 => ?_) (fun zc2 => ?_)
        · have zch : hrM b n (skS b n X.2.1) = 43 := by omega
          refine j_aload_n hc dX11_sum_30 rfl ?_
          refine j_callV (d' := d - 1) hc dX11_sum_31 vX11_135 zS1.1 (ev_X11_look (b := b) (n := n) (by omega) zS1 (SmE.rd zG.1.f3 hT rfl) (by show 0 ≤ skS b n X.2.1; omega) (by show skS b n X.2.1 ≤ 900; omega)) rfl (by omega) (by omega) (by omega) rfl rfl (Nat.le_of_ble_eq_true rfl) (retE fun zv31 zq31 zp31 => ?_)
          obtain ⟨zv3, zS3, zF3⟩ := zp31
          subst zv3
          rw [show fu s1 3 (skS b n X.2.1) 3 = skS b n X.2.1 from rfl, skS_idem]
          rw [show fu s1 3 (skS b n X.2.1) 3 = skS b n X.2.1 from rfl, skS_idem, fu_fu] at zS3
          refine j_istore_n (L' := [_, _]) hc dX11_sum_34 (Nat.le_of_ble_eq_true rfl) rfl ?_
          refine j_aload_n hc dX11_sum_35 rfl ?_
          refine j_dup hc dX11_sum_36 rfl ?_
          refine j_get hc dX11_sum_37 fX11_125 zS3.1 rfl ?_
          rw [fu_same]
          refine j_iconst hc dX11_sum_40 ?_
          refine j_iadd hc dX11_sum_41 ?_
          refine j_put  hc dX11_sum_42 pX11_125 zS3.1 rfl mset_3 ?_
          generalize ezh1 : up _ _ _ = zh1
          have zzmod_zh1 := MdS.pf ezh1 zS3
          have zS8 := zzmod_zh1
          rw [fu_fu] at zS8
          refine j_aload_n hc dX11_sum_45 rfl ?_
          refine j_callV (d' := d - 1) hc dX11_sum_46 vX11_201 zS8.1 (hP (d - 1) _ _ _ (by omega) zS8 (SmE.rd zG.1.f3 hT rfl) (by show 0 ≤ skS b n X.2.1 + 1; omega) (by show skS b n X.2.1 + 1 ≤ n; omega) (show s1 4 = -1 from zG.2.1) (by show s1 5 = dp; omega) (zG.1.f3.in_ h28) (by show 0 ≤ s1 29; omega) (by show 2 * s1 29 + 3 * (n - (skS b n X.2.1 + 1)) ≤ 790; omega)) rfl (by omega) (by omega) (by omega) rfl rfl (Nat.le_of_ble_eq_true rfl) (retN fun zq46 zp46 => ?_)
          obtain ⟨s2, g2, zE4, zS4, zF4⟩ := zp46
          rw [fuA_at] at zE4
          rw [fuA_fuA] at zS4
          obtain ⟨zX1, zX2, zX3, zX4, zX5⟩ := mo_step (o := (-6)) (c := hrM b n (skS b n X.2.1)) zG zG2 hX.w zf h5 (by omega) (by omega) h30 h290 h29 (hg _ (by omega) (by omega)) zE4 (by rw [zch]; rfl)
          refine j_aload_n hc dX11_sum_49 rfl ?_
          refine j_iload_n hc dX11_sum_50 rfl ?_
          refine j_callV (d' := d - 1) hc dX11_sum_51 vX11_183 zS4.1 (ev_X11_say' (by omega) zS4 hr0 hr6 (zX5.in_ h28) (zX3) (zX4)) rfl (by omega) (by omega) (by omega) rfl rfl (Nat.le_of_ble_eq_true rfl) (retN fun zq51 zp51 => ?_)
          obtain ⟨zS5, zF5⟩ := zp51
          refine j_goto (tgt := 4) hc dX11_sum_54 (by decide) ?_
          obtain ⟨zm2, rfl⟩ : ∃ x, zm = x + 1 := ⟨zm - 1, by omega⟩
          refine ih zm2 (by omega) _ _ _ _ _ zX1 zX2 (fun z => ?_) ?_ zS5 (Fr.tr (Fr.tr ((by rw [← ezh1]; exact Fr.push (Fr.tr (Fr.tr (hF) (zF1.mono fun z zz => Or.inl zz)) (zF3.mono fun z zz => Or.inl zz)) (Or.inl rfl))) zF4) zF5)
          · by_cases zy : (P (skS b n X.2.1 + 1)).1 = -1
            · rw [rpT_ok zy]
              have := ((hg (skS b n X.2.1 + 1) (by omega) (by omega)).2.2 zy).1
              show n - (P (skS b n X.2.1 + 1)).2.1 ≤ zm2
              omega
            · rw [rpT_no zy] at z
              exact absurd z zy
          · rw [← hR, zsk, lpO_go (by dsimp only; exact ⟨rfl, by omega⟩), skR_t (g := fun t => X.2.2 ++ t ++ [(-6)]) (fun _ => trivial)]
            dsimp only
            rw [if_pos (by omega)]
        · refine j_aload_n hc dX11_sum_21 rfl ?_
          refine j_callV (d' := d - 1) hc dX11_sum_22 vX11_135 zS1.1 (ev_X11_look (b := b) (n := n) (by omega) zS1 (SmE.rd zG.1.f3 hT rfl) (by show 0 ≤ skS b n X.2.1; omega) (by show skS b n X.2.1 ≤ 900; omega)) rfl (by omega) (by omega) (by omega) rfl rfl (Nat.le_of_ble_eq_true rfl) (retE fun zv22 zq22 zp22 => ?_)
          obtain ⟨zv2, zS2, zF2⟩ := zp22
          subst zv2
          rw [show fu s1 3 (skS b n X.2.1) 3 = skS b n X.2.1 from rfl, skS_idem]
          rw [show fu s1 3 (skS b n X.2.1) 3 = skS b n X.2.1 from rfl, skS_idem, fu_fu] at zS2
          refine j_bipush hc dX11_sum_25 (by decide) ?_
          refine j_icmp_ne (tgt := 57) hc dX11_sum_27 (by decide) ⟨by omega, by omega⟩ ⟨by omega, by omega⟩ (fun zc3 => ?_) (fun zc3 => ?_)
          · exact j_vret hc he dX11_sum_57 rfl (by omega) (by omega) ⟨rfl, _, _, ExG.of_ok (j := skS b n X.2.1) (t := X.2.2) (by rw [← hR, zsk]; exact lpO_stop (by show ¬ (_ ∧ _); intro z; have := z.2; dsimp only at this; omega) _) (by show s1 5 = s 5; omega) (by omega) (by show 2 * s1 29 ≤ _; omega) zG.at_, zS2, Fr.tr (Fr.tr (hF) (zF1.mono fun z zz => Or.inl zz)) (zF2.mono fun z zz => Or.inl zz)⟩
          · have zch : hrM b n (skS b n X.2.1) = 45 := by omega
            refine j_aload_n hc dX11_sum_30 rfl ?_
            refine j_callV (d' := d - 1) hc dX11_sum_31 vX11_135 zS2.1 (ev_X11_look (b := b) (n := n) (by omega) zS2 (SmE.rd zG.1.f3 hT rfl) (by show 0 ≤ skS b n X.2.1; omega) (by show skS b n X.2.1 ≤ 900; omega)) rfl (by omega) (by omega) (by omega) rfl rfl (Nat.le_of_ble_eq_true rfl) (retE fun zv31 zq31 zp31 => ?_)
            obtain ⟨zv3, zS3, zF3⟩ := zp31
            subst zv3
            rw [show fu s1 3 (skS b n X.2.1) 3 = skS b n X.2.1 from rfl, skS_idem]
            rw [show fu s1 3 (skS b n X.2.1) 3 = skS b n X.2.1 from rfl, skS_idem, fu_fu] at zS3
            refine j_istore_n (L' := [_, _]) hc dX11_sum_34 (Nat.le_of_ble_eq_true rfl) rfl ?_
            refine j_aload_n hc dX11_sum_35 rfl ?_
            refine j_dup hc dX11_sum_36 rfl ?_
            refine j_get hc dX11_sum_37 fX11_125 zS3.1 rfl ?_
            rw [fu_same]
            refine j_iconst hc dX11_sum_40 ?_
            refine j_iadd hc dX11_sum_41 ?_
            refine j_put  hc dX11_sum_42 pX11_125 zS3.1 rfl mset_3 ?_
            generalize ezh2 : up _ _ _ = zh2
            have zzmod_zh2 := MdS.pf ezh2 zS3
            have zS8 := zzmod_zh2
            rw [fu_fu] at zS8
            refine j_aload_n hc dX11_sum_45 rfl ?_
            refine j_callV (d' := d - 1) hc dX11_sum_46 vX11_201 zS8.1 (hP (d - 1) _ _ _ (by omega) zS8 (SmE.rd zG.1.f3 hT rfl) (by show 0 ≤ skS b n X.2.1 + 1; omega) (by show skS b n X.2.1 + 1 ≤ n; omega) (show s1 4 = -1 from zG.2.1) (by show s1 5 = dp; omega) (zG.1.f3.in_ h28) (by show 0 ≤ s1 29; omega) (by show 2 * s1 29 + 3 * (n - (skS b n X.2.1 + 1)) ≤ 790; omega)) rfl (by omega) (by omega) (by omega) rfl rfl (Nat.le_of_ble_eq_true rfl) (retN fun zq46 zp46 => ?_)
            obtain ⟨s2, g2, zE4, zS4, zF4⟩ := zp46
            rw [fuA_at] at zE4
            rw [fuA_fuA] at zS4
            obtain ⟨zX1, zX2, zX3, zX4, zX5⟩ := mo_step (o := (-7)) (c := hrM b n (skS b n X.2.1)) zG zG2 hX.w zf h5 (by omega) (by omega) h30 h290 h29 (hg _ (by omega) (by omega)) zE4 (by rw [zch]; rfl)
            refine j_aload_n hc dX11_sum_49 rfl ?_
            refine j_iload_n hc dX11_sum_50 rfl ?_
            refine j_callV (d' := d - 1) hc dX11_sum_51 vX11_183 zS4.1 (ev_X11_say' (by omega) zS4 hr0 hr6 (zX5.in_ h28) (zX3) (zX4)) rfl (by omega) (by omega) (by omega) rfl rfl (Nat.le_of_ble_eq_true rfl) (retN fun zq51 zp51 => ?_)
            obtain ⟨zS5, zF5⟩ := zp51
            refine j_goto (tgt := 4) hc dX11_sum_54 (by decide) ?_
            obtain ⟨zm2, rfl⟩ : ∃ x, zm = x + 1 := ⟨zm - 1, by omega⟩
            refine ih zm2 (by omega) _ _ _ _ _ zX1 zX2 (fun z => ?_) ?_ zS5 (Fr.tr (Fr.tr ((by rw [← ezh2]; exact Fr.push (Fr.tr (Fr.tr (Fr.tr (hF) (zF1.mono fun z zz => Or.inl zz)) (zF2.mono fun z zz => Or.inl zz)) (zF3.mono fun z zz => Or.inl zz)) (Or.inl rfl))) zF4) zF5)
            · by_cases zy : (P (skS b n X.2.1 + 1)).1 = -1
              · rw [rpT_ok zy]
                have := ((hg (skS b n X.2.1 + 1) (by omega) (by omega)).2.2 zy).1
                show n - (P (skS b n X.2.1 + 1)).2.1 ≤ zm2
                omega
              · rw [rpT_no zy] at z
                exact absurd z zy
            · rw [← hR, zsk, lpO_go (by dsimp only; exact ⟨rfl, by omega⟩), skR_t (g := fun t => X.2.2 ++ t ++ [(-7)]) (fun _ => trivial)]
              dsimp only
              rw [if_neg (by omega)]
set_option maxRecDepth 100000 in
set_option maxHeartbeats 4000000 in
theorem mt_X11_sum {k : WC} {b : Int → Int} {n r dp : Int} {c : Nat} {P : Int → RP} (hr0 : 0 ≤ r) (hr6 : r ≤ 6) (hg : GdP n P) (hP : NtM k mdX11_term [] b n r dp c P) : NtM k mdX11_sum [] b n r dp (c + 4) (biG b n P 43 (-6) 45 (-7)) := by
  intro d h s A hd hS hT h30 h31 h4 h5 h28 h290 h29
  have hn := hT.2.1
  refine Ev.mk (by decide +kernel) [_, _] rfl (Nat.le_of_ble_eq_true rfl) (fun w hc he => ?_)
  refine j_aload_n hc dX11_sum_0 rfl ?_
  refine j_callV (d' := d - 1) hc dX11_sum_1 vX11_201 hS.1 (hP (d - 1) h s A (by omega) hS hT h30 h31 h4 h5 h28 h290 h29) rfl (by omega) (by omega) (by omega) rfl rfl (Nat.le_of_ble_eq_true rfl) (retN fun zq1 zp1 => ?_)
  obtain ⟨s1, g1, zE1, zS1, zF1⟩ := zp1
  exact lp_X11_sum hr0 hr6 hg hP (by omega) hT h30 h31 h5 h28 h290 h29 hc he 240 _ s1 g1 _ _ (hg _ h30 h31) zE1 (fun z => by have := (hg _ h30 h31).2.2 z; omega) rfl zS1 (Fr.tr (Fr.rf _ _) zF1)
theorem mt_smK {k : WC} (b : Int → Int) (n : Int) {r : Int} (hr0 : 0 ≤ r) (hr6 : r ≤ 6) : ∀ (K : Nat) (dp : Int), dp = 6 - K → K ≤ 6 → NtM k mdX11_sum [] b n r dp (13 * (K + 1)) (smK b n K)
  | 0, dp, hdp, hK => mt_X11_sum hr0 hr6 (biG_b (atG_b (fun s hs => nomatch hs)) (by omega) (by omega)) (mt_X11_term (c := 5) hr0 hr6 (atG_b (fun s hs => nomatch hs)) (mt_atom (c := 0) hr0 hr6 (by omega) (fun _ => by omega) (fun s hs => nomatch hs)))
  | K + 1, dp, hdp, hK => by
    have h1 := mt_smK b n hr0 hr6 K (dp + 1) (by omega) (by omega) (k := k)
    have hg : ∀ s, some (smK b n K) = some s → GdP n s := fun s hs => by
      injection hs with hs
      rw [← hs]
      exact smK_b b n K
    exact mt_X11_sum hr0 hr6 (biG_b (atG_b hg) (by omega) (by omega)) (mt_X11_term hr0 hr6 (atG_b hg) (mt_atom (c := 13 * (K + 1)) hr0 hr6 (by omega) (fun z => nomatch z) (fun s hs => by
      injection hs with hs
      rw [← hs]
      exact ⟨by omega, smK_b b n K, h1⟩)))
