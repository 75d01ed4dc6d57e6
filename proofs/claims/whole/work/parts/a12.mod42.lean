/-! ===== the reference reads a rule: atoms ===== -/
set_option maxRecDepth 100000 in
set_option maxHeartbeats 4000000 in
theorem lp_X11_atom {k : WC} {d : Nat} {w : MC} {h0 : AH} {s : Int → Int} {A : MAs} {b : Int → Int} {n : Int} {r p x : Int} (hd : 3 ≤ d) (hT : RdM s A b n) (hr0 : 0 ≤ r) (hr6 : r ≤ 6) (h4 : s 4 = -1) (h28 : s 28 = r) (h290 : 0 ≤ s 29) (h29 : 2 * s 29 + 3 * (n - s 3) ≤ 790) (h30 : 0 ≤ s 3) (hp0 : s 3 ≤ p) (hp1 : p ≤ n) (hpd : dgS (hrS b n p)) (hc : Cx w k d 0 0 mdX11_atom) (he : Ends w 0 0 (ExP s A n r (diS b n p) h0)) : ∀ (zm : Nat) (j : Nat) (i v : Int) (h : AH), 4 - j = zm → j ≤ 4 → 0 ≤ i → i ≤ n → dgN b n (4 - j) i v = dgN b n 4 p 0 → MdS h (fu s 3 i) (fuA A 23 (A 23)) → Fr isRm h0 h → J w 0 0 28 [some (vR (70, 0)), some (vI x), some (vI v), some (vI j)] [] h := by
  intro zm
  induction zm using Nat.strongRecOn with
  | _ zm ih =>
    intro j i v h hm hj hi0 hi1 hdg hS hF
    have hn := hT.2.1
    have zhb := hrM_b hT hi0
    have zhs := hrM_S hT hi0
    obtain ⟨g1, g2, g3⟩ := dgN_b (b := b) (n := n) 4 p 0 (by omega) hp1
    have g3 := g3 (by omega) hpd
    have gv := (dgN_v (b := b) (n := n) 4 p 0 (by omega)).1
    refine j_aload_n hc dX11_atom_28 rfl ?_
    refine j_callV (d' := d - 1) hc dX11_atom_29 vX11_128 hS.1 (ev_X11_here (by omega) hS (SmE.rd (SmE.rf s).f3 hT rfl) (by show 0 ≤ i; omega) (by show i ≤ 1000; omega)) rfl (by omega) (by omega) (by omega) rfl rfl (Nat.le_of_ble_eq_true rfl) (ret1 ?_)
    rw [show fu s 3 i 3 = i from rfl]
    refine j_callS (d' := d - 1) hc dX11_atom_32 sX11_138 (ev_X11_isDigit (by omega) ⟨by omega, by omega⟩) rfl (by omega) (by omega) (by omega) rfl rfl (Nat.le_of_ble_eq_true rfl) (ret1 ?_)
    refine j_if_eq (b := 0) (tgt := 77) hc dX11_atom_35 (by decide) (by split <;> exact ⟨by omega, by omega⟩) (fun zc1 => ?_) (fun zc1 => ?_)
    · have zq := one_neg zc1
      have zdz : dgN b n 4 p 0 = (i, v) := by rw [← hdg]; cases h4j : 4 - j with | zero => rfl | succ m => (simp only [dgN]; rw [if_neg (show ¬ dgS (hrS b n i) by omega)])
      rw [zdz] at g1 g2 g3 gv
      dsimp only at g1 g2 g3 gv
      refine j_aload_n hc dX11_atom_77 rfl ?_
      refine j_iconst hc dX11_atom_78 ?_
      refine j_callV (d' := d - 1) hc dX11_atom_79 vX11_183 hS.1 (ev_X11_say' (by omega) hS hr0 hr6 (h28) (by show 0 ≤ s 29; omega) (by show s 29 < 400; omega)) rfl (by omega) (by omega) (by omega) rfl rfl (Nat.le_of_ble_eq_true rfl) (retN fun zq79 zp79 => ?_)
      obtain ⟨zS2, zF2⟩ := zp79
      refine j_aload_n hc dX11_atom_82 rfl ?_
      refine j_iload_n hc dX11_atom_83 rfl ?_
      refine j_callV (d' := d - 1) hc dX11_atom_84 vX11_183 zS2.1 (ev_X11_say' (by omega) zS2 hr0 hr6 (h28) (by show 0 ≤ s 29 + 1; omega) (by show s 29 + 1 < 400; omega)) rfl (by omega) (by omega) (by omega) rfl rfl (Nat.le_of_ble_eq_true rfl) (retN fun zq84 zp84 => ?_)
      obtain ⟨zS3, zF3⟩ := zp84
      refine j_goto (tgt := 155) hc dX11_atom_87 (by decide) ?_
      exact j_vret hc he dX11_atom_155 rfl (by omega) (by omega) ⟨rfl, _, _, (by
            rw [show diS b n p = (-1, i, [v]) by unfold diS; rw [zdz]; exact if_neg (show ¬ dgS (hrS b n i) by omega)]
            refine ⟨rfl, by show 2 * (s 29 + 1 + 1) ≤ 2 * s 29 + 3 * (n - s 3) + 1; omega, fun z => absurd rfl z, fun _ => ⟨?_, by show 2 * (s 29 + 1 + 1) ≤ 2 * s 29 + 3 * (i - s 3) + 1; omega⟩⟩
            rw [show trL [v] = ([] ++ [0]) ++ [v] by rw [trL_1]; unfold trT; exact if_pos gv]
            exact (((Gs.st (A 23) r h4).at_ (j' := i)).say (c := 0) (by show s 29 < 400; omega)).say (c := v) (by show s 29 + 1 < 400; omega)), zS3, Fr.tr (Fr.tr (hF) zF2) zF3⟩
    · have zq := one_pos zc1
      refine j_iload_n hc dX11_atom_38 rfl ?_
      refine j_iconst hc dX11_atom_39 ?_
      refine j_icmp_ne (tgt := 48) hc dX11_atom_40 (by decide) ⟨by omega, by omega⟩ ⟨by omega, by omega⟩ (fun zc2 => ?_) (fun zc2 => ?_)
      · refine j_bipush hc dX11_atom_48 (by decide) ?_
        refine j_iload_n hc dX11_atom_50 rfl ?_
        refine j_imul hc dX11_atom_51 ?_
        refine j_aload_n hc dX11_atom_52 rfl ?_
        refine j_callV (d' := d - 1) hc dX11_atom_53 vX11_128 hS.1 (ev_X11_here (by omega) hS (SmE.rd (SmE.rf s).f3 hT rfl) (by show 0 ≤ i; omega) (by show i ≤ 1000; omega)) rfl (by omega) (by omega) (by omega) rfl rfl (Nat.le_of_ble_eq_true rfl) (ret1 ?_)
        rw [show fu s 3 i 3 = i from rfl]
        refine j_iadd hc dX11_atom_56 ?_
        refine j_bipush hc dX11_atom_57 (by decide) ?_
        refine j_isub hc dX11_atom_59 ?_
        refine j_istore_n (L' := [_, _, _, _]) hc dX11_atom_60 (Nat.le_of_ble_eq_true rfl) rfl ?_
        refine j_iinc (L' := [_, _, _, _]) hc dX11_atom_61 rfl (Nat.le_of_ble_eq_true rfl) rfl ?_
        refine j_aload_n hc dX11_atom_64 rfl ?_
        refine j_dup hc dX11_atom_65 rfl ?_
        refine j_get hc dX11_atom_66 fX11_125 hS.1 rfl ?_
        rw [show fu s 3 i 3 = i from rfl]
        refine j_iconst hc dX11_atom_69 ?_
        refine j_iadd hc dX11_atom_70 ?_
        refine j_put  hc dX11_atom_71 pX11_125 hS.1 rfl mset_3 ?_
        generalize ezh1 : up _ _ _ = zh1
        have zzmod_zh1 := MdS.pf ezh1 hS
        refine j_goto (tgt := 28) hc dX11_atom_74 (by decide) ?_
        have zS2 := zzmod_zh1
        rw [fu_fu] at zS2
        have zdn : dgN b n (4 - (j + 1)) (i + 1) (v * 10 + hrS b n i - 48) = dgN b n 4 p 0 := by
          rw [← hdg, show 4 - j = (4 - (j + 1)) + 1 by omega]
          simp only [dgN]
          rw [if_pos (show dgS (hrS b n i) by omega)]
        rw [show (10 : Int) * v + hrM b n i - 48 = v * 10 + hrS b n i - 48 by omega, show ((j : Int) + 1) = ((j + 1 : Nat) : Int) by omega]
        exact ih (4 - (j + 1)) (by omega) (j + 1) (i + 1) _ _ rfl (by omega) (by omega) (by omega) zdn zS2 ((by rw [← ezh1]; exact Fr.push (hF) (Or.inl rfl)))
      · refine j_aload_n hc dX11_atom_43 rfl ?_
        refine j_callV (d' := d - 1) hc dX11_atom_44 vX11_142 hS.1 (ev_X11_bad_n (by omega) hS (show fu s 3 _ 4 = -1 from h4)) rfl (by omega) (by omega) (by omega) rfl rfl (Nat.le_of_ble_eq_true rfl) (retN fun zq44 zp44 => ?_)
        obtain ⟨zS1, zF1⟩ := zp44
        rw [fu_same] at zS1
        exact j_vret hc he dX11_atom_47 rfl (by omega) (by omega) ⟨rfl, _, _, (by
              have zdz : dgN b n 4 p 0 = (i, v) := by rw [← hdg, show 4 - j = 0 by omega]; rfl
              rw [zdz] at g1 g2 g3
              dsimp only at g1 g2 g3
              rw [show diS b n p = rpF i by unfold diS; rw [zdz]; exact if_pos (show dgS (hrS b n i) by omega)]
              exact ⟨rfl, by show 2 * s 29 ≤ 2 * s 29 + 3 * (n - s 3) + 1; omega, fun z => ((Gs.st (A 23) r h4).at_ (j' := i)).wrong z, fun z => absurd z (by show ¬ (i = -1); omega)⟩), zS1, Fr.tr (hF) (zF1.mono fun z zz => Or.inl zz)⟩
theorem trT_lc {c x : Int} (h : lcS c ≠ 0) (e : x = c) : trT (lcS c) = [1, x] := by
  subst e
  unfold lcS at h ⊢
  by_cases h1 : x = 97
  · rw [if_pos h1, h1]; rfl
  rw [if_neg h1] at h ⊢
  by_cases h2 : x = 115
  · rw [if_pos h2, h2]; rfl
  rw [if_neg h2] at h ⊢
  by_cases h3 : x = 110
  · rw [if_pos h3, h3]; rfl
  rw [if_neg h3] at h ⊢
  by_cases h4 : x = 112
  · rw [if_pos h4, h4]; rfl
  rw [if_neg h4] at h ⊢
  by_cases h5 : x = 114
  · rw [if_pos h5, h5]; rfl
  rw [if_neg h5] at h
  exact absurd rfl h
theorem lcS_m {b : Int → Int} {n i : Int} {s : Int → Int} {A : MAs} (hT : RdM s A b n) (h0 : 0 ≤ i) : lcS (hrM b n i) = lcS (hrS b n i) := by
  rcases hrM_S hT h0 with ⟨_, e, _⟩ | ⟨_, e1, e2⟩
  · rw [e]
  · rw [e1, e2]; rfl
set_option maxRecDepth 100000 in
set_option maxHeartbeats 4000000 in
theorem tl_X11_atom {k : WC} {d : Nat} {w : MC} {h0 h : AH} {s s2 g2 : Int → Int} {A : MAs} {b : Int → Int} {n : Int} {r P : Int} {R : RP} {z1 z2 z3 : Option AV} (hd : 4 ≤ d) (hT : RdM s A b n) (h30 : 0 ≤ s 3) (hP : s 3 + 1 ≤ P) (hPn : P ≤ n) (hb : R.1 ≠ -1 → Bs s (A 23) r R.1 s2 g2) (hg : R.1 = -1 → Gs s (A 23) r R.2.1 (trL R.2.2) s2 g2 ∧ 2 * s2 29 ≤ 2 * s 29 + 3 * (R.2.1 - P) + 1) (h25 : s2 5 = s 5 + 1) (h2b : 2 * s2 29 ≤ 2 * s 29 + 3 * (n - P) + 1) (hR : RpB n P R) (hS2 : MdS h s2 (fuA A 23 g2)) (hF : Fr isRm h0 h) (hc : Cx w k d 0 0 mdX11_atom) (he : Ends w 0 0 (ExP s A n r (brS b n 93 R) h0)) : J w 0 0 142 [some (vR (70, 0)), z1, z2, z3] [] h := by
  have hn := hT.2.1
  by_cases zf : R.1 ≠ -1
  · have zB := hb zf
    refine j_aload_n hc dX11_atom_142 rfl ?_
    refine j_bipush hc dX11_atom_143 (by decide) ?_
    refine j_callV (d' := d - 1) hc dX11_atom_145 vX11_195 hS2.1 (ev_X11_sign_w (by omega) hS2 (by rw [zB.2.1]; exact ⟨by have := hR.1; omega, by have := hR.2.1; omega⟩) (by rw [zB.2.1]; exact zf)) rfl (by omega) (by omega) (by omega) rfl rfl (Nat.le_of_ble_eq_true rfl) (retN fun zq145 zp145 => ?_)
    obtain ⟨zS3, zF3⟩ := zp145
    refine j_goto (tgt := 155) hc dX11_atom_148 (by decide) ?_
    exact j_vret hc he dX11_atom_155 rfl (by omega) (by omega) ⟨rfl, _, _, ⟨by show s2 5 - 1 = s 5; omega, by show 2 * s2 29 ≤ 2 * s 29 + 3 * (n - s 3) + 1; omega, fun _ => by rw [brS_no zf]; exact zB.at_.dp, fun z => absurd z (by rw [brS_no zf]; exact zf)⟩, zS3, Fr.tr (hF) (zF3.mono fun z zz => Or.inl zz)⟩
  · have zf : R.1 = -1 := by omega
    obtain ⟨zG, zG2⟩ := hg zf
    have zR := hR.2.2 zf
    refine j_aload_n hc dX11_atom_142 rfl ?_
    refine j_bipush hc dX11_atom_143 (by decide) ?_
    refine j_callV (d' := d - 1) hc dX11_atom_145 vX11_195 hS2.1 (ev_X11_sign (b := b) (n := n) (by omega) hS2 (SmE.rd zG.1 hT rfl) (by rw [zG.2.2.1]; omega) (by rw [zG.2.2.1]; omega) zG.2.1 (by omega) (by omega)) rfl (by omega) (by omega) (by omega) rfl rfl (Nat.le_of_ble_eq_true rfl) (retN fun zq145 zp145 => ?_)
    obtain ⟨s3, zS3, zg3, z35, z329, zF3⟩ := zp145
    have zg4 := zg3 _ _ _ _ _ _ zG
    rw [zG.2.2.1] at zg4
    have zne := neS_b (b := b) (n := n) (c := 93) (i := R.2.1) (by omega) (by omega) (by omega)
    refine j_goto (tgt := 155) hc dX11_atom_148 (by decide) ?_
    exact j_vret hc he dX11_atom_155 rfl (by omega) (by omega) ⟨rfl, _, _, (by
            refine ⟨by rw [z35]; omega, by rw [z329]; omega, fun z => ?_, fun z => ?_⟩
            · by_cases zk : (neS b n 93 R.2.1).1 = -1
              · exact absurd (by rw [brS_ok zf zk]) z
              · rw [brS_no2 zf zk]
                exact zg4.1 zk
            · by_cases zk : (neS b n 93 R.2.1).1 = -1
              · rw [brS_ok zf zk]
                have zn := zne.2.2 zk
                refine ⟨zg4.2 zk, ?_⟩
                show 2 * s3 29 ≤ 2 * s 29 + 3 * ((neS b n 93 R.2.1).2.1 - s 3) + 1
                rw [z329]
                omega
              · exact absurd (by rw [← brS_no2 zf zk]; exact z) zk), zS3, Fr.tr (hF) (zF3.mono fun z zz => Or.inl zz)⟩
set_option maxRecDepth 100000 in
set_option maxHeartbeats 4000000 in
theorem tl_X11_unit {k : WC} {d : Nat} {w : MC} {h0 h : AH} {s s2 g2 : Int → Int} {A : MAs} {b : Int → Int} {n : Int} {r P : Int} {R : RP} {z1 z2 z3 : Option AV} (hd : 4 ≤ d) (hT : RdM s A b n) (h30 : 0 ≤ s 3) (hP : s 3 + 1 ≤ P) (hPn : P ≤ n) (hb : R.1 ≠ -1 → Bs s (A 23) r R.1 s2 g2) (hg : R.1 = -1 → Gs s (A 23) r R.2.1 (trL R.2.2) s2 g2 ∧ 2 * s2 29 ≤ 2 * s 29 + 3 * (R.2.1 - P) + 1) (h25 : s2 5 = s 5 + 1) (h2b : 2 * s2 29 ≤ 2 * s 29 + 3 * (n - P) + 1) (hR : RpB n P R) (hS2 : MdS h s2 (fuA A 23 g2)) (hF : Fr isRm h0 h) (hc : Cx w k d 0 0 mdX11_unit) (he : Ends w 0 0 (ExP s A n r (brS b n 41 R) h0)) : J w 0 0 81 [some (vR (70, 0)), z1, z2] [] h := by
  have hn := hT.2.1
  by_cases zf : R.1 ≠ -1
  · have zB := hb zf
    refine j_aload_n hc dX11_unit_81 rfl ?_
    refine j_bipush hc dX11_unit_82 (by decide) ?_
    refine j_callV (d' := d - 1) hc dX11_unit_84 vX11_195 hS2.1 (ev_X11_sign_w (by omega) hS2 (by rw [zB.2.1]; exact ⟨by have := hR.1; omega, by have := hR.2.1; omega⟩) (by rw [zB.2.1]; exact zf)) rfl (by omega) (by omega) (by omega) rfl rfl (Nat.le_of_ble_eq_true rfl) (retN fun zq84 zp84 => ?_)
    obtain ⟨zS3, zF3⟩ := zp84
    exact j_vret hc he dX11_unit_87 rfl (by omega) (by omega) ⟨rfl, _, _, ⟨by show s2 5 - 1 = s 5; omega, by show 2 * s2 29 ≤ 2 * s 29 + 3 * (n - s 3) + 1; omega, fun _ => by rw [brS_no zf]; exact zB.at_.dp, fun z => absurd z (by rw [brS_no zf]; exact zf)⟩, zS3, Fr.tr (hF) (zF3.mono fun z zz => Or.inl zz)⟩
  · have zf : R.1 = -1 := by omega
    obtain ⟨zG, zG2⟩ := hg zf
    have zR := hR.2.2 zf
    refine j_aload_n hc dX11_unit_81 rfl ?_
    refine j_bipush hc dX11_unit_82 (by decide) ?_
    refine j_callV (d' := d - 1) hc dX11_unit_84 vX11_195 hS2.1 (ev_X11_sign (b := b) (n := n) (by omega) hS2 (SmE.rd zG.1 hT rfl) (by rw [zG.2.2.1]; omega) (by rw [zG.2.2.1]; omega) zG.2.1 (by omega) (by omega)) rfl (by omega) (by omega) (by omega) rfl rfl (Nat.le_of_ble_eq_true rfl) (retN fun zq84 zp84 => ?_)
    obtain ⟨s3, zS3, zg3, z35, z329, zF3⟩ := zp84
    have zg4 := zg3 _ _ _ _ _ _ zG
    rw [zG.2.2.1] at zg4
    have zne := neS_b (b := b) (n := n) (c := 41) (i := R.2.1) (by omega) (by omega) (by omega)
    exact j_vret hc he dX11_unit_87 rfl (by omega) (by omega) ⟨rfl, _, _, (by
            refine ⟨by rw [z35]; omega, by rw [z329]; omega, fun z => ?_, fun z => ?_⟩
            · by_cases zk : (neS b n 41 R.2.1).1 = -1
              · exact absurd (by rw [brS_ok zf zk]) z
              · rw [brS_no2 zf zk]
                exact zg4.1 zk
            · by_cases zk : (neS b n 41 R.2.1).1 = -1
              · rw [brS_ok zf zk]
                have zn := zne.2.2 zk
                refine ⟨zg4.2 zk, ?_⟩
                show 2 * s3 29 ≤ 2 * s 29 + 3 * ((neS b n 41 R.2.1).2.1 - s 3) + 1
                rw [z329]
                omega
              · exact absurd (by rw [← brS_no2 zf zk]; exact z) zk), zS3, Fr.tr (hF) (zF3.mono fun z zz => Or.inl zz)⟩
set_option maxRecDepth 100000 in
set_option maxHeartbeats 4000000 in
theorem mt_atom {k : WC} {b : Int → Int} {n r dp : Int} {c : Nat} {sm : Option (Int → RP)} (hr0 : 0 ≤ r) (hr6 : r ≤ 6) (hdp0 : 0 ≤ dp) (h6 : sm = none → dp = 6) (hs : ∀ u, sm = some u → dp < 6 ∧ GdP n u ∧ NtM k mdX11_sum [] b n r (dp + 1) c u) : NtM k mdX11_atom [] b n r dp (c + 5) (atG b n sm) := by
  intro d h s A hd hS hT h30 h31 h4 h5 h28 h290 h29
  have hn := hT.2.1
  obtain ⟨p1, p2, p3⟩ := skS_b b n (s 3)
  have p2 := p2 h31
  have zs1 := hrM_S hT (show 0 ≤ skS b n (s 3) by omega)
  have zs2 := hrM_b hT (show 0 ≤ skS b n (s 3) by omega)
  have zlm := lcS_m hT (show 0 ≤ skS b n (s 3) by omega)
  have hS0 : MdS h s (fuA A 23 (A 23)) := by rw [fuA_self]; exact hS
  unfold atG
  by_cases hq : dgS (hrM b n (skS b n (s 3)))
  · rw [if_pos (show dgS (hrS b n (skS b n (s 3))) by omega)]
    refine Ev.mk (by decide +kernel) [_, _, _, _] rfl (Nat.le_of_ble_eq_true rfl) (fun w hc he => ?_)
    refine j_aload_n hc dX11_atom_0 rfl ?_
    refine j_get hc dX11_atom_1 fX11_132 hS0.1 rfl ?_
    refine j_iconst hc dX11_atom_4 ?_
    refine j_icmp_ne (tgt := 15) hc dX11_atom_5 (by decide) (by rw [h4]; exact ⟨by omega, by omega⟩) ⟨by omega, by omega⟩ (fun zc1 => ?_) (fun zc1 => ?_)
    · exact absurd h4 zc1
    · refine j_aload_n hc dX11_atom_8 rfl ?_
      refine j_callV (d' := d - 1) hc dX11_atom_9 vX11_135 hS0.1 (ev_X11_look (by omega) hS0 (SmE.rd (SmE.rf s) hT rfl) h30 (by omega)) rfl (by omega) (by omega) (by omega) rfl rfl (Nat.le_of_ble_eq_true rfl) (retE fun zv9 zq9 zp9 => ?_)
      obtain ⟨zv7, zS7, zF7⟩ := zp9
      subst zv7
      skip
      refine j_goto (tgt := 16) hc dX11_atom_12 (by decide) ?_
      refine j_istore_n (L' := [_, _, _, _]) hc dX11_atom_16 (Nat.le_of_ble_eq_true rfl) rfl ?_
      refine j_iload_n hc dX11_atom_17 rfl ?_
      refine j_callS (d' := d - 1) hc dX11_atom_18 sX11_138 (ev_X11_isDigit (by omega) ⟨by omega, by omega⟩) rfl (by omega) (by omega) (by omega) rfl rfl (Nat.le_of_ble_eq_true rfl) (ret1 ?_)
      refine j_if_eq (b := 0) (tgt := 90) hc dX11_atom_21 (by decide) (by split <;> exact ⟨by omega, by omega⟩) (fun zc2 => ?_) (fun zc2 => ?_)
      · exact absurd hq (one_neg zc2)
      · refine j_iconst hc dX11_atom_24 ?_
        refine j_istore_n (L' := [_, _, _, _]) hc dX11_atom_25 (Nat.le_of_ble_eq_true rfl) rfl ?_
        refine j_iconst hc dX11_atom_26 ?_
        refine j_istore_n (L' := [_, _, _, _]) hc dX11_atom_27 (Nat.le_of_ble_eq_true rfl) rfl ?_
        exact lp_X11_atom (p := skS b n (s 3)) (by omega) hT hr0 hr6 h4 h28 h290 h29 h30 (by omega) (by omega) (show dgS (hrS b n (skS b n (s 3))) by omega) hc he 4 0 (skS b n (s 3)) 0 _ rfl (by omega) (by omega) (by omega) rfl zS7 (Fr.tr (Fr.rf _ _) (zF7.mono fun z zz => Or.inl zz))
  rw [if_neg (show ¬ dgS (hrS b n (skS b n (s 3))) by omega)]
  by_cases h91 : hrM b n (skS b n (s 3)) = 91
  · have zlt : skS b n (s 3) < n := by omega
    have hl : lcS (hrM b n (skS b n (s 3))) = 0 := by rw [h91]; rfl
    rw [if_pos (show hrS b n (skS b n (s 3)) = 91 by omega)]
    cases sm with
    | none =>
      have zdp := h6 rfl
      refine Ev.mk (by decide +kernel) [_, _, _, _] rfl (Nat.le_of_ble_eq_true rfl) (fun w hc he => ?_)
      refine j_aload_n hc dX11_atom_0 rfl ?_
      refine j_get hc dX11_atom_1 fX11_132 hS0.1 rfl ?_
      refine j_iconst hc dX11_atom_4 ?_
      refine j_icmp_ne (tgt := 15) hc dX11_atom_5 (by decide) (by rw [h4]; exact ⟨by omega, by omega⟩) ⟨by omega, by omega⟩ (fun zc1 => ?_) (fun zc1 => ?_)
      · exact absurd h4 zc1
      · refine j_aload_n hc dX11_atom_8 rfl ?_
        refine j_callV (d' := d - 1) hc dX11_atom_9 vX11_135 hS0.1 (ev_X11_look (by omega) hS0 (SmE.rd (SmE.rf s) hT rfl) h30 (by omega)) rfl (by omega) (by omega) (by omega) rfl rfl (Nat.le_of_ble_eq_true rfl) (retE fun zv9 zq9 zp9 => ?_)
        obtain ⟨zv7, zS7, zF7⟩ := zp9
        subst zv7
        skip
        refine j_goto (tgt := 16) hc dX11_atom_12 (by decide) ?_
        refine j_istore_n (L' := [_, _, _, _]) hc dX11_atom_16 (Nat.le_of_ble_eq_true rfl) rfl ?_
        refine j_iload_n hc dX11_atom_17 rfl ?_
        refine j_callS (d' := d - 1) hc dX11_atom_18 sX11_138 (ev_X11_isDigit (by omega) ⟨by omega, by omega⟩) rfl (by omega) (by omega) (by omega) rfl rfl (Nat.le_of_ble_eq_true rfl) (ret1 ?_)
        refine j_if_eq (b := 0) (tgt := 90) hc dX11_atom_21 (by decide) (by split <;> exact ⟨by omega, by omega⟩) (fun zc2 => ?_) (fun zc2 => ?_)
        · refine j_iload_n hc dX11_atom_90 rfl ?_
          refine j_callS (d' := d - 1) hc dX11_atom_91 sX11_186 (ev_X11_isLetter (by omega) ⟨by omega, by omega⟩) rfl (by omega) (by omega) (by omega) rfl rfl (Nat.le_of_ble_eq_true rfl) (ret1 ?_)
          refine j_if_eq (b := 0) (tgt := 120) hc dX11_atom_94 (by decide) (by split <;> exact ⟨by omega, by omega⟩) (fun zc3 => ?_) (fun zc3 => ?_)
          · refine j_iload_n hc dX11_atom_120 rfl ?_
            refine j_bipush hc dX11_atom_121 (by decide) ?_
            refine j_icmp_ne (tgt := 151) hc dX11_atom_123 (by decide) ⟨by omega, by omega⟩ ⟨by omega, by omega⟩ (fun zc4 => ?_) (fun zc4 => ?_)
            · exact absurd h91 zc4
            · refine j_aload_n hc dX11_atom_126 rfl ?_
              refine j_callV (d' := d - 1) hc dX11_atom_127 vX11_189 zS7.1 (ev_X11_opens_n (by omega) zS7 (show fu s 3 _ 5 = 6 from h5.trans zdp) (show fu s 3 _ 4 = -1 from h4)) rfl (by omega) (by omega) (by omega) rfl rfl (Nat.le_of_ble_eq_true rfl) (retN fun zq127 zp127 => ?_)
              obtain ⟨zS1, zF1⟩ := zp127
              rw [fu_same] at zS1
              refine j_aload_n hc dX11_atom_130 rfl ?_
              refine j_get hc dX11_atom_131 fX11_132 zS1.1 rfl ?_
              refine j_iconst hc dX11_atom_134 ?_
              refine j_icmp_ne (tgt := 155) hc dX11_atom_135 (by decide) (by show inI (skS b n (s 3)); exact ⟨by omega, by omega⟩) ⟨by omega, by omega⟩ (fun zc5 => ?_) (fun zc5 => ?_)
              · exact j_vret hc he dX11_atom_155 rfl (by omega) (by omega) ⟨rfl, fu (fu s 3 (skS b n (s 3))) 4 (skS b n (s 3)), A 23, ⟨rfl, by show 2 * s 29 ≤ 2 * s 29 + 3 * (n - s 3) + 1; omega, fun z => ((Gs.st (A 23) r h4).at_ (j' := skS b n (s 3))).wrong z, fun z => absurd z (by show ¬ (skS b n (s 3) = -1); omega)⟩, zS1, Fr.tr (Fr.tr (Fr.rf _ _) (zF7.mono fun z zz => Or.inl zz)) (zF1.mono fun z zz => Or.inl zz)⟩
              · exact absurd (show skS b n (s 3) = -1 from zc5) (by omega)
          · exact absurd (if_pos hl) zc3
        · exact absurd (one_pos zc2) hq
    | some u =>
      obtain ⟨zdp, zgd, zsu⟩ := hs u rfl
      refine Ev.mk (by decide +kernel) [_, _, _, _] rfl (Nat.le_of_ble_eq_true rfl) (fun w hc he => ?_)
      refine j_aload_n hc dX11_atom_0 rfl ?_
      refine j_get hc dX11_atom_1 fX11_132 hS0.1 rfl ?_
      refine j_iconst hc dX11_atom_4 ?_
      refine j_icmp_ne (tgt := 15) hc dX11_atom_5 (by decide) (by rw [h4]; exact ⟨by omega, by omega⟩) ⟨by omega, by omega⟩ (fun zc1 => ?_) (fun zc1 => ?_)
      · exact absurd h4 zc1
      · refine j_aload_n hc dX11_atom_8 rfl ?_
        refine j_callV (d' := d - 1) hc dX11_atom_9 vX11_135 hS0.1 (ev_X11_look (by omega) hS0 (SmE.rd (SmE.rf s) hT rfl) h30 (by omega)) rfl (by omega) (by omega) (by omega) rfl rfl (Nat.le_of_ble_eq_true rfl) (retE fun zv9 zq9 zp9 => ?_)
        obtain ⟨zv7, zS7, zF7⟩ := zp9
        subst zv7
        skip
        refine j_goto (tgt := 16) hc dX11_atom_12 (by decide) ?_
        refine j_istore_n (L' := [_, _, _, _]) hc dX11_atom_16 (Nat.le_of_ble_eq_true rfl) rfl ?_
        refine j_iload_n hc dX11_atom_17 rfl ?_
        refine j_callS (d' := d - 1) hc dX11_atom_18 sX11_138 (ev_X11_isDigit (by omega) ⟨by omega, by omega⟩) rfl (by omega) (by omega) (by omega) rfl rfl (Nat.le_of_ble_eq_true rfl) (ret1 ?_)
        refine j_if_eq (b := 0) (tgt := 90) hc dX11_atom_21 (by decide) (by split <;> exact ⟨by omega, by omega⟩) (fun zc2 => ?_) (fun zc2 => ?_)
        · refine j_iload_n hc dX11_atom_90 rfl ?_
          refine j_callS (d' := d - 1) hc dX11_atom_91 sX11_186 (ev_X11_isLetter (by omega) ⟨by omega, by omega⟩) rfl (by omega) (by omega) (by omega) rfl rfl (Nat.le_of_ble_eq_true rfl) (ret1 ?_)
          refine j_if_eq (b := 0) (tgt := 120) hc dX11_atom_94 (by decide) (by split <;> exact ⟨by omega, by omega⟩) (fun zc3 => ?_) (fun zc3 => ?_)
          · refine j_iload_n hc dX11_atom_120 rfl ?_
            refine j_bipush hc dX11_atom_121 (by decide) ?_
            refine j_icmp_ne (tgt := 151) hc dX11_atom_123 (by decide) ⟨by omega, by omega⟩ ⟨by omega, by omega⟩ (fun zc4 => ?_) (fun zc4 => ?_)
            · exact absurd h91 zc4
            · refine j_aload_n hc dX11_atom_126 rfl ?_
              refine j_callV (d' := d - 1) hc dX11_atom_127 vX11_189 zS7.1 (ev_X11_opens (by omega) zS7 (by show 0 ≤ s 5; omega) (by show s 5 < 6; omega)) rfl (by omega) (by omega) (by omega) rfl rfl (Nat.le_of_ble_eq_true rfl) (retN fun zq127 zp127 => ?_)
              obtain ⟨zS1, zF1⟩ := zp127
              rw [fu_same] at zS1
              have zG1 : Gs s (A 23) r (skS b n (s 3) + 1) [] (fu (fu (fu s 3 (skS b n (s 3))) 5 (fu s 3 (skS b n (s 3)) 5 + 1)) 3 (skS b n (s 3) + 1)) (A 23) := (((Gs.st (A 23) r h4).at_ (j' := skS b n (s 3))).dp).at_
              refine j_aload_n hc dX11_atom_130 rfl ?_
              refine j_get hc dX11_atom_131 fX11_132 zS1.1 rfl ?_
              refine j_iconst hc dX11_atom_134 ?_
              refine j_icmp_ne (tgt := 155) hc dX11_atom_135 (by decide) (by show inI (s 4); rw [h4]; exact ⟨by omega, by omega⟩) ⟨by omega, by omega⟩ (fun zc5 => ?_) (fun zc5 => ?_)
              · exact absurd h4 zc5
              · refine j_aload_n hc dX11_atom_138 rfl ?_
                refine j_callV (d' := d - 1) hc dX11_atom_139 vX11_192 zS1.1 (zsu (d - 1) _ _ _ (by omega) zS1 (SmE.rd zG1.1 hT rfl) (by show 0 ≤ skS b n (s 3) + 1; omega) (by show skS b n (s 3) + 1 ≤ n; omega) h4 (by show s 5 + 1 = dp + 1; omega) h28 (by show 0 ≤ s 29; omega) (by show 2 * s 29 + 3 * (n - (skS b n (s 3) + 1)) ≤ 790; omega)) rfl (by omega) (by omega) (by omega) rfl rfl (Nat.le_of_ble_eq_true rfl) (retN fun zq139 zp139 => ?_)
                obtain ⟨s2, g2, ⟨z25, z2b, z2n, z2y⟩, zS2, zF2⟩ := zp139
                rw [fuA_at] at z2n z2y
                rw [fuA_fuA] at zS2
                have zR : RpB n (skS b n (s 3) + 1) (u (skS b n (s 3) + 1)) := zgd _ (by omega) (by omega)
                have z25 : s2 5 = s 5 + 1 := z25
                have z2b : 2 * s2 29 ≤ 2 * s 29 + 3 * (n - (skS b n (s 3) + 1)) + 1 := z2b
                exact tl_X11_atom (P := skS b n (s 3) + 1) (by omega) hT h30 (by omega) (by omega) (fun z => zG1.bad (z2n z)) (fun z => ⟨zG1.seq (z2y z).1, (z2y z).2⟩) z25 z2b zR zS2 (Fr.tr (Fr.tr (Fr.tr (Fr.rf _ _) (zF7.mono fun z zz => Or.inl zz)) (zF1.mono fun z zz => Or.inl zz)) zF2) hc he
          · exact absurd (if_pos hl) zc3
        · exact absurd (one_pos zc2) hq
  rw [if_neg (show ¬ hrS b n (skS b n (s 3)) = 91 by omega)]
  by_cases hl : lcS (hrM b n (skS b n (s 3))) = 0
  · rw [if_pos (show lcS (hrS b n (skS b n (s 3))) = 0 by rw [← zlm]; exact hl)]
    refine Ev.mk (by decide +kernel) [_, _, _, _] rfl (Nat.le_of_ble_eq_true rfl) (fun w hc he => ?_)
    refine j_aload_n hc dX11_atom_0 rfl ?_
    refine j_get hc dX11_atom_1 fX11_132 hS0.1 rfl ?_
    refine j_iconst hc dX11_atom_4 ?_
    refine j_icmp_ne (tgt := 15) hc dX11_atom_5 (by decide) (by rw [h4]; exact ⟨by omega, by omega⟩) ⟨by omega, by omega⟩ (fun zc1 => ?_) (fun zc1 => ?_)
    · exact absurd h4 zc1
    · refine j_aload_n hc dX11_atom_8 rfl ?_
      refine j_callV (d' := d - 1) hc dX11_atom_9 vX11_135 hS0.1 (ev_X11_look (by omega) hS0 (SmE.rd (SmE.rf s) hT rfl) h30 (by omega)) rfl (by omega) (by omega) (by omega) rfl rfl (Nat.le_of_ble_eq_true rfl) (retE fun zv9 zq9 zp9 => ?_)
      obtain ⟨zv7, zS7, zF7⟩ := zp9
      subst zv7
      skip
      refine j_goto (tgt := 16) hc dX11_atom_12 (by decide) ?_
      refine j_istore_n (L' := [_, _, _, _]) hc dX11_atom_16 (Nat.le_of_ble_eq_true rfl) rfl ?_
      refine j_iload_n hc dX11_atom_17 rfl ?_
      refine j_callS (d' := d - 1) hc dX11_atom_18 sX11_138 (ev_X11_isDigit (by omega) ⟨by omega, by omega⟩) rfl (by omega) (by omega) (by omega) rfl rfl (Nat.le_of_ble_eq_true rfl) (ret1 ?_)
      refine j_if_eq (b := 0) (tgt := 90) hc dX11_atom_21 (by decide) (by split <;> exact ⟨by omega, by omega⟩) (fun zc2 => ?_) (fun zc2 => ?_)
      · refine j_iload_n hc dX11_atom_90 rfl ?_
        refine j_callS (d' := d - 1) hc dX11_atom_91 sX11_186 (ev_X11_isLetter (by omega) ⟨by omega, by omega⟩) rfl (by omega) (by omega) (by omega) rfl rfl (Nat.le_of_ble_eq_true rfl) (ret1 ?_)
        refine j_if_eq (b := 0) (tgt := 120) hc dX11_atom_94 (by decide) (by split <;> exact ⟨by omega, by omega⟩) (fun zc3 => ?_) (fun zc3 => ?_)
        · refine j_iload_n hc dX11_atom_120 rfl ?_
          refine j_bipush hc dX11_atom_121 (by decide) ?_
          refine j_icmp_ne (tgt := 151) hc dX11_atom_123 (by decide) ⟨by omega, by omega⟩ ⟨by omega, by omega⟩ (fun zc4 => ?_) (fun zc4 => ?_)
          · refine j_aload_n hc dX11_atom_151 rfl ?_
            refine j_callV (d' := d - 1) hc dX11_atom_152 vX11_142 zS7.1 (ev_X11_bad_n (by omega) zS7 (show fu s 3 _ 4 = -1 from h4)) rfl (by omega) (by omega) (by omega) rfl rfl (Nat.le_of_ble_eq_true rfl) (retN fun zq152 zp152 => ?_)
            obtain ⟨zS1, zF1⟩ := zp152
            rw [fu_same] at zS1
            exact j_vret hc he dX11_atom_155 rfl (by omega) (by omega) ⟨rfl, fu (fu s 3 (skS b n (s 3))) 4 (skS b n (s 3)), A 23, ⟨rfl, by show 2 * s 29 ≤ 2 * s 29 + 3 * (n - s 3) + 1; omega, fun z => ((Gs.st (A 23) r h4).at_ (j' := skS b n (s 3))).wrong z, fun z => absurd z (by show ¬ (skS b n (s 3) = -1); omega)⟩, zS1, Fr.tr (Fr.tr (Fr.rf _ _) (zF7.mono fun z zz => Or.inl zz)) (zF1.mono fun z zz => Or.inl zz)⟩
          · exact absurd zc4 h91
        · exact absurd (if_pos hl) zc3
      · exact absurd (one_pos zc2) hq
  · have hl2 : lcS (hrS b n (skS b n (s 3))) ≠ 0 := by rw [← zlm]; exact hl
    rw [if_neg hl2]
    have zeq : hrM b n (skS b n (s 3)) = hrS b n (skS b n (s 3)) := by
      rcases zs1 with z | z
      · exact z.2.1
      · exact absurd (by rw [z.2.1]; rfl) hl
    have zlt : skS b n (s 3) < n := by
      rcases zs1 with z | z
      · exact z.1
      · exact absurd (by rw [z.2.1]; rfl) hl
    refine Ev.mk (by decide +kernel) [_, _, _, _] rfl (Nat.le_of_ble_eq_true rfl) (fun w hc he => ?_)
    refine j_aload_n hc dX11_atom_0 rfl ?_
    refine j_get hc dX11_atom_1 fX11_132 hS0.1 rfl ?_
    refine j_iconst hc dX11_atom_4 ?_
    refine j_icmp_ne (tgt := 15) hc dX11_atom_5 (by decide) (by rw [h4]; exact ⟨by omega, by omega⟩) ⟨by omega, by omega⟩ (fun zc1 => ?_) (fun zc1 => ?_)
    · exact absurd h4 zc1
    · refine j_aload_n hc dX11_atom_8 rfl ?_
      refine j_callV (d' := d - 1) hc dX11_atom_9 vX11_135 hS0.1 (ev_X11_look (by omega) hS0 (SmE.rd (SmE.rf s) hT rfl) h30 (by omega)) rfl (by omega) (by omega) (by omega) rfl rfl (Nat.le_of_ble_eq_true rfl) (retE fun zv9 zq9 zp9 => ?_)
      obtain ⟨zv7, zS7, zF7⟩ := zp9
      subst zv7
      skip
      refine j_goto (tgt := 16) hc dX11_atom_12 (by decide) ?_
      refine j_istore_n (L' := [_, _, _, _]) hc dX11_atom_16 (Nat.le_of_ble_eq_true rfl) rfl ?_
      refine j_iload_n hc dX11_atom_17 rfl ?_
      refine j_callS (d' := d - 1) hc dX11_atom_18 sX11_138 (ev_X11_isDigit (by omega) ⟨by omega, by omega⟩) rfl (by omega) (by omega) (by omega) rfl rfl (Nat.le_of_ble_eq_true rfl) (ret1 ?_)
      refine j_if_eq (b := 0) (tgt := 90) hc dX11_atom_21 (by decide) (by split <;> exact ⟨by omega, by omega⟩) (fun zc2 => ?_) (fun zc2 => ?_)
      · refine j_iload_n hc dX11_atom_90 rfl ?_
        refine j_callS (d' := d - 1) hc dX11_atom_91 sX11_186 (ev_X11_isLetter (by omega) ⟨by omega, by omega⟩) rfl (by omega) (by omega) (by omega) rfl rfl (Nat.le_of_ble_eq_true rfl) (ret1 ?_)
        refine j_if_eq (b := 0) (tgt := 120) hc dX11_atom_94 (by decide) (by split <;> exact ⟨by omega, by omega⟩) (fun zc3 => ?_) (fun zc3 => ?_)
        · exact absurd zc3 (by rw [if_neg hl]; decide)
        · refine j_aload_n hc dX11_atom_97 rfl ?_
          refine j_dup hc dX11_atom_98 rfl ?_
          refine j_get hc dX11_atom_99 fX11_125 zS7.1 rfl ?_
          rw [fu_same]
          refine j_iconst hc dX11_atom_102 ?_
          refine j_iadd hc dX11_atom_103 ?_
          refine j_put  hc dX11_atom_104 pX11_125 zS7.1 rfl mset_3 ?_
          generalize ezh1 : up _ _ _ = zh1
          have zzmod_zh1 := MdS.pf ezh1 zS7
          refine j_aload_n hc dX11_atom_107 rfl ?_
          refine j_iconst hc dX11_atom_108 ?_
          refine j_callV (d' := d - 1) hc dX11_atom_109 vX11_183 zzmod_zh1.1 (ev_X11_say' (by omega) zzmod_zh1 hr0 hr6 (h28) (by show 0 ≤ s 29; omega) (by show s 29 < 400; omega)) rfl (by omega) (by omega) (by omega) rfl rfl (Nat.le_of_ble_eq_true rfl) (retN fun zq109 zp109 => ?_)
          obtain ⟨zS2, zF2⟩ := zp109
          refine j_aload_n hc dX11_atom_112 rfl ?_
          refine j_iload_n hc dX11_atom_113 rfl ?_
          refine j_callV (d' := d - 1) hc dX11_atom_114 vX11_183 zS2.1 (ev_X11_say' (by omega) zS2 hr0 hr6 (h28) (by show 0 ≤ s 29 + 1; omega) (by show s 29 + 1 < 400; omega)) rfl (by omega) (by omega) (by omega) rfl rfl (Nat.le_of_ble_eq_true rfl) (retN fun zq114 zp114 => ?_)
          obtain ⟨zS3, zF3⟩ := zp114
          refine j_goto (tgt := 155) hc dX11_atom_117 (by decide) ?_
          exact j_vret hc he dX11_atom_155 rfl (by omega) (by omega) ⟨rfl, _, _, (by
                refine ⟨rfl, by show 2 * (s 29 + 1 + 1) ≤ 2 * s 29 + 3 * (n - s 3) + 1; omega, fun z => absurd rfl z, fun _ => ⟨?_, by show 2 * (s 29 + 1 + 1) ≤ 2 * s 29 + 3 * (skS b n (s 3) + 1 - s 3) + 1; omega⟩⟩
                rw [show trL [lcS (hrS b n (skS b n (s 3)))] = ([] ++ [1]) ++ [hrM b n (skS b n (s 3))] by rw [trL_1]; exact trT_lc hl2 zeq]
                exact ((((Gs.st (A 23) r h4).at_ (j' := skS b n (s 3))).at_ (j' := skS b n (s 3) + 1)).say (c := 1) (by show s 29 < 400; omega)).say (c := hrM b n (skS b n (s 3))) (by show s 29 + 1 < 400; omega)), zS3, Fr.tr (Fr.tr ((by rw [← ezh1]; exact Fr.push (Fr.tr (Fr.rf _ _) (zF7.mono fun z zz => Or.inl zz)) (Or.inl rfl))) zF2) zF3⟩
      · exact absurd (one_pos zc2) hq
