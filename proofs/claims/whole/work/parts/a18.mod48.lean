/-! ===== the reference reads a rule: readRule ===== -/
theorem giG_p {b : Int → Int} {n j : Int} {t : List Int} (hj0 : 0 ≤ j) (hjn : j ≤ n) (q : (giG b n t j).1 = -1) : j < (giG b n t j).2.1 := by
  unfold giG at q ⊢
  have h2 := neS_b (b := b) (n := n) (c := 63) (i := j) (by decide) hj0 hjn
  by_cases z1 : (neS b n 63 j).1 = -1
  · rw [rcT_ok z1] at q ⊢
    have h3 := h2.2.2 z1
    have h4 := smK_b b n 6 (neS b n 63 j).2.1 (by omega) h3.2.1
    by_cases z2 : (smK b n 6 (neS b n 63 j).2.1).1 = -1
    · rw [rcT_ok z2]
      have := h4.2.2 z2
      show j < (smK b n 6 (neS b n 63 j).2.1).2.1
      omega
    · rw [rcT_no z2] at q
      exact absurd q z2
  · rw [rcT_no z1] at q
    exact absurd q z1
theorem clB_p {b : Int → Int} {n j : Int} (hj0 : 0 ≤ j) (hjn : j ≤ n) (q : (clB b n j).1 = -1) : j < (clB b n j).2.1 := by
  obtain ⟨s1, s2, -⟩ := skS_b b n j
  have s2 := s2 hjn
  unfold clB at q ⊢
  by_cases c1 : hrS b n (skS b n j) = 33 ∨ hrS b n (skS b n j) = 40
  · rw [if_pos c1] at q ⊢
    have h2 := coG_b (b := b) (n := n) (i := skS b n j) (unK_b b n 6) (by omega) (unK_b b n 6 (skS b n j) (by omega) s2)
    by_cases z1 : (coG b n (unK b n 6) (unK b n 6 (skS b n j))).1 = -1
    · rw [rcT_ok z1] at q ⊢
      have h3 := h2.2.2 z1
      have := giG_p (by omega) h3.2.1 q
      omega
    · rw [rcT_no z1] at q
      exact absurd q z1
  · rw [if_neg c1] at q ⊢
    have h2 := smK_b b n 6 (skS b n j) (by omega) s2
    by_cases z1 : (smK b n 6 (skS b n j)).1 = -1
    · rw [rcT_ok z1] at q ⊢
      have h3 := h2.2.2 z1
      obtain ⟨t1, t2, -⟩ := skS_b b n (smK b n 6 (skS b n j)).2.1
      have t2 := t2 h3.2.1
      by_cases c2 : isCm (hrS b n (skS b n (smK b n 6 (skS b n j)).2.1))
      · rw [if_pos c2] at q ⊢
        have h4 := coG_b (b := b) (n := n) (i := skS b n (smK b n 6 (skS b n j)).2.1) (unK_b b n 6) (by omega) (cmG_b (b := b) (smK_b b n 6) _ (by omega) t2)
        by_cases z2 : (coG b n (unK b n 6) (cmG b n (smK b n 6) (skS b n (smK b n 6 (skS b n j)).2.1))).1 = -1
        · rw [rcT_ok z2] at q ⊢
          have h5 := h4.2.2 z2
          have := giG_p (by omega) h5.2.1 q
          omega
        · rw [rcT_no z2] at q
          exact absurd q z2
      · rw [if_neg c2]
        show j < skS b n (smK b n 6 (skS b n j)).2.1
        omega
    · rw [rcT_no z1] at q
      exact absurd q z1
theorem clG_p {b : Int → Int} {n i : Int} (h0 : 0 ≤ i) (h1 : i ≤ n) (q : (clG b n i).1 = -1) : i + 3 ≤ (clG b n i).2.1 := by
  unfold clG at q ⊢
  have h2 := neS_b (b := b) (n := n) (c := 107) (i := i) (by decide) h0 h1
  by_cases z1 : (neS b n 107 i).1 = -1
  · rw [rcT_ok z1] at q ⊢
    have h3 := h2.2.2 z1
    have h4 := neS_b (b := b) (n := n) (c := 58) (i := (neS b n 107 i).2.1) (by decide) (by omega) h3.2.1
    by_cases z2 : (neS b n 58 (neS b n 107 i).2.1).1 = -1
    · rw [rcT_ok z2] at q ⊢
      have h5 := h4.2.2 z2
      have := clB_p (by omega) h5.2.1 q
      omega
    · rw [rcT_no z2] at q
      exact absurd q z2
  · rw [rcT_no z1] at q
    exact absurd q z1
def RuD (A : MAs) (r : Int) (c : Cls) : Prop := A 24 r = c.length ∧ (∀ i : Nat, i < (moL c).length → A 23 (400 * r + i) = (moL c).getD i 0) ∧
  ∀ (pre : Cls) (q : List Int × List Int) (suf : Cls), c = pre ++ q :: suf → A 25 (64 * r + pre.length) = (moL pre).length + (trL q.1).length ∧ A 26 (64 * r + pre.length) = (moL pre).length + (trL q.1).length + (trL q.2).length
theorem RuD.mr {A : MAs} {r : Int} {c : Cls} (h : RuD A r c) (h1 : c.length ≤ 60) (h2 : (moL c).length ≤ 360) : MrD A r c := ⟨h.1, h1, h2, h.2.1, h.2.2⟩
theorem snoc_cs : ∀ l : Cls, l = [] ∨ ∃ (L : Cls) (x : List Int × List Int), l = L ++ [x]
  | [] => Or.inl rfl
  | y :: l => by
    rcases snoc_cs l with e | ⟨L, x, e⟩
    · exact Or.inr ⟨[], y, by rw [e]; rfl⟩
    · exact Or.inr ⟨y :: L, x, by rw [e]; rfl⟩
theorem moL_sn (c : Cls) (q : List Int × List Int) : moL (c ++ [q]) = moL c ++ (trL q.1 ++ trL q.2) := by
  rw [moL_app, moL_cons]
  show moL c ++ (trL q.1 ++ (trL q.2 ++ [])) = _
  rw [List.append_nil]
theorem RuD.next {A A' : MAs} {r j : Int} {C : Cls} {q : List Int × List Int} {s s' : Int → Int} (h : RuD A r C) (hm : s 29 = (moL C).length) (hG : Gs s (A 23) r j (trL q.1 ++ trL q.2) s' (A' 23)) (h24 : A' 24 r = C.length + 1) (h25 : A' 25 (64 * r + C.length) = s 29 + (trL q.1).length) (h26 : A' 26 (64 * r + C.length) = s' 29) (hlo : ∀ z : Int, 64 * r ≤ z → z < 64 * r + C.length → A' 25 z = A 25 z ∧ A' 26 z = A 26 z) : RuD A' r (C ++ [q]) ∧ s' 29 = (moL (C ++ [q])).length := by
  obtain ⟨h1, h2, h3⟩ := h
  obtain ⟨g1, g2, g3, g4, g5, g6⟩ := hG
  have g4' : s' 29 = (moL (C ++ [q])).length := by rw [g4, hm, moL_sn]; simp only [List.length_append]; omega
  refine ⟨⟨by rw [h24, List.length_append]; rfl, fun i hi => ?_, fun pre x suf he => ?_⟩, g4'⟩
  · rw [moL_sn] at hi ⊢
    rw [List.length_append] at hi
    rw [List.getD_eq_getElem?_getD]
    by_cases e : i < (moL C).length
    · rw [g5 _ (by omega), List.getElem?_append_left e, ← List.getD_eq_getElem?_getD]
      exact h2 i e
    · rw [List.getElem?_append_right (by omega), ← List.getD_eq_getElem?_getD, ← g6 (i - (moL C).length) (by omega)]
      congr 1
      omega
  · rcases snoc_cs suf with e | ⟨L, y, e⟩
    · subst e
      obtain ⟨e1, e2⟩ := List.append_inj' he rfl
      injection e2 with e2
      subst e1
      subst e2
      refine ⟨by rw [h25, hm], ?_⟩
      rw [h26, g4, hm, List.length_append]
      omega
    · subst e
      have he2 : C ++ [q] = (pre ++ x :: L) ++ [y] := by rw [he, List.append_assoc]; rfl
      obtain ⟨e1, e2⟩ := List.append_inj' he2 rfl
      have hl : C.length = pre.length + (L.length + 1) := by rw [e1, List.length_append]; rfl
      obtain ⟨l1, l2⟩ := hlo (64 * r + pre.length) (by omega) (by omega)
      rw [l1, l2]
      exact h3 pre x L e1
def SmQ (s s' : Int → Int) : Prop := ∀ k : Int, k ≠ 3 → k ≠ 4 → k ≠ 5 → k ≠ 28 → k ≠ 29 → s' k = s k
theorem SmQ.e {s s' s2 : Int → Int} (h : SmQ s s') (h2 : SmE s' s2) : SmQ s s2 := fun k a3 a4 a5 a28 a29 => (h2 k a3 a4 a5 a29).trans (h k a3 a4 a5 a28 a29)
theorem SmQ.rd {s s' : Int → Int} {A A' : MAs} {b : Int → Int} {n : Int} (h : SmQ s s') (hT : RdM s A b n) (hA : A' 1 = A 1) : RdM s' A' b n := ⟨(h 2 (by omega) (by omega) (by omega) (by omega) (by omega)).trans hT.1, hT.2.1, fun j j0 j1 => ⟨(congrFun hA j).trans (hT.2.2 j j0 j1).1, (hT.2.2 j j0 j1).2⟩⟩
def lcR (r : RU2) (n : Int) (R : Int × Cls) : Prop := (r.1 ≠ -1 → R.1 = r.1) ∧ (r.1 = -1 → (r.2.1 < n → R.1 = r.2.1) ∧ (¬ r.2.1 < n → R = (-1, r.2.2)))
theorem lcR_ru (b : Int → Int) (n : Int) : lcR (lpC b n 240 (cl2 b n 0 [])) n (ruR b n) := by
  rw [ruL_eq]
  unfold ruR
  refine ⟨fun z => ?_, fun z => ⟨fun q => ?_, fun q => ?_⟩⟩
  · rw [if_pos z]
  · rw [if_neg (by omega), if_pos q]
  · rw [if_neg (by omega), if_neg q]
def LpI (s : Int → Int) (A : MAs) (n r : Int) (X : RU2) : Prop := (X.1 ≠ -1 → s 4 = X.1 ∧ -1 ≤ X.1 ∧ X.1 ≤ n) ∧ (X.1 = -1 → s 4 = -1 ∧ s 3 = X.2.1 ∧ 0 ≤ X.2.1 ∧ X.2.1 ≤ n ∧ s 5 = 0 ∧ s 28 = r ∧ s 29 = (moL X.2.2).length ∧ 2 * s 29 ≤ 3 * X.2.1 ∧ 4 * (X.2.2.length : Int) ≤ X.2.1 + 1 ∧ RuD A r X.2.2)
theorem LpI.next {s s' : Int → Int} {A A' : MAs} {b : Int → Int} {n r i : Int} {C : Cls} (h0 : 0 ≤ i) (h1 : i ≤ n) (h3 : s 3 = i) (h5 : s 5 = 0) (h28 : s 28 = r) (hm : s 29 = (moL C).length) (hb : 2 * s 29 ≤ 3 * i) (h4c : 4 * (C.length : Int) ≤ i) (hR : RuD A r C) (hQ : ClQ s A r C.length (clG b n i) s' A') : LpI s' A' n r (cl2 b n i C) := by
  obtain ⟨q1, q5, qn, qy⟩ := hQ
  have zb := clG_b (b := b) h0 h1
  unfold cl2
  by_cases zf : (clG b n i).1 = -1
  · rw [if_pos zf]
    have z3 := clG_p (b := b) h0 h1 zf
    have z4 := zb.2.2 zf
    obtain ⟨y1, y2, y3, y4, y5, y6⟩ := qy zf
    obtain ⟨n1, n2⟩ := hR.next hm y1 y3 y4 y5 y6
    refine ⟨fun z => absurd rfl z, fun _ => ⟨y1.2.1, y1.2.2.1, by show 0 ≤ (clG b n i).2.1; omega, z4.2.1, q5.trans h5, y1.1.in_ h28, n2, by show 2 * s' 29 ≤ 3 * (clG b n i).2.1; omega, ?_, n1⟩⟩
    show 4 * ((C ++ [(clG b n i).2.2]).length : Int) ≤ (clG b n i).2.1 + 1
    rw [List.length_append]
    simp only [List.length_cons, List.length_nil]
    omega
  · rw [if_neg zf]
    exact ⟨fun _ => ⟨(qn zf).2, zb.1, zb.2.1⟩, fun z => absurd z zf⟩
theorem ClQ.sm {s s' : Int → Int} {A A' : MAs} {r c : Int} {R : RC} (h : ClQ s A r c R s' A') : SmE s s' := by
  by_cases zf : R.1 = -1
  · exact (h.2.2.2 zf).1.1
  · exact (h.2.2.1 zf).1
def RRP (s : Int → Int) (A : MAs) (r : Int) (R : Int × Cls) (h : AH) : Option AV → AH → Prop := pe fun v h' => v = vI R.1 ∧ ∃ (s' : Int → Int) (A' : MAs), MdS h' s' A' ∧ SmQ s s' ∧ AgQ A A' r ∧ Fr isRq h h' ∧ (R.1 = -1 → MrD A' r R.2)
theorem lpC_no {b : Int → Int} {n : Int} {r : RU2} (q : r.1 = -1) (q2 : ¬ hrS b n (skS b n r.2.1) = 59) : ∀ m : Nat, n - r.2.1 ≤ m → lpC b n m r = (-1, skS b n r.2.1, r.2.2)
  | 0, hm => by
    have e : skS b n r.2.1 = r.2.1 := skS_stop (fun z => by omega)
    rw [e]
    show r = _
    rw [← q]
  | m + 1, _ => lpC_end q q2 (m + 1) (by omega)
set_option maxRecDepth 100000 in
set_option maxHeartbeats 4000000 in
theorem lp_X11_readRule {k : WC} {d : Nat} {w : MC} {h0 : AH} {s0 : Int → Int} {A0 : MAs} {b : Int → Int} {n : Int} {r : Int} {R : Int × Cls} (hr0 : 0 ≤ r) (hr6 : r ≤ 6) (hd : 120 ≤ d) (hT0 : RdM s0 A0 b n) (hc : Cx w k d 0 0 mdX11_readRule) (he : Ends w 0 0 (RRP s0 A0 r R h0)) : ∀ (zm : Nat) (X : RU2) (s : Int → Int) (A : MAs) (h : AH), (X.1 = -1 → n - X.2.1 ≤ zm) → lcR (lpC b n zm X) n R → LpI s A n r X → SmQ s0 s → AgQ A0 A r → MdS h s A → Fr isRq h0 h → J w 0 0 36 [some (vR (70, 0)), some (vI r)] [] h := by
  intro zm
  induction zm using Nat.strongRecOn with
  | _ zm ih =>
    intro X s A h hfu hR hI hm hA hS hF
    have hn := hT0.2.1
    by_cases zf : X.1 ≠ -1
    · have zB := hI.1 zf
      have zR : R.1 = X.1 := by
        rw [lpC_bad zf] at hR
        exact hR.1 zf
      refine j_aload_n hc dX11_readRule_36 rfl ?_
      refine j_get hc dX11_readRule_37 fX11_132 hS.1 rfl ?_
      refine j_iconst hc dX11_readRule_40 ?_
      refine j_icmp_ne (tgt := 70) hc dX11_readRule_41 (by decide) (by rw [zB.1]; exact ⟨by omega, by omega⟩) ⟨by omega, by omega⟩ (fun zc1 => ?_) (fun zc1 => ?_)
      · refine j_aload_n hc dX11_readRule_70 rfl ?_
        refine j_get hc dX11_readRule_71 fX11_132 hS.1 rfl ?_
        refine j_iconst hc dX11_readRule_74 ?_
        refine j_icmp_ne (tgt := 90) hc dX11_readRule_75 (by decide) (by rw [zB.1]; exact ⟨by omega, by omega⟩) ⟨by omega, by omega⟩ (fun zc2 => ?_) (fun zc2 => ?_)
        · refine j_aload_n hc dX11_readRule_90 rfl ?_
          refine j_get hc dX11_readRule_91 fX11_132 hS.1 rfl ?_
          exact j_iret hc he dX11_readRule_94 rfl (by omega) (by omega) ⟨_, rfl, congrArg vI (zB.1.trans zR.symm), _, _, hS, hm, hA, hF, fun z => absurd (zR.symm.trans z) zf⟩
        · exact absurd (zB.1.symm.trans zc2) zf
      · exact absurd (zB.1.symm.trans zc1) zf
    · have zf : X.1 = -1 := by omega
      obtain ⟨g1, g2, g3, g4, g5, g6, g7, g8, g9, g10⟩ := hI.2 zf
      have zfu := hfu zf
      have hT := hm.rd hT0 hA.1.1
      obtain ⟨p1, p2, p3⟩ := skS_b b n X.2.1
      have p2 := p2 (by omega)
      have zs1 := hrM_S hT (show 0 ≤ skS b n X.2.1 by omega)
      have zs2 := hrM_b hT (show 0 ≤ skS b n X.2.1 by omega)
      refine j_aload_n hc dX11_readRule_36 rfl ?_
      refine j_get hc dX11_readRule_37 fX11_132 hS.1 rfl ?_
      refine j_iconst hc dX11_readRule_40 ?_
      refine j_icmp_ne (tgt := 70) hc dX11_readRule_41 (by decide) (by rw [g1]; exact ⟨by omega, by omega⟩) ⟨by omega, by omega⟩ (fun zc1 => ?_) (fun zc1 => ?_)
      · exact absurd g1 zc1
      · refine j_aload_n hc dX11_readRule_44 rfl ?_
        refine j_callV (d' := d - 1) hc dX11_readRule_45 vX11_135 hS.1 (ev_X11_look (b := b) (n := n) (by omega) hS (hm.rd hT0 hA.1.1) (by omega) (by omega)) rfl (by omega) (by omega) (by omega) rfl rfl (Nat.le_of_ble_eq_true rfl) (retE fun zv45 zq45 zp45 => ?_)
        obtain ⟨zv1, zS1, zF1⟩ := zp45
        subst zv1
        rw [g2]
        rw [g2] at zS1
        refine j_bipush hc dX11_readRule_48 (by decide) ?_
        refine j_icmp_ne (tgt := 70) hc dX11_readRule_50 (by decide) ⟨by omega, by omega⟩ ⟨by omega, by omega⟩ (fun zc2 => ?_) (fun zc2 => ?_)
        · have z59 : ¬ hrS b n (skS b n X.2.1) = 59 := by omega
          rw [lpC_no zf z59 zm (by omega)] at hR
          refine j_aload_n hc dX11_readRule_70 rfl ?_
          refine j_get hc dX11_readRule_71 fX11_132 zS1.1 rfl ?_
          refine j_iconst hc dX11_readRule_74 ?_
          refine j_icmp_ne (tgt := 90) hc dX11_readRule_75 (by decide) (by show inI (s 4); rw [g1]; exact ⟨by omega, by omega⟩) ⟨by omega, by omega⟩ (fun zc3 => ?_) (fun zc3 => ?_)
          · exact absurd g1 zc3
          · refine j_aload_n hc dX11_readRule_78 rfl ?_
            refine j_callV (d' := d - 1) hc dX11_readRule_79 vX11_135 zS1.1 (ev_X11_look (b := b) (n := n) (by omega) zS1 ((hm.e (SmE.rf s).f3).rd hT0 hA.1.1) (by show 0 ≤ skS b n X.2.1; omega) (by show skS b n X.2.1 ≤ 900; omega)) rfl (by omega) (by omega) (by omega) rfl rfl (Nat.le_of_ble_eq_true rfl) (retE fun zv79 zq79 zp79 => ?_)
            obtain ⟨zv2, zS2, zF2⟩ := zp79
            subst zv2
            rw [show fu s 3 (skS b n X.2.1) 3 = skS b n X.2.1 from rfl, skS_idem]
            rw [show fu s 3 (skS b n X.2.1) 3 = skS b n X.2.1 from rfl, skS_idem, fu_fu] at zS2
            refine j_iconst hc dX11_readRule_82 ?_
            refine j_icmp_eq (tgt := 90) hc dX11_readRule_83 (by decide) ⟨by omega, by omega⟩ ⟨by omega, by omega⟩ (fun zc4 => ?_) (fun zc4 => ?_)
            · have zRE : R = (-1, X.2.2) := (hR.2 rfl).2 (by show ¬ skS b n X.2.1 < n; omega)
              refine j_aload_n hc dX11_readRule_90 rfl ?_
              refine j_get hc dX11_readRule_91 fX11_132 zS2.1 rfl ?_
              exact j_iret hc he dX11_readRule_94 rfl (by omega) (by omega) ⟨_, rfl, by show vI (s 4) = _; rw [g1, zRE], _, _, zS2, (hm.e (SmE.rf s).f3), hA, Fr.tr (Fr.tr (hF) (zF1.mono fun z zz => Or.inl zz)) (zF2.mono fun z zz => Or.inl zz), fun _ => by rw [zRE]; exact g10.mr (by show X.2.2.length ≤ 60; omega) (by show (moL X.2.2).length ≤ 360; omega)⟩
            · have zRE : R.1 = skS b n X.2.1 := (hR.2 rfl).1 (by show skS b n X.2.1 < n; omega)
              refine j_aload_n hc dX11_readRule_86 rfl ?_
              refine j_callV (d' := d - 1) hc dX11_readRule_87 vX11_142 zS2.1 (ev_X11_bad_n (by omega) zS2 (show fu s 3 _ 4 = -1 from g1)) rfl (by omega) (by omega) (by omega) rfl rfl (Nat.le_of_ble_eq_true rfl) (retN fun zq87 zp87 => ?_)
              obtain ⟨zS6, zF6⟩ := zp87
              rw [fu_same] at zS6
              refine j_aload_n hc dX11_readRule_90 rfl ?_
              refine j_get hc dX11_readRule_91 fX11_132 zS6.1 rfl ?_
              exact j_iret hc he dX11_readRule_94 rfl (by omega) (by omega) ⟨_, rfl, by show vI (skS b n X.2.1) = _; rw [zRE], _, _, zS6, (hm.e (SmE.rf s).f3.f4), hA, Fr.tr (Fr.tr (Fr.tr (hF) (zF1.mono fun z zz => Or.inl zz)) (zF2.mono fun z zz => Or.inl zz)) (zF6.mono fun z zz => Or.inl zz), fun z => absurd (zRE.symm.trans z) (by omega)⟩
        · have z59 : hrS b n (skS b n X.2.1) = 59 := by omega
          refine j_aload_n hc dX11_readRule_53 rfl ?_
          refine j_dup hc dX11_readRule_54 rfl ?_
          refine j_get hc dX11_readRule_55 fX11_125 zS1.1 rfl ?_
          rw [fu_same]
          refine j_iconst hc dX11_readRule_58 ?_
          refine j_iadd hc dX11_readRule_59 ?_
          refine j_put  hc dX11_readRule_60 pX11_125 zS1.1 rfl mset_3 ?_
          generalize ezh1 : up _ _ _ = zh1
          have zzmod_zh1 := MdS.pf ezh1 zS1
          have zS8 := zzmod_zh1
          rw [fu_fu] at zS8
          refine j_aload_n hc dX11_readRule_63 rfl ?_
          refine j_callV (d' := d - 1) hc dX11_readRule_64 vX11_214 zS8.1 (ev_X11_clause (c := X.2.2.length) hr0 hr6 (by omega) (by omega) ((hm.e (SmE.rf s).f3).rd hT0 hA.1.1) (by show 0 ≤ s 29; omega) (by omega) zS8 g6 (by show 2 * s 29 ≤ 3 * (skS b n X.2.1 + 1); omega) g1 g5 (by show 0 ≤ skS b n X.2.1 + 1; omega) (by show skS b n X.2.1 + 1 ≤ n; omega) g10.1) rfl (by omega) (by omega) (by omega) rfl rfl (Nat.le_of_ble_eq_true rfl) (retN fun zq64 zp64 => ?_)
          obtain ⟨s4, A4, zQ4, zS4, zF4⟩ := zp64
          have zQ4 : ClQ (fu s 3 (skS b n X.2.1 + 1)) A r X.2.2.length (clG b n (skS b n X.2.1 + 1)) s4 A4 := zQ4
          refine j_goto (tgt := 36) hc dX11_readRule_67 (by decide) ?_
          obtain ⟨zm2, rfl⟩ : ∃ x, zm = x + 1 := ⟨zm - 1, by omega⟩
          rw [lpC_go zf z59] at hR
          have zN := LpI.next (b := b) (n := n) (by omega) (by omega) (show fu s 3 (skS b n X.2.1 + 1) 3 = skS b n X.2.1 + 1 from rfl) g5 g6 g7 (by show 2 * s 29 ≤ 3 * (skS b n X.2.1 + 1); omega) (by omega) g10 zQ4
          refine ih zm2 (by omega) _ s4 A4 _ (fun z => ?_) hR zN ((hm.e (SmE.rf s).f3).e zQ4.sm) (hA.tr zQ4.1) zS4 (Fr.tr ((by rw [← ezh1]; exact Fr.push (Fr.tr (hF) (zF1.mono fun z zz => Or.inl zz)) (by first | exact Or.inl rfl | exact Or.inr (by decide)))) zF4)
          have z2 := (zN.2 z)
          have zc : (clG b n (skS b n X.2.1 + 1)).1 = -1 := by
            unfold cl2 at z
            split at z
            · assumption
            · exact z
          have z3 := clG_p (b := b) (n := n) (by omega) (by omega) zc
          rw [show (cl2 b n (skS b n X.2.1 + 1) X.2.2).2.1 = (clG b n (skS b n X.2.1 + 1)).2.1 by unfold cl2; rw [if_pos zc]]
          omega
set_option maxRecDepth 100000 in
set_option maxHeartbeats 4000000 in
theorem ev_X11_readRule {k : WC} {d : Nat} {h : AH} {s : Int → Int} {A : MAs} {b : Int → Int} {n : Int} {r : Int} (hr0 : 0 ≤ r) (hr6 : r ≤ 6) (hd : 120 ≤ d) (hS : MdS h s A) (hT : RdM s A b n) : Ev k d mdX11_readRule h [vR (70, 0), vI r] 0 0 (RRP s A r (ruR b n) h) := by
  have hn := hT.2.1
  have zq0 : SmQ s (fu (fu (fu (fu (fu s 28 r) 3 0) 4 (-1)) 5 0) 29 0) := fun k a3 a4 a5 a28 a29 => (fu_ne a29).trans ((fu_ne a5).trans ((fu_ne a4).trans ((fu_ne a3).trans (fu_ne a28))))
  refine Ev.mk (by decide +kernel) [_, _] rfl (Nat.le_of_ble_eq_true rfl) (fun w hc he => ?_)
  refine j_aload_n hc dX11_readRule_0 rfl ?_
  refine j_iload_n hc dX11_readRule_1 rfl ?_
  refine j_put  hc dX11_readRule_2 pX11_174 hS.1 rfl mset_28 ?_
  generalize ezh1 : up _ _ _ = zh1
  have zzmod_zh1 := MdS.pf ezh1 hS
  refine j_aload_n hc dX11_readRule_5 rfl ?_
  refine j_iconst hc dX11_readRule_6 ?_
  refine j_put  hc dX11_readRule_7 pX11_125 zzmod_zh1.1 rfl mset_3 ?_
  generalize ezh2 : up _ _ _ = zh2
  have zzmod_zh2 := MdS.pf ezh2 zzmod_zh1
  refine j_aload_n hc dX11_readRule_10 rfl ?_
  refine j_iconst hc dX11_readRule_11 ?_
  refine j_put  hc dX11_readRule_12 pX11_132 zzmod_zh2.1 rfl mset_4 ?_
  generalize ezh3 : up _ _ _ = zh3
  have zzmod_zh3 := MdS.pf ezh3 zzmod_zh2
  refine j_aload_n hc dX11_readRule_15 rfl ?_
  refine j_iconst hc dX11_readRule_16 ?_
  refine j_put  hc dX11_readRule_17 pX11_180 zzmod_zh3.1 rfl mset_5 ?_
  generalize ezh4 : up _ _ _ = zh4
  have zzmod_zh4 := MdS.pf ezh4 zzmod_zh3
  refine j_aload_n hc dX11_readRule_20 rfl ?_
  refine j_iconst hc dX11_readRule_21 ?_
  refine j_put  hc dX11_readRule_22 pX11_177 zzmod_zh4.1 rfl mset_29 ?_
  generalize ezh5 : up _ _ _ = zh5
  have zzmod_zh5 := MdS.pf ezh5 zzmod_zh4
  refine j_aload_n hc dX11_readRule_25 rfl ?_
  refine j_get hc dX11_readRule_26 fX11_64 zzmod_zh5.1 rfl ?_
  refine j_iload_n hc dX11_readRule_29 rfl ?_
  refine j_iconst hc dX11_readRule_30 ?_
  refine j_iast hc dX11_readRule_31 zzmod_zh5.2.2.2.2.2.2.2.2.2.2.2.2.2.2.2.2.2.2.2.1 (by omega) (by omega) ?_
  generalize ezh6 : up _ _ _ = zh6
  have zzmod_zh6 := MdS.pa_24 ezh6 zzmod_zh5
  refine j_aload_n hc dX11_readRule_32 rfl ?_
  refine j_callV (d' := d - 1) hc dX11_readRule_33 vX11_214 zzmod_zh6.1 (ev_X11_clause (s := (fu (fu (fu (fu (fu s 28 r) 3 0) 4 (-1)) 5 0) 29 0)) (A := (fuA A 24 (fu (A 24) r 0))) (b := b) (n := n) (c := 0) hr0 hr6 (by omega) (by omega) (zq0.rd hT rfl) (by show (0 : Int) ≤ 0; omega) (by omega) zzmod_zh6 rfl (by show (2 : Int) * 0 ≤ 3 * 0; omega) rfl rfl (by show (0 : Int) ≤ 0; omega) (by show 0 ≤ n; omega) (fu_same _ _ _)) rfl (by omega) (by omega) (by omega) rfl rfl (Nat.le_of_ble_eq_true rfl) (retN fun zq33 zp33 => ?_)
  obtain ⟨s4, A4, zQ4, zS4, zF4⟩ := zp33
  have zQ4 : ClQ (fu (fu (fu (fu (fu s 28 r) 3 0) 4 (-1)) 5 0) 29 0) (fuA A 24 (fu (A 24) r 0)) r (([] : Cls).length : Int) (clG b n 0) s4 A4 := zQ4
  have zN := LpI.next (b := b) (n := n) (i := 0) (C := []) (by omega) (by omega) (show (fu (fu (fu (fu (fu s 28 r) 3 0) 4 (-1)) 5 0) 29 0) 3 = 0 from rfl) rfl rfl rfl (by show (2 : Int) * 0 ≤ 3 * 0; omega) (by show (4 : Int) * 0 ≤ 0; omega) ⟨fu_same _ _ _, fun i hi => absurd hi (Nat.not_lt_zero _), fun pre q suf he => by cases pre <;> cases he⟩ zQ4
  exact lp_X11_readRule hr0 hr6 (by omega) hT hc he 240 _ s4 A4 _ (fun z => by have := (zN.2 z).2.2.1; omega) (lcR_ru b n) zN (zq0.e zQ4.sm) ((AgQ.f24 A r 0).tr zQ4.1) zS4 (Fr.tr ((by rw [← ezh6]; exact Fr.push ((by rw [← ezh5]; exact Fr.push ((by rw [← ezh4]; exact Fr.push ((by rw [← ezh3]; exact Fr.push ((by rw [← ezh2]; exact Fr.push ((by rw [← ezh1]; exact Fr.push (Fr.rf _ _) (by first | exact Or.inl rfl | exact Or.inr (by decide)))) (by first | exact Or.inl rfl | exact Or.inr (by decide)))) (by first | exact Or.inl rfl | exact Or.inr (by decide)))) (by first | exact Or.inl rfl | exact Or.inr (by decide)))) (by first | exact Or.inl rfl | exact Or.inr (by decide)))) (by first | exact Or.inl rfl | exact Or.inr (by decide)))) zF4)
