/-! ===== rules: the reference's worthOf ===== -/
set_option maxRecDepth 100000 in
set_option maxHeartbeats 4000000 in
theorem ev_X11_run {k : WC} {d : Nat} {h : AH} {s : Int → Int} {A : MAs} {r fr to a t n p my vv : Int} (hd : 6 ≤ d) (hr0 : 0 ≤ r) (hr1 : r < 6) {c : List Int} {pf : Int → Int} (hfr0 : 0 ≤ fr) (hto : to = fr + (trL c).length) (hto1 : to ≤ 400) (ha : inI a) (ht : inI t) (hn : inI n) (hp : inI p) (hmy : inI my) (hcd : CdA A (400 * r + fr) c) (htk : ∀ x ∈ c, tkIn x) (hmo : moF (l5 a t n p my) c [] = some [vv]) (hS : MdS h s A) (zP : h (230, 0) = some (oL 400 pf)) : Ev k d mdX11_run h [vR (70, 0), vI r, vI fr, vI to, vI a, vI t, vI n, vI p, vI my] 0 0 (pe fun v h' => v = vL vv ∧ (∃ pf', h' (230, 0) = some (oL 400 pf')) ∧ Fr (fun z => z = (230, 0)) h h') := by
  refine Ev.mk (by decide +kernel) [_, _, _, _, _, _, _, _, _, _, _, _, _] rfl (Nat.le_of_ble_eq_true rfl) (fun w hc he => ?_)
  refine j_iconst hc dX11_run_0 ?_
  refine j_istore (L' := [_, _, _, _, _, _, _, _, _, _, _, _, _]) hc dX11_run_1 (Nat.le_of_ble_eq_true rfl) rfl ?_
  refine j_sipush hc dX11_run_3 (by decide) ?_
  refine j_iload_n hc dX11_run_6 rfl ?_
  refine j_imul hc dX11_run_7 ?_
  refine j_iload_n hc dX11_run_8 rfl ?_
  refine j_iadd hc dX11_run_9 ?_
  refine j_istore (L' := [_, _, _, _, _, _, _, _, _, _, _, _, _]) hc dX11_run_10 (Nat.le_of_ble_eq_true rfl) rfl ?_
  exact lp_X11_run hd hr0 hr1 (by omega) hto1 ha ht hn hp hmy hc he _ c [] 0 (400 * r + fr) _ _ pf h rfl rfl ⟨by omega, by simp, by omega⟩ hcd htk (fun _ hy => nomatch hy) hmo trivial hS zP (Fr.rf _ _)
/-- how the reference writes a rule -/
def moL (c : Cls) : List Int := c.flatMap fun q => trL q.1 ++ trL q.2
theorem moL_app (c e : Cls) : moL (c ++ e) = moL c ++ moL e := by unfold moL; rw [List.flatMap_append]
theorem moL_cons (q : List Int × List Int) (c : Cls) : moL (q :: c) = trL q.1 ++ (trL q.2 ++ moL c) := by
  show (trL q.1 ++ trL q.2) ++ moL c = _
  rw [List.append_assoc]
def MrD (A : MAs) (r : Int) (c : Cls) : Prop := A 24 r = c.length ∧ c.length ≤ 60 ∧ (moL c).length ≤ 360 ∧ (∀ i : Nat, i < (moL c).length → A 23 (400 * r + i) = (moL c).getD i 0) ∧
  ∀ (pre : Cls) (q : List Int × List Int) (suf : Cls), c = pre ++ q :: suf → A 25 (64 * r + pre.length) = (moL pre).length + (trL q.1).length ∧ A 26 (64 * r + pre.length) = (moL pre).length + (trL q.1).length + (trL q.2).length
theorem MrD.seg {A : MAs} {r : Int} {c pre suf : Cls} {q : List Int × List Int} (h : MrD A r c) (e : c = pre ++ q :: suf) : CdA A (400 * r + (moL pre).length) q.1 ∧ CdA A (400 * r + ((moL pre).length + (trL q.1).length : Int)) q.2 ∧ (moL pre).length + (trL q.1).length + (trL q.2).length + (moL suf).length ≤ 360 := by
  obtain ⟨h1, h2, h3, h4, h5⟩ := h
  have e2 : moL c = moL pre ++ (trL q.1 ++ (trL q.2 ++ moL suf)) := by rw [e, moL_app, moL_cons]
  have e3 : (moL c).length = (moL pre).length + ((trL q.1).length + ((trL q.2).length + (moL suf).length)) := by rw [e2]; simp only [List.length_append]
  refine ⟨fun i hi => ?_, fun i hi => ?_, by omega⟩
  · have := h4 ((moL pre).length + i) (by omega)
    rw [show 400 * r + ((moL pre).length : Int) + i = 400 * r + (((moL pre).length + i : Nat) : Int) by omega, this, e2, List.getD_eq_getElem?_getD, List.getElem?_append_right (by omega), List.getElem?_append_left (by omega), show (moL pre).length + i - (moL pre).length = i by omega, ← List.getD_eq_getElem?_getD]
  · have := h4 ((moL pre).length + (trL q.1).length + i) (by omega)
    rw [show 400 * r + ((moL pre).length + (trL q.1).length : Int) + i = 400 * r + (((moL pre).length + (trL q.1).length + i : Nat) : Int) by omega, this, e2, List.getD_eq_getElem?_getD, List.getElem?_append_right (by omega), List.getElem?_append_right (by omega), List.getElem?_append_left (by omega), show (moL pre).length + (trL q.1).length + i - (moL pre).length - (trL q.1).length = i by omega, ← List.getD_eq_getElem?_getD]
set_option maxRecDepth 100000 in
set_option maxHeartbeats 4000000 in
theorem lp_X11_worthOf {w : MC} {k : WC} {d : Nat} {h : AH} {s : Int → Int} {A : MAs} {r a t n p my : Int} {C : Cls} (hd : 8 ≤ d) (hr0 : 0 ≤ r) (hr1 : r < 6) (ha : inI a) (ht : inI t) (hn : inI n) (hp : inI p) (hmy : inI my) (hR : MrD A r C) (hG : ClsG C) (hc : Cx w k d 0 0 mdX11_worthOf) : ∀ (c pre : Cls) (fr j : Int) (z9 z10 : Option AV) (pf : Int → Int) (h' : AH), Ends w 0 0 (pe fun v h' => v = vI (wvS (l5 a t n p my) c) ∧ (∃ pf', h' (230, 0) = some (oL 400 pf')) ∧ Fr (fun z => z = (230, 0)) h h') → C = pre ++ c → fr = (moL pre).length → j = pre.length → MdS h' s A → h' (230, 0) = some (oL 400 pf) → Fr (fun z => z = (230, 0)) h h' → J w 0 0 6 [some (vR (70, 0)), some (vI r), some (vI a), some (vI t), some (vI n), some (vI p), some (vI my), some (vI fr), some (vI j), z9, z10] [] h' := by
  intro c
  induction c with
  | nil =>
    intro pre fr j z9 z10 pf h' he hC hfr hj hS zP hF
    have zlen : A 24 r = j := by rw [hR.1, hC, List.append_nil]; omega
    have zl2 := hR.2.1
    have zl3 : (C.length : Int) = pre.length := by rw [hC, List.append_nil]
    refine j_iload hc dX11_worthOf_6 rfl ?_
    refine j_aload_n hc dX11_worthOf_8 rfl ?_
    refine j_get hc dX11_worthOf_9 fX11_64 hS.1 rfl ?_
    refine j_iload_n hc dX11_worthOf_12 rfl ?_
    refine j_iald hc dX11_worthOf_13 hS.2.2.2.2.2.2.2.2.2.2.2.2.2.2.2.2.2.2.2.1 (by omega) (by omega) ?_
    rw [zlen]
    refine j_icmp_ge (tgt := 103) hc dX11_worthOf_14 (by decide) ⟨by omega, by omega⟩ ⟨by omega, by omega⟩ (fun zc1 => ?_) (fun zc1 => ?_)
    · refine j_iconst hc dX11_worthOf_103 ?_
      exact j_iret hc he dX11_worthOf_104 rfl (by omega) (by omega) ⟨_, rfl, rfl, ⟨_, zP⟩, hF⟩
    · exact absurd zc1 (by omega)
  | cons q c2 ih =>
    intro pre fr j z9 z10 pf h' he hC hfr hj hS zP hF
    have zl2 := hR.2.1
    have zlt : (C.length : Int) = pre.length + (c2.length + 1) := by rw [hC, List.length_append, List.length_cons]; omega
    have zlen : A 24 r = C.length := hR.1
    obtain ⟨zs1, zs2, zs3⟩ := hR.seg hC
    obtain ⟨za, zb⟩ := hR.2.2.2.2 pre q c2 hC
    rw [← hj] at za zb
    obtain ⟨g1, g2⟩ := hG q (by rw [hC]; exact List.mem_append_right _ List.mem_cons_self)
    have hl : ltOK (l5 a t n p my) := fun j _ _ => l5_b ha ht hn hp hmy j
    obtain ⟨b1, b2, b3⟩ := g2.v (by omega) hl
    have m2 := (b3 [] (by simp)).2
    by_cases e : q.1 = []
    · have hcs : q.1 = [] ∨ vlS (l5 a t n p my) q.1 = 1 := Or.inl e
      have zl0 : (trL q.1).length = 0 := by rw [e]; rfl
      refine j_iload hc dX11_worthOf_6 rfl ?_
      refine j_aload_n hc dX11_worthOf_8 rfl ?_
      refine j_get hc dX11_worthOf_9 fX11_64 hS.1 rfl ?_
      refine j_iload_n hc dX11_worthOf_12 rfl ?_
      refine j_iald hc dX11_worthOf_13 hS.2.2.2.2.2.2.2.2.2.2.2.2.2.2.2.2.2.2.2.1 (by omega) (by omega) ?_
      rw [zlen]
      refine j_icmp_ge (tgt := 103) hc dX11_worthOf_14 (by decide) ⟨by omega, by omega⟩ ⟨by omega, by omega⟩ (fun zc1 => ?_) (fun zc1 => ?_)
      · exact absurd zc1 (by omega)
      · refine j_aload_n hc dX11_worthOf_17 rfl ?_
        refine j_get hc dX11_worthOf_18 fX11_67 hS.1 rfl ?_
        refine j_bipush hc dX11_worthOf_21 (by decide) ?_
        refine j_iload_n hc dX11_worthOf_23 rfl ?_
        refine j_imul hc dX11_worthOf_24 ?_
        refine j_iload hc dX11_worthOf_25 rfl ?_
        refine j_iadd hc dX11_worthOf_27 ?_
        refine j_iald hc dX11_worthOf_28 hS.2.2.2.2.2.2.2.2.2.2.2.2.2.2.2.2.2.2.2.2.1 (by omega) (by omega) ?_
        rw [za]
        refine j_istore (L' := [_, _, _, _, _, _, _, _, _, _, _]) hc dX11_worthOf_29 (Nat.le_of_ble_eq_true rfl) rfl ?_
        refine j_aload_n hc dX11_worthOf_31 rfl ?_
        refine j_get hc dX11_worthOf_32 fX11_70 hS.1 rfl ?_
        refine j_bipush hc dX11_worthOf_35 (by decide) ?_
        refine j_iload_n hc dX11_worthOf_37 rfl ?_
        refine j_imul hc dX11_worthOf_38 ?_
        refine j_iload hc dX11_worthOf_39 rfl ?_
        refine j_iadd hc dX11_worthOf_41 ?_
        refine j_iald hc dX11_worthOf_42 hS.2.2.2.2.2.2.2.2.2.2.2.2.2.2.2.2.2.2.2.2.2.1 (by omega) (by omega) ?_
        rw [zb]
        refine j_istore (L' := [_, _, _, _, _, _, _, _, _, _, _]) hc dX11_worthOf_43 (Nat.le_of_ble_eq_true rfl) rfl ?_
        refine j_iload hc dX11_worthOf_45 rfl ?_
        refine j_iload hc dX11_worthOf_47 rfl ?_
        refine j_icmp_eq (tgt := 74) hc dX11_worthOf_49 (by decide) ⟨by omega, by omega⟩ ⟨by omega, by omega⟩ (fun zc2 => ?_) (fun zc2 => ?_)
        · refine j_aload_n hc dX11_worthOf_74 rfl ?_
          refine j_iload_n hc dX11_worthOf_75 rfl ?_
          refine j_iload hc dX11_worthOf_76 rfl ?_
          refine j_iload hc dX11_worthOf_78 rfl ?_
          refine j_iload_n hc dX11_worthOf_80 rfl ?_
          refine j_iload_n hc dX11_worthOf_81 rfl ?_
          refine j_iload hc dX11_worthOf_82 rfl ?_
          refine j_iload hc dX11_worthOf_84 rfl ?_
          refine j_iload hc dX11_worthOf_86 rfl ?_
          refine j_callV (d' := d - 1) hc dX11_worthOf_88 vX11_250 hS.1 (ev_X11_run (by omega) hr0 hr1 (by omega) (by omega) (by omega) ha ht hn hp hmy zs2 g2.2.1 m2 hS zP) rfl (by omega) (by omega) (by omega) rfl rfl (Nat.le_of_ble_eq_true rfl) (retE fun zv88 zq88 zp88 => ?_)
          obtain ⟨zv2, ⟨pf2, zpf2⟩, zF2⟩ := zp88
          subst zv2
          have zzmod_q2 := MdS.fr (fun z hz => zF2 z (fun y => nDp hz (by rw [y]; decide))) hS
          refine j_l2i hc dX11_worthOf_91 ?_
          exact j_iret hc he dX11_worthOf_92 rfl (by omega) (by omega) ⟨_, rfl, by show _ = vI (if _ then _ else _); rw [if_pos hcs], ⟨_, zpf2⟩, Fr.tr (hF) zF2⟩
        · exact absurd (by omega) zc2
    · have zl1 : (trL q.1).length ≠ 0 := fun z => e (trL_nil z)
      rcases g1 with g1 | g1
      · exact absurd g1 e
      obtain ⟨a1, a2, a3⟩ := g1.v (by omega) hl
      have m1 := (a3 [] (by simp)).2
      rcases a2 rfl with zv0 | zv1
      · have hcs : ¬ (q.1 = [] ∨ vlS (l5 a t n p my) q.1 = 1) := fun z => by rcases z with z | z; (· exact e z); omega
        refine j_iload hc dX11_worthOf_6 rfl ?_
        refine j_aload_n hc dX11_worthOf_8 rfl ?_
        refine j_get hc dX11_worthOf_9 fX11_64 hS.1 rfl ?_
        refine j_iload_n hc dX11_worthOf_12 rfl ?_
        refine j_iald hc dX11_worthOf_13 hS.2.2.2.2.2.2.2.2.2.2.2.2.2.2.2.2.2.2.2.1 (by omega) (by omega) ?_
        rw [zlen]
        refine j_icmp_ge (tgt := 103) hc dX11_worthOf_14 (by decide) ⟨by omega, by omega⟩ ⟨by omega, by omega⟩ (fun zc1 => ?_) (fun zc1 => ?_)
        · exact absurd zc1 (by omega)
        · refine j_aload_n hc dX11_worthOf_17 rfl ?_
          refine j_get hc dX11_worthOf_18 fX11_67 hS.1 rfl ?_
          refine j_bipush hc dX11_worthOf_21 (by decide) ?_
          refine j_iload_n hc dX11_worthOf_23 rfl ?_
          refine j_imul hc dX11_worthOf_24 ?_
          refine j_iload hc dX11_worthOf_25 rfl ?_
          refine j_iadd hc dX11_worthOf_27 ?_
          refine j_iald hc dX11_worthOf_28 hS.2.2.2.2.2.2.2.2.2.2.2.2.2.2.2.2.2.2.2.2.1 (by omega) (by omega) ?_
          rw [za]
          refine j_istore (L' := [_, _, _, _, _, _, _, _, _, _, _]) hc dX11_worthOf_29 (Nat.le_of_ble_eq_true rfl) rfl ?_
          refine j_aload_n hc dX11_worthOf_31 rfl ?_
          refine j_get hc dX11_worthOf_32 fX11_70 hS.1 rfl ?_
          refine j_bipush hc dX11_worthOf_35 (by decide) ?_
          refine j_iload_n hc dX11_worthOf_37 rfl ?_
          refine j_imul hc dX11_worthOf_38 ?_
          refine j_iload hc dX11_worthOf_39 rfl ?_
          refine j_iadd hc dX11_worthOf_41 ?_
          refine j_iald hc dX11_worthOf_42 hS.2.2.2.2.2.2.2.2.2.2.2.2.2.2.2.2.2.2.2.2.2.1 (by omega) (by omega) ?_
          rw [zb]
          refine j_istore (L' := [_, _, _, _, _, _, _, _, _, _, _]) hc dX11_worthOf_43 (Nat.le_of_ble_eq_true rfl) rfl ?_
          refine j_iload hc dX11_worthOf_45 rfl ?_
          refine j_iload hc dX11_worthOf_47 rfl ?_
          refine j_icmp_eq (tgt := 74) hc dX11_worthOf_49 (by decide) ⟨by omega, by omega⟩ ⟨by omega, by omega⟩ (fun zc2 => ?_) (fun zc2 => ?_)
          · exact absurd zc2 (by omega)
          · refine j_aload_n hc dX11_worthOf_52 rfl ?_
            refine j_iload_n hc dX11_worthOf_53 rfl ?_
            refine j_iload hc dX11_worthOf_54 rfl ?_
            refine j_iload hc dX11_worthOf_56 rfl ?_
            refine j_iload_n hc dX11_worthOf_58 rfl ?_
            refine j_iload_n hc dX11_worthOf_59 rfl ?_
            refine j_iload hc dX11_worthOf_60 rfl ?_
            refine j_iload hc dX11_worthOf_62 rfl ?_
            refine j_iload hc dX11_worthOf_64 rfl ?_
            refine j_callV (d' := d - 1) hc dX11_worthOf_66 vX11_250 hS.1 (ev_X11_run (by omega) hr0 hr1 (by omega) (by omega) (by omega) ha ht hn hp hmy (by rw [hfr]; exact zs1) g1.2.1 m1 hS zP) rfl (by omega) (by omega) (by omega) rfl rfl (Nat.le_of_ble_eq_true rfl) (retE fun zv66 zq66 zp66 => ?_)
            obtain ⟨zv1, ⟨pf1, zpf1⟩, zF1⟩ := zp66
            subst zv1
            have zzmod_q1 := MdS.fr (fun z hz => zF1 z (fun y => nDp hz (by rw [y]; decide))) hS
            refine j_lconst (x := 1) hc dX11_worthOf_69 (by decide) ?_
            refine j_lcmp hc dX11_worthOf_70 ⟨by omega, by omega⟩ ⟨by omega, by omega⟩ ?_
            refine j_if_ne (b := 0) (tgt := 93) hc dX11_worthOf_71 (by decide) (by unfold lc; split <;> (try split) <;> exact ⟨by omega, by omega⟩) (fun zc3 => ?_) (fun zc3 => ?_)
            · refine j_iload hc dX11_worthOf_93 rfl ?_
              refine j_istore (L' := [_, _, _, _, _, _, _, _, _, _, _]) hc dX11_worthOf_95 (Nat.le_of_ble_eq_true rfl) rfl ?_
              refine j_iinc (L' := [_, _, _, _, _, _, _, _, _, _, _]) hc dX11_worthOf_97 rfl (Nat.le_of_ble_eq_true rfl) rfl ?_
              refine j_goto (tgt := 6) hc dX11_worthOf_100 (by decide) ?_
              rw [show wvS (l5 a t n p my) (q :: c2) = wvS (l5 a t n p my) c2 by show (if _ then _ else _) = _; rw [if_neg hcs]] at he
              exact ih (pre ++ [q]) _ _ _ _ _ _ he (by rw [List.append_assoc]; exact hC) (by rw [moL_app, List.length_append]; show _ = (((moL pre).length + ((trL q.1 ++ trL q.2) ++ []).length : Nat) : Int); rw [List.append_nil, List.length_append]; omega) (by rw [List.length_append]; simp; omega) zzmod_q1 zpf1 (hF.tr zF1)
            · exact absurd zc3 (by rw [zv0]; decide)
      · have hcs : q.1 = [] ∨ vlS (l5 a t n p my) q.1 = 1 := Or.inr zv1
        refine j_iload hc dX11_worthOf_6 rfl ?_
        refine j_aload_n hc dX11_worthOf_8 rfl ?_
        refine j_get hc dX11_worthOf_9 fX11_64 hS.1 rfl ?_
        refine j_iload_n hc dX11_worthOf_12 rfl ?_
        refine j_iald hc dX11_worthOf_13 hS.2.2.2.2.2.2.2.2.2.2.2.2.2.2.2.2.2.2.2.1 (by omega) (by omega) ?_
        rw [zlen]
        refine j_icmp_ge (tgt := 103) hc dX11_worthOf_14 (by decide) ⟨by omega, by omega⟩ ⟨by omega, by omega⟩ (fun zc1 => ?_) (fun zc1 => ?_)
        · exact absurd zc1 (by omega)
        · refine j_aload_n hc dX11_worthOf_17 rfl ?_
          refine j_get hc dX11_worthOf_18 fX11_67 hS.1 rfl ?_
          refine j_bipush hc dX11_worthOf_21 (by decide) ?_
          refine j_iload_n hc dX11_worthOf_23 rfl ?_
          refine j_imul hc dX11_worthOf_24 ?_
          refine j_iload hc dX11_worthOf_25 rfl ?_
          refine j_iadd hc dX11_worthOf_27 ?_
          refine j_iald hc dX11_worthOf_28 hS.2.2.2.2.2.2.2.2.2.2.2.2.2.2.2.2.2.2.2.2.1 (by omega) (by omega) ?_
          rw [za]
          refine j_istore (L' := [_, _, _, _, _, _, _, _, _, _, _]) hc dX11_worthOf_29 (Nat.le_of_ble_eq_true rfl) rfl ?_
          refine j_aload_n hc dX11_worthOf_31 rfl ?_
          refine j_get hc dX11_worthOf_32 fX11_70 hS.1 rfl ?_
          refine j_bipush hc dX11_worthOf_35 (by decide) ?_
          refine j_iload_n hc dX11_worthOf_37 rfl ?_
          refine j_imul hc dX11_worthOf_38 ?_
          refine j_iload hc dX11_worthOf_39 rfl ?_
          refine j_iadd hc dX11_worthOf_41 ?_
          refine j_iald hc dX11_worthOf_42 hS.2.2.2.2.2.2.2.2.2.2.2.2.2.2.2.2.2.2.2.2.2.1 (by omega) (by omega) ?_
          rw [zb]
          refine j_istore (L' := [_, _, _, _, _, _, _, _, _, _, _]) hc dX11_worthOf_43 (Nat.le_of_ble_eq_true rfl) rfl ?_
          refine j_iload hc dX11_worthOf_45 rfl ?_
          refine j_iload hc dX11_worthOf_47 rfl ?_
          refine j_icmp_eq (tgt := 74) hc dX11_worthOf_49 (by decide) ⟨by omega, by omega⟩ ⟨by omega, by omega⟩ (fun zc2 => ?_) (fun zc2 => ?_)
          · exact absurd zc2 (by omega)
          · refine j_aload_n hc dX11_worthOf_52 rfl ?_
            refine j_iload_n hc dX11_worthOf_53 rfl ?_
            refine j_iload hc dX11_worthOf_54 rfl ?_
            refine j_iload hc dX11_worthOf_56 rfl ?_
            refine j_iload_n hc dX11_worthOf_58 rfl ?_
            refine j_iload_n hc dX11_worthOf_59 rfl ?_
            refine j_iload hc dX11_worthOf_60 rfl ?_
            refine j_iload hc dX11_worthOf_62 rfl ?_
            refine j_iload hc dX11_worthOf_64 rfl ?_
            refine j_callV (d' := d - 1) hc dX11_worthOf_66 vX11_250 hS.1 (ev_X11_run (by omega) hr0 hr1 (by omega) (by omega) (by omega) ha ht hn hp hmy (by rw [hfr]; exact zs1) g1.2.1 m1 hS zP) rfl (by omega) (by omega) (by omega) rfl rfl (Nat.le_of_ble_eq_true rfl) (retE fun zv66 zq66 zp66 => ?_)
            obtain ⟨zv1, ⟨pf1, zpf1⟩, zF1⟩ := zp66
            subst zv1
            have zzmod_q1 := MdS.fr (fun z hz => zF1 z (fun y => nDp hz (by rw [y]; decide))) hS
            refine j_lconst (x := 1) hc dX11_worthOf_69 (by decide) ?_
            refine j_lcmp hc dX11_worthOf_70 ⟨by omega, by omega⟩ ⟨by omega, by omega⟩ ?_
            refine j_if_ne (b := 0) (tgt := 93) hc dX11_worthOf_71 (by decide) (by unfold lc; split <;> (try split) <;> exact ⟨by omega, by omega⟩) (fun zc3 => ?_) (fun zc3 => ?_)
            · exact absurd zc3 (by rw [zv1]; decide)
            · refine j_aload_n hc dX11_worthOf_74 rfl ?_
              refine j_iload_n hc dX11_worthOf_75 rfl ?_
              refine j_iload hc dX11_worthOf_76 rfl ?_
              refine j_iload hc dX11_worthOf_78 rfl ?_
              refine j_iload_n hc dX11_worthOf_80 rfl ?_
              refine j_iload_n hc dX11_worthOf_81 rfl ?_
              refine j_iload hc dX11_worthOf_82 rfl ?_
              refine j_iload hc dX11_worthOf_84 rfl ?_
              refine j_iload hc dX11_worthOf_86 rfl ?_
              refine j_callV (d' := d - 1) hc dX11_worthOf_88 vX11_250 zzmod_q1.1 (ev_X11_run (by omega) hr0 hr1 (by omega) (by omega) (by omega) ha ht hn hp hmy zs2 g2.2.1 m2 zzmod_q1 zpf1) rfl (by omega) (by omega) (by omega) rfl rfl (Nat.le_of_ble_eq_true rfl) (retE fun zv88 zq88 zp88 => ?_)
              obtain ⟨zv2, ⟨pf2, zpf2⟩, zF2⟩ := zp88
              subst zv2
              have zzmod_q2 := MdS.fr (fun z hz => zF2 z (fun y => nDp hz (by rw [y]; decide))) zzmod_q1
              refine j_l2i hc dX11_worthOf_91 ?_
              exact j_iret hc he dX11_worthOf_92 rfl (by omega) (by omega) ⟨_, rfl, by show _ = vI (if _ then _ else _); rw [if_pos hcs], ⟨_, zpf2⟩, Fr.tr (hF.tr zF1) zF2⟩
set_option maxRecDepth 100000 in
set_option maxHeartbeats 4000000 in
theorem ev_X11_worthOf {k : WC} {d : Nat} {h : AH} {s : Int → Int} {A : MAs} {r a t n p my : Int} {C : Cls} (hd : 8 ≤ d) (hr0 : 0 ≤ r) (hr1 : r < 6) (ha : inI a) (ht : inI t) (hn : inI n) (hp : inI p) (hmy : inI my) (hR : MrD A r C) (hG : ClsG C) {pf : Int → Int} (hS : MdS h s A) (zP : h (230, 0) = some (oL 400 pf)) : Ev k d mdX11_worthOf h [vR (70, 0), vI r, vI a, vI t, vI n, vI p, vI my] 0 0 (pe fun v h' => v = vI (wvS (l5 a t n p my) C) ∧ (∃ pf', h' (230, 0) = some (oL 400 pf')) ∧ Fr (fun z => z = (230, 0)) h h') := by
  refine Ev.mk (by decide +kernel) [_, _, _, _, _, _, _, _, _, _, _] rfl (Nat.le_of_ble_eq_true rfl) (fun w hc he => ?_)
  refine j_iconst hc dX11_worthOf_0 ?_
  refine j_istore (L' := [_, _, _, _, _, _, _, _, _, _, _]) hc dX11_worthOf_1 (Nat.le_of_ble_eq_true rfl) rfl ?_
  refine j_iconst hc dX11_worthOf_3 ?_
  refine j_istore (L' := [_, _, _, _, _, _, _, _, _, _, _]) hc dX11_worthOf_4 (Nat.le_of_ble_eq_true rfl) rfl ?_
  exact lp_X11_worthOf hd hr0 hr1 ha ht hn hp hmy hR hG hc C [] 0 0 _ _ pf h he rfl rfl rfl hS zP (Fr.rf _ _)
