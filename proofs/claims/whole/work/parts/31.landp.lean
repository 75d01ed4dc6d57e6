/-! ===== a land with its plans ===== -/
theorem j_newq {w : MC} {k : WC} {d mc ms : Nat} {y : MD} {n1 n2 pc : Nat} {L : List (Option AV)} {st : List AV} {h : AH} {nm : Nm} {ci idx : Nat} {fs : List AV} {zq : Nat} (hq : fs.length = zq) (hc : Cx w k d mc ms y) (hd : decode y.2.1 pc = .ok (.new idx, 3)) (hs0 : NW y.1.cls idx ci fs) (hf : h nm = none) (h1 : n1 + 1 ≤ mc) (h2 : n2 + zq ≤ ms) (kk : J w (n1 + 1) (n2 + zq) (pc + 3) L (vR nm :: st) (up h nm (oO ci fs))) : J w n1 n2 pc L st h := by
  subst hq
  exact j_new hc hd hs0 hf h1 h2 kk
def srj (j : Int) : Int := if j = 5 then 1 else j
def PlnHas (h : AH) (l : Int) (D : LaS) (E : LaY) (ru : RU) (j cs : Int) (wf : Option Nm) (kf bf lf wl : Int → Int) : Prop := 0 ≤ cs ∧ cs ≤ 30 ∧ (j ≠ 5 → cs = lCo D) ∧ PlanAt h (6 * l + j) l D E ru (srj j) cs wf kf bf lf wl ∧ PlanW h (6 * l + j) D E ru (srj j) cs wf wl lf
def PlnIn (h : AH) (l : Int) (D : LaS) (E : LaY) (ru : RU) (j : Int) (o : Option Nm) : Prop := (o = none ∧ ∀ q : Nat, 50 ≤ q → q ≤ 56 → h (q, 6 * l + j) = none) ∨ (o = some (50, 6 * l + j) ∧ ∃ (cs : Int) (wf : Option Nm) (kf bf lf wl : Int → Int), PlnHas h l D E ru j cs wf kf bf lf wl)
def LandX (h : AH) (l : Int) (D : LaS) (E : LaY) (ru : RU) (j : Int) (pl : Int → Option Nm) : Prop := LandAt h l D E pl ∧ pl j = some (50, 6 * l + j) ∧ ∀ j' : Int, 0 ≤ j' → j' ≤ 5 → j' ≠ j → PlnIn h l D E ru j' (pl j')
def LandP (h : AH) (l : Int) (D : LaS) (E : LaY) (ru : RU) : Prop := ∃ pl, LandAt h l D E pl ∧ ∀ j : Int, 0 ≤ j → j ≤ 5 → PlnIn h l D E ru j (pl j)
abbrev isSl (l j : Int) : Nm → Prop := fun z => z = (40, l) ∨ (50 ≤ z.1 ∧ z.1 ≤ 56 ∧ z.2 = 6 * l + j)
theorem PlanAt.fr {h h' : AH} {i l : Int} {D : LaS} {E : LaY} {ru : RU} {sr cs : Int} {wf : Option Nm} {kf bf lf wl : Int → Int} (q : ∀ q : Nat, 50 ≤ q → q ≤ 56 → h' (q, i) = h (q, i)) (hP : PlanAt h i l D E ru sr cs wf kf bf lf wl) : PlanAt h' i l D E ru sr cs wf kf bf lf wl := by
  obtain ⟨h1, h2, h3, h4, h5, ⟨af, h6⟩, h7⟩ := hP
  exact ⟨(q 50 (by omega) (by omega)).trans h1, (q 51 (by omega) (by omega)).trans h2, (q 52 (by omega) (by omega)).trans h3, (q 54 (by omega) (by omega)).trans h4, (q 55 (by omega) (by omega)).trans h5, ⟨af, (q 56 (by omega) (by omega)).trans h6⟩, h7⟩
theorem PlanW.fr {h h' : AH} {i : Int} {D : LaS} {E : LaY} {ru : RU} {sr cs : Int} {wf : Option Nm} {wl lf : Int → Int} (q : h' (53, i) = h (53, i)) (hW : PlanW h i D E ru sr cs wf wl lf) : PlanW h' i D E ru sr cs wf wl lf := by
  unfold PlanW at hW ⊢
  rw [q]
  exact hW
theorem PlanW.mono {h : AH} {i : Int} {D : LaS} {E : LaY} {ru : RU} {sr cs : Int} {wf : Option Nm} {wl lf lf' : Int → Int} (q : ∀ t : Int, 0 ≤ t → t < lSe D → lf t ≤ lf' t) (hW : PlanW h i D E ru sr cs wf wl lf) : PlanW h i D E ru sr cs wf wl lf' := by
  rcases hW with ⟨h1, h2, h3⟩ | ⟨h1, vf, h2, h3⟩
  · refine Or.inl ⟨h1, h2, fun t z0 z1 => ?_⟩
    have := h3 t z0 z1
    have := q t z0 z1
    omega
  · refine Or.inr ⟨h1, vf, h2, fun t z0 z1 => ?_⟩
    obtain ⟨a1, a2, a3⟩ := h3 t z0 z1
    have := q t z0 z1
    exact ⟨a1, by omega, a3⟩
theorem PlnHas.fr {h h' : AH} {l : Int} {D : LaS} {E : LaY} {ru : RU} {j cs : Int} {wf : Option Nm} {kf bf lf wl : Int → Int} (q : ∀ q : Nat, 50 ≤ q → q ≤ 56 → h' (q, 6 * l + j) = h (q, 6 * l + j)) (hP : PlnHas h l D E ru j cs wf kf bf lf wl) : PlnHas h' l D E ru j cs wf kf bf lf wl := by
  obtain ⟨h1, h2, h3, h4, h5⟩ := hP
  exact ⟨h1, h2, h3, h4.fr q, h5.fr (q 53 (by omega) (by omega))⟩
theorem PlnIn.fr {h h' : AH} {l : Int} {D : LaS} {E : LaY} {ru : RU} {j : Int} {o : Option Nm} (q : ∀ q : Nat, 50 ≤ q → q ≤ 56 → h' (q, 6 * l + j) = h (q, 6 * l + j)) (hP : PlnIn h l D E ru j o) : PlnIn h' l D E ru j o := by
  rcases hP with ⟨h1, h2⟩ | ⟨h1, cs, wf, kf, bf, lf, wl, h2⟩
  · exact Or.inl ⟨h1, fun n a b => (q n a b).trans (h2 n a b)⟩
  · exact Or.inr ⟨h1, cs, wf, kf, bf, lf, wl, h2.fr q⟩
theorem LandX.fr {h h' : AH} {l : Int} {D : LaS} {E : LaY} {ru : RU} {j : Int} {pl : Int → Option Nm} (q : ∀ z : Nm, ((30 ≤ z.1 ∧ z.1 ≤ 40 ∧ z.2 = l) ∨ (50 ≤ z.1 ∧ z.1 ≤ 56 ∧ 6 * l ≤ z.2 ∧ z.2 ≤ 6 * l + 5 ∧ z.2 ≠ 6 * l + j)) → h' z = h z) (hX : LandX h l D E ru j pl) : LandX h' l D E ru j pl := by
  obtain ⟨h1, h2, h3⟩ := hX
  refine ⟨h1.fr fun n a b => q (n, l) (Or.inl ⟨a, b, rfl⟩), h2, fun j' a b c => (h3 j' a b c).fr fun n e f => q (n, 6 * l + j') (Or.inr ⟨e, f, ?_, ?_, ?_⟩)⟩
  · show 6 * l ≤ 6 * l + j'; omega
  · show 6 * l + j' ≤ 6 * l + 5; omega
  · show 6 * l + j' ≠ 6 * l + j; omega
theorem LandX.join {h : AH} {l : Int} {D : LaS} {E : LaY} {ru : RU} {j cs : Int} {pl : Int → Option Nm} {wf : Option Nm} {kf bf lf wl : Int → Int} (hX : LandX h l D E ru j pl) (hP : PlnHas h l D E ru j cs wf kf bf lf wl) : LandP h l D E ru := by
  refine ⟨pl, hX.1, fun j' a b => ?_⟩
  by_cases e : j' = j
  · subst e
    exact Or.inr ⟨hX.2.1, cs, wf, kf, bf, lf, wl, hP⟩
  · exact hX.2.2 j' a b e
theorem LandP.fr {h h' : AH} {l : Int} {D : LaS} {E : LaY} {ru : RU} (q : ∀ z : Nm, ((30 ≤ z.1 ∧ z.1 ≤ 40 ∧ z.2 = l) ∨ (50 ≤ z.1 ∧ z.1 ≤ 56 ∧ 6 * l ≤ z.2 ∧ z.2 ≤ 6 * l + 5)) → h' z = h z) (hX : LandP h l D E ru) : LandP h' l D E ru := by
  obtain ⟨pl, h1, h3⟩ := hX
  refine ⟨pl, h1.fr fun n a b => q (n, l) (Or.inl ⟨a, b, rfl⟩), fun j' a b => (h3 j' a b).fr fun n e f => q (n, 6 * l + j') (Or.inr ⟨e, f, ?_, ?_⟩)⟩
  · show 6 * l ≤ 6 * l + j'; omega
  · show 6 * l + j' ≤ 6 * l + 5; omega
theorem LandAt.pl {h h' : AH} {l : Int} {D : LaS} {E : LaY} {pl pl' : Int → Option Nm} (hL : LandAt h l D E pl) (h4 : h' (40, l) = some (oA 6 6 pl')) (hq : ∀ j : Nat, 30 ≤ j → j ≤ 39 → h' (j, l) = h (j, l)) : LandAt h' l D E pl' := by
  obtain ⟨g30, g31, g32, g33, g34, g35, g36, g37, g38, g39, g40⟩ := hL
  refine ⟨(hq 30 (by omega) (by omega)).trans g30, (hq 31 (by omega) (by omega)).trans g31, (hq 32 (by omega) (by omega)).trans g32, (hq 33 (by omega) (by omega)).trans g33, (hq 34 (by omega) (by omega)).trans g34, (hq 35 (by omega) (by omega)).trans g35, (hq 36 (by omega) (by omega)).trans g36, ?_, ?_, ?_, h4⟩
  · rw [hq 37 (by omega) (by omega)]; exact g37
  · rw [hq 38 (by omega) (by omega)]; exact g38
  · rw [hq 39 (by omega) (by omega)]; exact g39
set_option maxRecDepth 100000 in
set_option maxHeartbeats 4000000 in
theorem ev_X0_planOf {k : WC} {d : Nat} {h : AH} {l : Int} {D : LaS} {E : LaY} {ru : RU} {sr : Int} (hsr0 : 0 ≤ sr) (hsr1 : sr ≤ 4) (hd : 3 ≤ d) (hD : LOK D) (hLP : LandP h l D E ru) : Ev k d mdX0_planOf h [vR (30, l), vI sr] 6 3975 (pe fun v h' => v = vR (50, 6 * l + sr) ∧ ∃ (pl' : Int → Option Nm) (cs : Int) (wf : Option Nm) (kf bf lf wl : Int → Int), LandX h' l D E ru sr pl' ∧ PlnHas h' l D E ru sr cs wf kf bf lf wl ∧ Fr (isSl l sr) h h') := by
  obtain ⟨pl, hL, hpl⟩ := hLP
  have d3 := hD.2.2.1
  have d4 := hD.2.2.2.1
  refine Ev.mk (by decide +kernel) [_, _] rfl (Nat.le_of_ble_eq_true rfl) (fun w hc he => ?_)
  rcases hpl (sr) (by omega) (by omega) with ⟨zo, zf⟩ | ⟨zo, cs, wf, kf, bf, lf, wl, zH⟩
  · skip
    refine j_aload_n hc dX0_planOf_0 rfl ?_
    refine j_get hc dX0_planOf_1 fX0_77 hL.1 rfl ?_
    refine j_iload_n hc dX0_planOf_4 rfl ?_
    refine j_aald hc dX0_planOf_5 hL.2.2.2.2.2.2.2.2.2.2 (by decide) (by decide) (by omega) (by omega) ?_
    refine j_ifnonnull (tgt := 24) hc dX0_planOf_6 (by decide) (fun zc1 => ?_) (fun zc1 => ?_)
    · exact absurd zo zc1
    · refine j_aload_n hc dX0_planOf_9 rfl ?_
      refine j_get hc dX0_planOf_10 fX0_77 hL.1 rfl ?_
      refine j_iload_n hc dX0_planOf_13 rfl ?_
      refine j_newq (nm := (50, 6 * l + sr)) (zq := 10) rfl hc dX0_planOf_14 wX0_75 (zf 50 (by omega) (by omega)) (by omega) (by omega) ?_
      generalize ezh1 : up _ _ _ = zh1
      have zzland_zh1 := LandAt.mv ezh1 (by simp) hL
      have zF51_zh1 := (congrFun ezh1 _).symm.trans ((up_ne (by simp)).trans (zf 51 (by omega) (by omega)))
      have zF52_zh1 := (congrFun ezh1 _).symm.trans ((up_ne (by simp)).trans (zf 52 (by omega) (by omega)))
      have zF54_zh1 := (congrFun ezh1 _).symm.trans ((up_ne (by simp)).trans (zf 54 (by omega) (by omega)))
      have zF55_zh1 := (congrFun ezh1 _).symm.trans ((up_ne (by simp)).trans (zf 55 (by omega) (by omega)))
      have zF56_zh1 := (congrFun ezh1 _).symm.trans ((up_ne (by simp)).trans (zf 56 (by omega) (by omega)))
      have zP_zh1 := (congrFun ezh1 _).symm.trans (up_same _ _ _)
      refine j_dup hc dX0_planOf_17 rfl ?_
      refine j_aload_n hc dX0_planOf_18 rfl ?_
      refine j_iload_n hc dX0_planOf_19 rfl ?_
      refine j_callI (d' := d - 1) hc dX0_planOf_20 iX0_110 (ev_X2_init (E := E) (ru := ru) (by omega) zzland_zh1 hD zP_zh1 zF51_zh1 zF52_zh1 zF54_zh1 zF55_zh1 zF56_zh1 hsr0 hsr1) rfl (by omega) (by omega) (by omega) rfl rfl (Nat.le_of_ble_eq_true rfl) (retN fun zq20 zp20 => ?_)
      obtain ⟨zP2, zF2⟩ := zp20
      have zL2 := LandAt.fr (fun j z0 z1 => zF2 (j, l) (fun zz => by obtain ⟨zz, -⟩ := zz; simp at zz; omega)) zzland_zh1
      refine j_aast hc dX0_planOf_23 zL2.2.2.2.2.2.2.2.2.2.2 (by decide) (by decide) rfl rfl zP2.1 (by omega) (by omega) ?_
      generalize ezh2 : up _ _ _ = zh2
      have zL_zh2 := (congrFun ezh2 _).symm.trans ((up_ne (by simp)).trans zL2.1)
      have zL40_zh2 := (congrFun ezh2 _).symm.trans (up_same _ _ _)
      have zP_zh2 := (congrFun ezh2 _).symm.trans ((up_ne (by simp)).trans zP2.1)
      refine j_aload_n hc dX0_planOf_24 rfl ?_
      refine j_get hc dX0_planOf_25 fX0_77 zL_zh2 rfl ?_
      refine j_iload_n hc dX0_planOf_28 rfl ?_
      refine j_aald hc dX0_planOf_29 zL40_zh2 (by decide) (by decide) (by omega) (by omega) ?_
      exact j_aret hc he dX0_planOf_30 rfl (by first | exact Or.inl ⟨_, rfl⟩ | exact Or.inr ⟨_, rfl⟩) (by omega) (by omega) (by
        have zz : ∀ z : Nm, ¬ isSl l (sr) z → zh2 z = h z := fun z zn => by
          rw [← ezh2, up_ne (fun e => zn (Or.inl e)), zF2 z (fun e => zn (Or.inr ⟨e.1, e.2.1, e.2.2.2⟩)), ← ezh1, up_ne (fun e => zn (Or.inr (by rw [e]; simp)))]
        have zp : ∀ z : Nm, z ≠ (40, l) → zh2 z = zq20 z := fun z zn => by rw [← ezh2, up_ne zn]
        have z53 : zq20 (53, 6 * l + sr) = none := by
          rw [zF2 (53, 6 * l + sr) (by simp), ← ezh1, up_ne (by simp)]
          exact zf 53 (by omega) (by omega)
        have zL3 := zL2.pl zL40_zh2 (fun j a b => zp (j, l) (by simp; omega))
        refine ⟨_, rfl, by rw [ru_same], _, lCo D, none, fun _ => 0, fun _ => 0, fun _ => 0, fun _ => 0, ⟨zL3, ru_same _ _ _, fun j' a b c => ?_⟩, ⟨d3, d4, fun _ => rfl, ?_, Or.inl ⟨rfl, ?_, fun t _ _ => ⟨rfl, Int.le_refl 0⟩⟩⟩, zz⟩
        · rw [ru_ne c]
          exact (hpl j' a b).fr fun n e f => zz _ (fun y => by
            rcases y with y | y
            · simp at y; omega
            · have := y.2.2; simp at this; omega)
        · rw [show srj (sr) = sr by unfold srj; rw [if_neg (by omega)]]
          exact zP2.fr fun n a b => zp _ (by simp; omega)
        · rw [zp _ (by simp)]
          exact z53)
  · skip
    refine j_aload_n hc dX0_planOf_0 rfl ?_
    refine j_get hc dX0_planOf_1 fX0_77 hL.1 rfl ?_
    refine j_iload_n hc dX0_planOf_4 rfl ?_
    refine j_aald hc dX0_planOf_5 hL.2.2.2.2.2.2.2.2.2.2 (by decide) (by decide) (by omega) (by omega) ?_
    refine j_ifnonnull (tgt := 24) hc dX0_planOf_6 (by decide) (fun zc1 => ?_) (fun zc1 => ?_)
    · refine j_aload_n hc dX0_planOf_24 rfl ?_
      refine j_get hc dX0_planOf_25 fX0_77 hL.1 rfl ?_
      refine j_iload_n hc dX0_planOf_28 rfl ?_
      refine j_aald hc dX0_planOf_29 hL.2.2.2.2.2.2.2.2.2.2 (by decide) (by decide) (by omega) (by omega) ?_
      exact j_aret hc he dX0_planOf_30 rfl (by first | exact Or.inl ⟨_, rfl⟩ | exact Or.inr ⟨_, rfl⟩) (by omega) (by omega) ⟨_, rfl, by rw [zo], pl, cs, wf, kf, bf, lf, wl, ⟨hL, zo, fun j' a b _ => hpl j' a b⟩, zH, Fr.rf _ _⟩
    · exact absurd zo (by rw [zc1]; simp)
set_option maxRecDepth 100000 in
set_option maxHeartbeats 4000000 in
theorem ev_X0_probePlan {k : WC} {d : Nat} {h : AH} {l : Int} {D : LaS} {E : LaY} {ru : RU} (hd : 3 ≤ d) (hD : LOK D) (hLP : LandP h l D E ru) : Ev k d mdX0_probePlan h [vR (30, l)] 6 3975 (pe fun v h' => v = vR (50, 6 * l + 5) ∧ ∃ (pl' : Int → Option Nm) (cs : Int) (wf : Option Nm) (kf bf lf wl : Int → Int), LandX h' l D E ru 5 pl' ∧ PlnHas h' l D E ru 5 cs wf kf bf lf wl ∧ Fr (isSl l 5) h h') := by
  obtain ⟨pl, hL, hpl⟩ := hLP
  have d3 := hD.2.2.1
  have d4 := hD.2.2.2.1
  refine Ev.mk (by decide +kernel) [_] rfl (Nat.le_of_ble_eq_true rfl) (fun w hc he => ?_)
  rcases hpl (5) (by omega) (by omega) with ⟨zo, zf⟩ | ⟨zo, cs, wf, kf, bf, lf, wl, zH⟩
  · skip
    refine j_aload_n hc dX0_probePlan_0 rfl ?_
    refine j_get hc dX0_probePlan_1 fX0_77 hL.1 rfl ?_
    refine j_iconst hc dX0_probePlan_4 ?_
    refine j_aald hc dX0_probePlan_5 hL.2.2.2.2.2.2.2.2.2.2 (by decide) (by decide) (by omega) (by omega) ?_
    refine j_ifnonnull (tgt := 24) hc dX0_probePlan_6 (by decide) (fun zc1 => ?_) (fun zc1 => ?_)
    · exact absurd zo zc1
    · refine j_aload_n hc dX0_probePlan_9 rfl ?_
      refine j_get hc dX0_probePlan_10 fX0_77 hL.1 rfl ?_
      refine j_iconst hc dX0_probePlan_13 ?_
      refine j_newq (nm := (50, 6 * l + 5)) (zq := 10) rfl hc dX0_probePlan_14 wX0_75 (zf 50 (by omega) (by omega)) (by omega) (by omega) ?_
      generalize ezh1 : up _ _ _ = zh1
      have zzland_zh1 := LandAt.mv ezh1 (by simp) hL
      have zF51_zh1 := (congrFun ezh1 _).symm.trans ((up_ne (by simp)).trans (zf 51 (by omega) (by omega)))
      have zF52_zh1 := (congrFun ezh1 _).symm.trans ((up_ne (by simp)).trans (zf 52 (by omega) (by omega)))
      have zF54_zh1 := (congrFun ezh1 _).symm.trans ((up_ne (by simp)).trans (zf 54 (by omega) (by omega)))
      have zF55_zh1 := (congrFun ezh1 _).symm.trans ((up_ne (by simp)).trans (zf 55 (by omega) (by omega)))
      have zF56_zh1 := (congrFun ezh1 _).symm.trans ((up_ne (by simp)).trans (zf 56 (by omega) (by omega)))
      have zP_zh1 := (congrFun ezh1 _).symm.trans (up_same _ _ _)
      refine j_dup hc dX0_probePlan_17 rfl ?_
      refine j_aload_n hc dX0_probePlan_18 rfl ?_
      refine j_iconst hc dX0_probePlan_19 ?_
      refine j_callI (d' := d - 1) hc dX0_probePlan_20 iX0_110 (ev_X2_init (E := E) (ru := ru) (by omega) zzland_zh1 hD zP_zh1 zF51_zh1 zF52_zh1 zF54_zh1 zF55_zh1 zF56_zh1 (by omega) (by omega)) rfl (by omega) (by omega) (by omega) rfl rfl (Nat.le_of_ble_eq_true rfl) (retN fun zq20 zp20 => ?_)
      obtain ⟨zP2, zF2⟩ := zp20
      have zL2 := LandAt.fr (fun j z0 z1 => zF2 (j, l) (fun zz => by obtain ⟨zz, -⟩ := zz; simp at zz; omega)) zzland_zh1
      refine j_aast hc dX0_probePlan_23 zL2.2.2.2.2.2.2.2.2.2.2 (by decide) (by decide) rfl rfl zP2.1 (by omega) (by omega) ?_
      generalize ezh2 : up _ _ _ = zh2
      have zL_zh2 := (congrFun ezh2 _).symm.trans ((up_ne (by simp)).trans zL2.1)
      have zL40_zh2 := (congrFun ezh2 _).symm.trans (up_same _ _ _)
      have zP_zh2 := (congrFun ezh2 _).symm.trans ((up_ne (by simp)).trans zP2.1)
      refine j_aload_n hc dX0_probePlan_24 rfl ?_
      refine j_get hc dX0_probePlan_25 fX0_77 zL_zh2 rfl ?_
      refine j_iconst hc dX0_probePlan_28 ?_
      refine j_aald hc dX0_probePlan_29 zL40_zh2 (by decide) (by decide) (by omega) (by omega) ?_
      exact j_aret hc he dX0_probePlan_30 rfl (by first | exact Or.inl ⟨_, rfl⟩ | exact Or.inr ⟨_, rfl⟩) (by omega) (by omega) (by
        have zz : ∀ z : Nm, ¬ isSl l (5) z → zh2 z = h z := fun z zn => by
          rw [← ezh2, up_ne (fun e => zn (Or.inl e)), zF2 z (fun e => zn (Or.inr ⟨e.1, e.2.1, e.2.2.2⟩)), ← ezh1, up_ne (fun e => zn (Or.inr (by rw [e]; simp)))]
        have zp : ∀ z : Nm, z ≠ (40, l) → zh2 z = zq20 z := fun z zn => by rw [← ezh2, up_ne zn]
        have z53 : zq20 (53, 6 * l + 5) = none := by
          rw [zF2 (53, 6 * l + 5) (by simp), ← ezh1, up_ne (by simp)]
          exact zf 53 (by omega) (by omega)
        have zL3 := zL2.pl zL40_zh2 (fun j a b => zp (j, l) (by simp; omega))
        refine ⟨_, rfl, by rw [ru_same], _, lCo D, none, fun _ => 0, fun _ => 0, fun _ => 0, fun _ => 0, ⟨zL3, ru_same _ _ _, fun j' a b c => ?_⟩, ⟨d3, d4, fun _ => rfl, ?_, Or.inl ⟨rfl, ?_, fun t _ _ => ⟨rfl, Int.le_refl 0⟩⟩⟩, zz⟩
        · rw [ru_ne c]
          exact (hpl j' a b).fr fun n e f => zz _ (fun y => by
            rcases y with y | y
            · simp at y; omega
            · have := y.2.2; simp at this; omega)
        · rw [show srj (5) = 1 by decide]
          exact zP2.fr fun n a b => zp _ (by simp; omega)
        · rw [zp _ (by simp)]
          exact z53)
  · skip
    refine j_aload_n hc dX0_probePlan_0 rfl ?_
    refine j_get hc dX0_probePlan_1 fX0_77 hL.1 rfl ?_
    refine j_iconst hc dX0_probePlan_4 ?_
    refine j_aald hc dX0_probePlan_5 hL.2.2.2.2.2.2.2.2.2.2 (by decide) (by decide) (by omega) (by omega) ?_
    refine j_ifnonnull (tgt := 24) hc dX0_probePlan_6 (by decide) (fun zc1 => ?_) (fun zc1 => ?_)
    · refine j_aload_n hc dX0_probePlan_24 rfl ?_
      refine j_get hc dX0_probePlan_25 fX0_77 hL.1 rfl ?_
      refine j_iconst hc dX0_probePlan_28 ?_
      refine j_aald hc dX0_probePlan_29 hL.2.2.2.2.2.2.2.2.2.2 (by decide) (by decide) (by omega) (by omega) ?_
      exact j_aret hc he dX0_probePlan_30 rfl (by first | exact Or.inl ⟨_, rfl⟩ | exact Or.inr ⟨_, rfl⟩) (by omega) (by omega) ⟨_, rfl, by rw [zo], pl, cs, wf, kf, bf, lf, wl, ⟨hL, zo, fun j' a b _ => hpl j' a b⟩, zH, Fr.rf _ _⟩
    · exact absurd zo (by rw [zc1]; simp)
theorem PlnHas.forget {h h' : AH} {l : Int} {D : LaS} (hD : LOK D) {E E' : LaY} {ru ru' : RU} {j cs : Int} {wf : Option Nm} {kf bf lf wl lf' wl' : Int → Int} (hP : PlnHas h l D E ru j cs wf kf bf lf wl) (h4 : h' (54, 6 * l + j) = some (oI 4 lf')) (h5 : h' (55, 6 * l + j) = some (oI 4 wl')) (q4 : ∀ t : Int, 0 ≤ t → t < 4 → lf' t = 0) (q5 : ∀ t : Int, 0 ≤ t → t < 4 → wl' t = 0) (hq : ∀ q : Nat, q ≠ 54 → q ≠ 55 → h' (q, 6 * l + j) = h (q, 6 * l + j)) : PlnHas h' l D E' ru' j cs wf kf bf lf' wl' := by
  have d2 := hD.2.1
  obtain ⟨h1, h2, h3, ⟨a1, a2, a3, a4, a5, ⟨af, a6⟩, a7⟩, hW⟩ := hP
  refine ⟨h1, h2, h3, ⟨(hq 50 (by omega) (by omega)).trans a1, (hq 51 (by omega) (by omega)).trans a2, (hq 52 (by omega) (by omega)).trans a3, h4, h5, ⟨af, (hq 56 (by omega) (by omega)).trans a6⟩, a7.zero hD q4⟩, ?_⟩
  rcases hW with ⟨b1, b2, b3⟩ | ⟨b1, vf, b2, b3⟩
  · exact Or.inl ⟨b1, (hq 53 (by omega) (by omega)).trans b2, fun t z0 z1 => ⟨q5 t z0 (by omega), by rw [q4 t z0 (by omega)]; omega⟩⟩
  · refine Or.inr ⟨b1, vf, (hq 53 (by omega) (by omega)).trans b2, fun t z0 z1 => ?_⟩
    rw [q5 t z0 (by omega), q4 t z0 (by omega)]
    exact ⟨by omega, by omega, fun n n1 n2 => by omega⟩
set_option maxRecDepth 100000 in
set_option maxHeartbeats 4000000 in
theorem lp_X0_forgetPlans {k : WC} {d : Nat} {w : MC} {h : AH} {l : Int} {D : LaS} {E E0 : LaY} {ru ru0 : RU} {pl : Int → Option Nm} (hd : 3 ≤ d) (hD : LOK D) (hc : Cx w k d 0 0 mdX0_forgetPlans) (he : Ends w 0 0 (pn fun h' => LandAt h' l D E pl ∧ (∀ j : Int, 0 ≤ j → j ≤ 5 → PlnIn h' l D E ru j (pl j)) ∧ Fr (fun z => (z.1 = 54 ∨ z.1 = 55) ∧ 6 * l ≤ z.2 ∧ z.2 ≤ 6 * l + 5) h h')) : ∀ (zm : Nat) (j : Int) (h' : AH), (6 - j).toNat = zm → 0 ≤ j → j ≤ 6 → LandAt h' l D E pl → (∀ j' : Int, 0 ≤ j' → j' < j → PlnIn h' l D E ru j' (pl j')) → (∀ j' : Int, j ≤ j' → j' ≤ 5 → PlnIn h' l D E0 ru0 j' (pl j')) → Fr (fun z => (z.1 = 54 ∨ z.1 = 55) ∧ 6 * l ≤ z.2 ∧ z.2 ≤ 6 * l + 5) h h' → J w 0 0 2 [some (vR (30, l)), some (vI j)] [] h' := by
  intro zm
  induction zm using Nat.strongRecOn with
  | _ zm ih =>
    intro j h' hm hj0 hj1 hL hdone hrest hfr
    by_cases hj : j = 6
    · skip
      refine j_iload_n hc dX0_forgetPlans_2 rfl ?_
      refine j_aload_n hc dX0_forgetPlans_3 rfl ?_
      refine j_get hc dX0_forgetPlans_4 fX0_77 hL.1 rfl ?_
      refine j_alenA hc dX0_forgetPlans_7 hL.2.2.2.2.2.2.2.2.2.2 (by decide) (by decide) ?_
      refine j_icmp_ge (tgt := 35) hc dX0_forgetPlans_8 (by decide) ⟨by omega, by omega⟩ ⟨by omega, by omega⟩ (fun zc1 => ?_) (fun zc1 => ?_)
      · exact j_vret hc he dX0_forgetPlans_35 rfl (by omega) (by omega) ⟨rfl, hL, fun j' a b => hdone j' a (by omega), hfr⟩
      · exact absurd zc1 (by omega)
    rcases hrest j (by omega) (by omega) with ⟨zo, zf⟩ | ⟨zo, cs, wf, kf, bf, lf, wl, zH⟩
    · skip
      refine j_iload_n hc dX0_forgetPlans_2 rfl ?_
      refine j_aload_n hc dX0_forgetPlans_3 rfl ?_
      refine j_get hc dX0_forgetPlans_4 fX0_77 hL.1 rfl ?_
      refine j_alenA hc dX0_forgetPlans_7 hL.2.2.2.2.2.2.2.2.2.2 (by decide) (by decide) ?_
      refine j_icmp_ge (tgt := 35) hc dX0_forgetPlans_8 (by decide) ⟨by omega, by omega⟩ ⟨by omega, by omega⟩ (fun zc1 => ?_) (fun zc1 => ?_)
      · exact j_vret hc he dX0_forgetPlans_35 rfl (by omega) (by omega) ⟨rfl, hL, fun j' a b => hdone j' a (by omega), hfr⟩
      · refine j_aload_n hc dX0_forgetPlans_11 rfl ?_
        refine j_get hc dX0_forgetPlans_12 fX0_77 hL.1 rfl ?_
        refine j_iload_n hc dX0_forgetPlans_15 rfl ?_
        refine j_aald hc dX0_forgetPlans_16 hL.2.2.2.2.2.2.2.2.2.2 (by decide) (by decide) (by omega) (by omega) ?_
        refine j_ifnull (tgt := 29) hc dX0_forgetPlans_17 (by decide) (fun zc2 => ?_) (fun zc2 => ?_)
        · refine j_iinc (L' := [_, _]) hc dX0_forgetPlans_29 rfl (Nat.le_of_ble_eq_true rfl) rfl ?_
          refine j_goto (tgt := 2) hc dX0_forgetPlans_32 (by decide) ?_
          exact ih _ (by omega) (j + 1) _ rfl (by omega) (by omega) hL (fun j' a b => by
            by_cases e : j' = j
            · rw [e]; exact Or.inl ⟨zo, zf⟩
            · exact hdone j' a (by omega)) (fun j' a b => hrest j' (by omega) b) hfr
        · exact absurd zo zc2
    · skip
      refine j_iload_n hc dX0_forgetPlans_2 rfl ?_
      refine j_aload_n hc dX0_forgetPlans_3 rfl ?_
      refine j_get hc dX0_forgetPlans_4 fX0_77 hL.1 rfl ?_
      refine j_alenA hc dX0_forgetPlans_7 hL.2.2.2.2.2.2.2.2.2.2 (by decide) (by decide) ?_
      refine j_icmp_ge (tgt := 35) hc dX0_forgetPlans_8 (by decide) ⟨by omega, by omega⟩ ⟨by omega, by omega⟩ (fun zc1 => ?_) (fun zc1 => ?_)
      · exact j_vret hc he dX0_forgetPlans_35 rfl (by omega) (by omega) ⟨rfl, hL, fun j' a b => hdone j' a (by omega), hfr⟩
      · refine j_aload_n hc dX0_forgetPlans_11 rfl ?_
        refine j_get hc dX0_forgetPlans_12 fX0_77 hL.1 rfl ?_
        refine j_iload_n hc dX0_forgetPlans_15 rfl ?_
        refine j_aald hc dX0_forgetPlans_16 hL.2.2.2.2.2.2.2.2.2.2 (by decide) (by decide) (by omega) (by omega) ?_
        refine j_ifnull (tgt := 29) hc dX0_forgetPlans_17 (by decide) (fun zc2 => ?_) (fun zc2 => ?_)
        · exact absurd zo (by rw [zc2]; simp)
        · refine j_aload_n hc dX0_forgetPlans_20 rfl ?_
          refine j_get hc dX0_forgetPlans_21 fX0_77 hL.1 rfl ?_
          refine j_iload_n hc dX0_forgetPlans_24 rfl ?_
          refine j_aald hc dX0_forgetPlans_25 hL.2.2.2.2.2.2.2.2.2.2 (by decide) (by decide) (by omega) (by omega) ?_
          rw [zo]
          refine j_callV (d' := d - 1) hc dX0_forgetPlans_26 vX0_113 zH.2.2.2.1.1 (ev_X2_forget (by omega) zH.2.2.2.1.1 zH.2.2.2.1.2.2.2.1 zH.2.2.2.1.2.2.2.2.1) rfl (by omega) (by omega) (by omega) rfl rfl (Nat.le_of_ble_eq_true rfl) (retN fun zq26 zp26 => ?_)
          obtain ⟨zn50, ⟨lf', zn54, zl4⟩, ⟨wl', zn55, zl5⟩, zF2⟩ := zp26
          have zL2 := LandAt.fr (fun q z0 z1 => zF2 (q, l) (by simp; omega)) hL
          have zH2 := PlnHas.forget hD (E' := E) (ru' := ru) zH zn54 zn55 zl4 zl5 (fun q a b => zF2 (q, 6 * l + j) (by simp; omega))
          have zfr2 := hfr.tr (zF2.mono (fun z zz => (by rcases zz with zz | zz <;> (rw [zz]; simp; omega) : (z.1 = 54 ∨ z.1 = 55) ∧ 6 * l ≤ z.2 ∧ z.2 ≤ 6 * l + 5)))
          have zoth : ∀ j' : Int, j' ≠ j → ∀ q : Nat, 50 ≤ q → q ≤ 56 → zq26 (q, 6 * l + j') = h' (q, 6 * l + j') := fun j' e q _ _ => zF2 (q, 6 * l + j') (by simp; omega)
          refine j_iinc (L' := [_, _]) hc dX0_forgetPlans_29 rfl (Nat.le_of_ble_eq_true rfl) rfl ?_
          refine j_goto (tgt := 2) hc dX0_forgetPlans_32 (by decide) ?_
          exact ih _ (by omega) (j + 1) _ rfl (by omega) (by omega) zL2 (fun j' a b => by
            by_cases e : j' = j
            · rw [e]; exact Or.inr ⟨zo, _, _, _, _, _, _, zH2⟩
            · exact (hdone j' a (by omega)).fr (zoth j' e)) (fun j' a b => (hrest j' (by omega) b).fr (zoth j' (by omega))) zfr2
set_option maxRecDepth 100000 in
set_option maxHeartbeats 4000000 in
theorem ev_X0_forgetPlans {k : WC} {d : Nat} {h : AH} {l : Int} {D : LaS} {E E0 : LaY} {ru ru0 : RU} {pl : Int → Option Nm} (hd : 3 ≤ d) (hD : LOK D) (hL : LandAt h l D E pl) (hpl : ∀ j : Int, 0 ≤ j → j ≤ 5 → PlnIn h l D E0 ru0 j (pl j)) : Ev k d mdX0_forgetPlans h [vR (30, l)] 0 0 (pn fun h' => LandAt h' l D E pl ∧ (∀ j : Int, 0 ≤ j → j ≤ 5 → PlnIn h' l D E ru j (pl j)) ∧ Fr (fun z => (z.1 = 54 ∨ z.1 = 55) ∧ 6 * l ≤ z.2 ∧ z.2 ≤ 6 * l + 5) h h') := by
  refine Ev.mk (by decide +kernel) [_, _] rfl (Nat.le_of_ble_eq_true rfl) (fun w hc he => ?_)
  refine j_iconst hc dX0_forgetPlans_0 ?_
  refine j_istore_n (L' := [_, _]) hc dX0_forgetPlans_1 (Nat.le_of_ble_eq_true rfl) rfl ?_
  exact lp_X0_forgetPlans hd hD hc he _ 0 h rfl (by omega) (by omega) hL (fun j' a b => by omega) (fun j' a b => hpl j' (by omega) b) (Fr.rf _ _)
