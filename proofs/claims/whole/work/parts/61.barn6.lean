/-! ===== what changes the barn ===== -/
def fuL (f : Int → LaY) (i : Int) (v : LaY) : Int → LaY := fun x => if x = i then v else f x
def sE (S : BaS) (l : Int) (E : LaY) : BaS := (S.1, (bLc S, bD S, fuL (bE S) l E), S.2.2)
def sTp (S : BaS) (t : (Int → Int) × Int) : BaS := (t, S.2)
def fu2 (f : Int → Int → Int) (i : Int) (v : Int → Int) : Int → Int → Int := fun x => if x = i then v else f x
def sRw (S : BaS) (rw : Int → Int → Int) (rl : Int → Int) : BaS := (S.1, S.2.1, S.2.2.1, (rw, rl), S.2.2.2.2)
def sSt (S : BaS) (c : Int → Int) (t m p : Int) : BaS := (S.1, S.2.1, S.2.2.1, S.2.2.2.1, (c, t, m, p))
theorem fuL_same (f : Int → LaY) (i : Int) (v : LaY) : fuL f i v i = v := if_pos rfl
theorem fuL_ne {f : Int → LaY} {i j : Int} {v : LaY} (hn : j ≠ i) : fuL f i v j = f j := if_neg hn
/-- a land that is told otherwise -/
theorem BarnAt.land {h h' : AH} {S : BaS} {l : Int} {E' : LaY} (a : BarnAt h S) (l0 : 0 ≤ l) (l1 : l < bLc S) (hE : YOK E') (hr : yRn E' < bRc S) (ho : yOwn E' = owS E') (F : Fr (LdN l) h h') (hP : LandP h' l (bD S l) E' (ruQ (bR S) E')) : BarnAt h' (sE S l E') ∧ Fr isBa h h' := by
  obtain ⟨a1, a2, a3, a4, a5, k1, k2, k3, k4, k5, k6⟩ := a
  have q : ∀ z : Nm, z.1 < 30 → h' z = h z := fun z hz => F z fun y => by rcases y with y | y <;> omega
  refine ⟨⟨?_, a2.fr fun z hz => q z (by omega), a3.fr fun z hz => q z (by omega), a4.fr fun z hz => q z (by omega), ?_, k1, k2, k3, ?_, k5, k6⟩, F.mono fun z zz => by show z.1 < 70; rcases zz with y | y <;> omega⟩
  · exact BaC.fr (S := S) (fun z hz => q z (by omega)) a1
  · obtain ⟨b1, b2, b3, b4⟩ := a5
    refine ⟨fun l' m0 m1 => ?_, fun l' m0 m1 z hz => ?_, fun r r0 r1 => ?_, fun r r0 r1 j j0 j1 => ?_⟩
    · have m1 : l' < bLc S := m1
      show LandP h' l' (bD S l') (fuL (bE S) l E' l') (ruQ (bR S) (fuL (bE S) l E' l'))
      by_cases e : l' = l
      · rw [e, fuL_same]; exact hP
      · rw [fuL_ne e]
        refine (b1 l' m0 m1).fr fun z hz => F z fun y => ?_
        rcases hz with hz | hz <;> (rcases y with y | y <;> omega)
    · have m0 : bLc S ≤ l' := m0
      refine (F z fun y => ?_).trans (b2 l' m0 m1 z hz)
      rcases hz with hz | hz <;> (rcases y with y | y <;> omega)
    · exact (b3 r r0 r1).fr fun j j0 j1 => F _ fun y => by rcases y with y | y <;> (have := y.2.1; simp at this; omega)
    · exact (F _ fun y => by rcases y with y | y <;> (have := y.2.1; simp at this; omega)).trans (b4 r r0 r1 j j0 j1)
  · intro l' m0 m1
    have m1 : l' < bLc S := m1
    show LOK (bD S l') ∧ YOK (fuL (bE S) l E' l') ∧ yRn (fuL (bE S) l E' l') < bRc S ∧ yOwn (fuL (bE S) l E' l') = owS (fuL (bE S) l E' l')
    by_cases e : l' = l
    · rw [e, fuL_same]; exact ⟨(k4 l l0 l1).1, hE, hr, ho⟩
    · rw [fuL_ne e]; exact k4 l' m0 m1
theorem LandAt.obj {h h' : AH} {l : Int} {D : LaS} {E E' : LaY} {pl : Int → Option Nm} (hL : LandAt h l D E pl) (h3 : h' (30, l) = some (oO 0 (lF l D E'))) (h6 : h' (36, l) = some (oI 164 (yTab E'))) (hq : ∀ j : Nat, 31 ≤ j → j ≤ 40 → j ≠ 36 → h' (j, l) = h (j, l)) : LandAt h' l D E' pl := by
  obtain ⟨g30, g31, g32, g33, g34, g35, g36, g37, g38, g39, g40⟩ := hL
  refine ⟨h3, (hq 31 (by omega) (by omega) (by omega)).trans g31, (hq 32 (by omega) (by omega) (by omega)).trans g32, (hq 33 (by omega) (by omega) (by omega)).trans g33, (hq 34 (by omega) (by omega) (by omega)).trans g34, (hq 35 (by omega) (by omega) (by omega)).trans g35, h6, ?_, ?_, ?_, (hq 40 (by omega) (by omega) (by omega)).trans g40⟩
  · rw [hq 37 (by omega) (by omega) (by omega)]; exact g37
  · rw [hq 38 (by omega) (by omega) (by omega)]; exact g38
  · rw [hq 39 (by omega) (by omega) (by omega)]; exact g39
/-- plans do not hang on granary and table -/
theorem kpS_E {D : LaS} {E E' : LaY} {ru : RU} {cs sr n s a : Int} (h : yLaw E' = yLaw E) : kpS D E' ru cs sr n s a = kpS D E ru cs sr n s a := by
  have hm : moS D E' = moS D E := by unfold moS; rw [h]
  have hf : ∀ n, faM D E' n = faM D E n := fun n => by unfold faM; rw [hm]
  have hR : ∀ kf n s a, faR D E' cs kf n s a = faR D E cs kf n s a := fun kf n s a => by unfold faR; rw [hf]
  have hk : ∀ (m : Nat) (s a : Int), kaN D E' cs m s a = kaN D E cs m s a := fun m => by
    induction m with
    | zero => intro s a; unfold kaN; rw [hR]
    | succ m ih => intro s a; unfold kaN; rw [hR]; simp only [ih]
  have hb : ∀ (g : Int → Int) (m : Nat) (s a : Int), bvN D E' cs g m s a = bvN D E cs g m s a := fun g m => by
    induction m with
    | zero => intro s a; unfold bvN; rw [hf]
    | succ m ih => intro s a; unfold bvN; rw [hf]; simp only [ih]
  have hu : ∀ n s a, kuS D E' ru n s a = kuS D E ru n s a := fun n s a => by unfold kuS; rw [hm]
  unfold kpS
  rw [hk, hb, hu]
theorem bpS_E {D : LaS} {E E' : LaY} {cs sr n s a : Int} (h : yLaw E' = yLaw E) : bpS D E' cs sr n s a = bpS D E cs sr n s a := by
  have hm : moS D E' = moS D E := by unfold moS; rw [h]
  have hf : ∀ n, faM D E' n = faM D E n := fun n => by unfold faM; rw [hm]
  have hb : ∀ (g : Int → Int) (m : Nat) (s a : Int), bvN D E' cs g m s a = bvN D E cs g m s a := fun g m => by
    induction m with
    | zero => intro s a; unfold bvN; rw [hf]
    | succ m ih => intro s a; unfold bvN; rw [hf]; simp only [ih]
  unfold bpS
  rw [hb]
theorem weN_E {D : LaS} {E E' : LaY} {ru : RU} {cs sr : Int} (h : yLaw E' = yLaw E) : ∀ (m : Nat) (s a : Int), weN D E' ru cs sr m s a = weN D E ru cs sr m s a
  | 0, s, a => by unfold weN; rw [kpS_E h]
  | m + 1, s, a => by unfold weN; rw [kpS_E h]; simp only [weN_E h m]
theorem PlnIn.E {h : AH} {l : Int} {D : LaS} {E E' : LaY} {ru : RU} {j : Int} {o : Option Nm} (e : yLaw E' = yLaw E) (hP : PlnIn h l D E ru j o) : PlnIn h l D E' ru j o := by
  rcases hP with h1 | ⟨h1, cs, wf, kf, bf, lf, wl, c1, c2, c3, ⟨p1, p2, p3, p4, p5, p6, p7⟩, pw⟩
  · exact Or.inl h1
  · refine Or.inr ⟨h1, cs, wf, kf, bf, lf, wl, c1, c2, c3, ⟨p1, p2, p3, p4, p5, p6, p7.1, fun t t0 t1 => ?_⟩, ?_⟩
    · obtain ⟨q1, q2, q3⟩ := p7.2 t t0 t1
      refine ⟨q1, q2, fun n n0 n1 a a0 a1 => ?_⟩
      rw [kpS_E e, bpS_E e]
      exact q3 n n0 n1 a a0 a1
    · rcases pw with w1 | ⟨w1, vf, w2, w3⟩
      · exact Or.inl w1
      · refine Or.inr ⟨w1, vf, w2, fun t t0 t1 => ?_⟩
        obtain ⟨q1, q2, q3⟩ := w3 t t0 t1
        refine ⟨q1, q2, fun n n0 n1 a a0 a1 => ?_⟩
        rw [weN_E e]
        exact q3 n n0 n1 a a0 a1
def eLaw (E : LaY) (m : Int) : LaY := (m, yRn E, yOwn E, yBuy E, ySell E, yGr E, yTab E)
def eBy (E : LaY) (r : Int) : LaY := (yLaw E, r, if r = -1 then none else some (60, r), yBuy E, ySell E, yGr E, yTab E)
theorem eBy_p {E : LaY} {r : Int} (h : r = -1) : eBy E r = (yLaw E, r, none, yBuy E, ySell E, yGr E, yTab E) := by unfold eBy; rw [if_pos h]
theorem eBy_n {E : LaY} {r : Int} (h : ¬ r = -1) : eBy E r = (yLaw E, r, some (60, r), yBuy E, ySell E, yGr E, yTab E) := by unfold eBy; rw [if_neg h]
def eGr (E : LaY) (b s g : Int) : LaY := (yLaw E, yRn E, yOwn E, b, s, g, yTab E)
def eTab (E : LaY) (i x : Int) : LaY := (yLaw E, yRn E, yOwn E, yBuy E, ySell E, yGr E, fu (yTab E) i x)
/-- behind law and by: plans forgotten -/
theorem forgot {h h1 h2 : AH} {S : BaS} {l : Int} {E' : LaY} {pl : Int → Option Nm} (a : BarnAt h S) (l0 : 0 ≤ l) (l1 : l < bLc S) (hE : YOK E') (hr : yRn E' < bRc S) (ho : yOwn E' = owS E') (F1 : Fr (fun z => z = (30, l)) h h1) (hL : LandAt h2 l (bD S l) E' pl) (hpl : ∀ j : Int, 0 ≤ j → j ≤ 5 → PlnIn h2 l (bD S l) E' (ruQ (bR S) E') j (pl j)) (F2 : Fr (fun z => (z.1 = 54 ∨ z.1 = 55) ∧ 6 * l ≤ z.2 ∧ z.2 ≤ 6 * l + 5) h1 h2) : BarnAt h2 (sE S l E') ∧ Fr isBa h h2 :=
  a.land l0 l1 hE hr ho ((F1.mono fun z zz => Or.inl (by rw [zz]; simp)).tr (F2.mono fun z zz => Or.inr (by omega))) ⟨pl, hL, hpl⟩
set_option maxRecDepth 100000 in
set_option maxHeartbeats 4000000 in
theorem ev_X10_law_a {k : WC} {d : Nat} {h : AH} {S : BaS} {l x : Int} (hd : 6 ≤ d) (hB : BarnAt h S) (hil : inI l) (hix : inI x) : Ev k d mdX10_law h [vR (0, 0), vI l, vI x] 0 0 (pe fun v h' => (v = vI (if lnV S l ∧ 0 ≤ x ∧ x ≤ 20 then 1 else 0)) ∧ BarnAt h' (if lnV S l ∧ 0 ≤ x ∧ x ≤ 20 then sE S l (eLaw (bE S l) x) else S) ∧ Fr isBa h h') := by
  obtain ⟨⟨⟨zb0, zb11, zb12, zb13, zb14, zb141, zb15, zb18⟩, zTp, zRd⟩, zSp, zTw, zSt, zL, zK⟩ := id hB
  obtain ⟨zT1, ⟨zlc0, zlc1⟩, ⟨zrc0, zrc1⟩, zKl, zKr, zKw, ⟨zto0, zto1⟩, zse0, zse1⟩ := id zK
  by_cases hcs : lnV S l
  · skip
    have hv := hcs
    obtain ⟨hl0, hl1⟩ := id hcs
    obtain ⟨hD, hE, hyr, hyo⟩ := zKl l hl0 hl1
    obtain ⟨pl, hL, hpl⟩ := zL.1 l hl0 hl1
    have hd1 := hD.1
    have hd2 := hD.2.1
    obtain ⟨y1, y2, y3, y4, y5, y6, y7, y8, y9, y10⟩ := id hE
    refine Ev.mk (by decide +kernel) [_, _, _, _] rfl (Nat.le_of_ble_eq_true rfl) (fun w hc he => ?_)
    refine j_aload_n hc dX10_law_0 rfl ?_
    refine j_iload_n hc dX10_law_1 rfl ?_
    refine j_callV (d' := d - 1) hc dX10_law_2 vX10_115 zb0 (ev_X10_landAt_ok (by omega) hB hcs) rfl (by omega) (by omega) (by omega) rfl rfl (Nat.le_of_ble_eq_true rfl) (ret1 ?_)
    refine j_astore_n (L' := [_, _, _, _]) hc dX10_law_5 (Nat.le_of_ble_eq_true rfl) rfl ?_
    refine j_aload_n hc dX10_law_6 rfl ?_
    refine j_ifnull (tgt := 20) hc dX10_law_7 (by decide) (fun zc1 => ?_) (fun zc1 => ?_)
    · exact absurd zc1 (by simp)
    · refine j_iload_n hc dX10_law_10 rfl ?_
      refine j_iconst hc dX10_law_11 ?_
      refine j_bipush hc dX10_law_12 (by decide) ?_
      refine j_callS (d' := d - 1) hc dX10_law_14 sX10_90 (ev_X10_within (by omega) hix ⟨by omega, by omega⟩ ⟨by omega, by omega⟩) rfl (by omega) (by omega) (by omega) rfl rfl (Nat.le_of_ble_eq_true rfl) (ret1 ?_)
      refine j_if_ne (b := 0) (tgt := 22) hc dX10_law_17 (by decide) (by split <;> exact ⟨by omega, by omega⟩) (fun zc2 => ?_) (fun zc2 => ?_)
      · have zw : 0 ≤ x ∧ x ≤ 20 := one_pos zc2
        refine j_aload_n hc dX10_law_22 rfl ?_
        refine j_iload_n hc dX10_law_23 rfl ?_
        refine j_put (fs' := [_, _, _, _, _, _, _, _, _, _, _, _, _, _, _, _, _, _, _, _]) hc dX10_law_24 pX10_134 hL.1 rfl rfl ?_
        generalize ezh1 : up _ _ _ = zh1
        have zB_zh1 := (congrFun ezh1 _).symm.trans ((up_ne (by simp)).trans zb0)
        have zA11_zh1 := (congrFun ezh1 _).symm.trans ((up_ne (by simp)).trans zb11)
        have zA12_zh1 := (congrFun ezh1 _).symm.trans ((up_ne (by simp)).trans zb12)
        have zA13_zh1 := (congrFun ezh1 _).symm.trans ((up_ne (by simp)).trans zb13)
        have zA15_zh1 := (congrFun ezh1 _).symm.trans ((up_ne (by simp)).trans zb15)
        have zA18_zh1 := (congrFun ezh1 _).symm.trans ((up_ne (by simp)).trans zb18)
        have zT_zh1 := (congrFun ezh1 _).symm.trans ((up_ne (by simp)).trans zTp.1)
        have zT2_zh1 := (congrFun ezh1 _).symm.trans ((up_ne (by simp)).trans zTp.2)
        have zL_zh1 := (congrFun ezh1 _).symm.trans (up_same _ _ _)
        refine j_aload_n hc dX10_law_27 rfl ?_
        have zF6 : Fr (fun z => z = (30, l)) h zh1 := by rw [← ezh1]; exact (Fr.rf (fun z => z = (30, l)) _).push rfl
        have zLE : LandAt zh1 l (bD S l) (eLaw (bE S l) x) pl := LandAt.obj hL (by first | exact zL_zh1 | (rw [eBy_p (by omega)]; exact zL_zh1) | (rw [eBy_n (by omega)]; exact zL_zh1)) ((zF6 _ (by simp)).trans hL.2.2.2.2.2.2.1) (fun j j0 j1 j2 => zF6 _ (by simp; omega))
        have zpE : ∀ j : Int, 0 ≤ j → j ≤ 5 → PlnIn zh1 l (bD S l) (bE S l) (ruC S l) j (pl j) := fun j j0 j1 => (hpl j j0 j1).fr fun q q0 q1 => zF6 _ (by simp; omega)
        refine j_callV (d' := d - 1) hc dX10_law_28 vX10_170 zLE.1 (ev_X0_forgetPlans (ru := ruQ (bR S) (eLaw (bE S l) x)) (by omega) hD zLE zpE) rfl (by omega) (by omega) (by omega) rfl rfl (Nat.le_of_ble_eq_true rfl) (retN fun zq28 zp28 => ?_)
        obtain ⟨zL7, zp7, zF7⟩ := zp28
        refine j_iconst hc dX10_law_31 ?_
        exact j_zret hc he dX10_law_32 rfl (by omega) (by omega) (by first | exact Or.inl rfl | exact Or.inr rfl) ⟨_, rfl, by rw [if_pos ⟨hcs, zw⟩], by rw [if_pos ⟨hcs, zw⟩]; exact forgot hB hl0 hl1 ⟨zw.1, zw.2, y3, y4, y5, y6, y7, y8, y9, y10⟩ hyr hyo zF6 zL7 zp7 zF7⟩
      · have zw : ¬ (0 ≤ x ∧ x ≤ 20) := one_neg zc2
        refine j_iconst hc dX10_law_20 ?_
        exact j_zret hc he dX10_law_21 rfl (by omega) (by omega) (by first | exact Or.inl rfl | exact Or.inr rfl) ⟨_, rfl, by rw [if_neg (fun z => zw z.2)], by rw [if_neg (fun z => zw z.2)]; exact hB, Fr.rf _ _⟩
  · skip
    refine Ev.mk (by decide +kernel) [_, _, _, _] rfl (Nat.le_of_ble_eq_true rfl) (fun w hc he => ?_)
    refine j_aload_n hc dX10_law_0 rfl ?_
    refine j_iload_n hc dX10_law_1 rfl ?_
    refine j_callV (d' := d - 1) hc dX10_law_2 vX10_115 zb0 (ev_X10_landAt_no (by omega) hB hil hcs) rfl (by omega) (by omega) (by omega) rfl rfl (Nat.le_of_ble_eq_true rfl) (ret1 ?_)
    refine j_astore_n (L' := [_, _, _, _]) hc dX10_law_5 (Nat.le_of_ble_eq_true rfl) rfl ?_
    refine j_aload_n hc dX10_law_6 rfl ?_
    refine j_ifnull (tgt := 20) hc dX10_law_7 (by decide) (fun zc1 => ?_) (fun zc1 => ?_)
    · refine j_iconst hc dX10_law_20 ?_
      exact j_zret hc he dX10_law_21 rfl (by omega) (by omega) (by first | exact Or.inl rfl | exact Or.inr rfl) ⟨_, rfl, by rw [if_neg (fun z => hcs z.1)], by rw [if_neg (fun z => hcs z.1)]; exact hB, Fr.rf _ _⟩
    · exact absurd rfl zc1
set_option maxRecDepth 100000 in
set_option maxHeartbeats 4000000 in
theorem ev_X10_by_a {k : WC} {d : Nat} {h : AH} {S : BaS} {l r : Int} (hd : 6 ≤ d) (hB : BarnAt h S) (hil : inI l) (hix : inI r) : Ev k d mdX10_by h [vR (0, 0), vI l, vI r] 0 0 (pe fun v h' => (v = vI (if lnV S l ∧ -1 ≤ r ∧ r < bRc S then 1 else 0)) ∧ BarnAt h' (if lnV S l ∧ -1 ≤ r ∧ r < bRc S then sE S l (eBy (bE S l) r) else S) ∧ Fr isBa h h') := by
  obtain ⟨⟨⟨zb0, zb11, zb12, zb13, zb14, zb141, zb15, zb18⟩, zTp, zRd⟩, zSp, zTw, zSt, zL, zK⟩ := id hB
  obtain ⟨zT1, ⟨zlc0, zlc1⟩, ⟨zrc0, zrc1⟩, zKl, zKr, zKw, ⟨zto0, zto1⟩, zse0, zse1⟩ := id zK
  by_cases hcs : lnV S l
  · skip
    have hv := hcs
    obtain ⟨hl0, hl1⟩ := id hcs
    obtain ⟨hD, hE, hyr, hyo⟩ := zKl l hl0 hl1
    obtain ⟨pl, hL, hpl⟩ := zL.1 l hl0 hl1
    have hd1 := hD.1
    have hd2 := hD.2.1
    obtain ⟨y1, y2, y3, y4, y5, y6, y7, y8, y9, y10⟩ := id hE
    refine Ev.mk (by decide +kernel) [_, _, _, _] rfl (Nat.le_of_ble_eq_true rfl) (fun w hc he => ?_)
    refine j_aload_n hc dX10_by_0 rfl ?_
    refine j_iload_n hc dX10_by_1 rfl ?_
    refine j_callV (d' := d - 1) hc dX10_by_2 vX10_115 zb0 (ev_X10_landAt_ok (by omega) hB hcs) rfl (by omega) (by omega) (by omega) rfl rfl (Nat.le_of_ble_eq_true rfl) (ret1 ?_)
    refine j_astore_n (L' := [_, _, _, _]) hc dX10_by_5 (Nat.le_of_ble_eq_true rfl) rfl ?_
    refine j_aload_n hc dX10_by_6 rfl ?_
    refine j_ifnull (tgt := 24) hc dX10_by_7 (by decide) (fun zc1 => ?_) (fun zc1 => ?_)
    · exact absurd zc1 (by simp)
    · refine j_iload_n hc dX10_by_10 rfl ?_
      refine j_iconst hc dX10_by_11 ?_
      refine j_aload_n hc dX10_by_12 rfl ?_
      refine j_get hc dX10_by_13 fX10_105 zb0 rfl ?_
      refine j_iconst hc dX10_by_16 ?_
      refine j_isub hc dX10_by_17 ?_
      refine j_callS (d' := d - 1) hc dX10_by_18 sX10_90 (ev_X10_within (by omega) hix ⟨by omega, by omega⟩ ⟨by omega, by omega⟩) rfl (by omega) (by omega) (by omega) rfl rfl (Nat.le_of_ble_eq_true rfl) (ret1 ?_)
      refine j_if_ne (b := 0) (tgt := 26) hc dX10_by_21 (by decide) (by split <;> exact ⟨by omega, by omega⟩) (fun zc2 => ?_) (fun zc2 => ?_)
      · have zw : -1 ≤ r ∧ r < bRc S := ⟨(one_pos zc2).1, by have := (one_pos zc2).2; omega⟩
        refine j_aload_n hc dX10_by_26 rfl ?_
        refine j_iload_n hc dX10_by_27 rfl ?_
        refine j_put (fs' := [_, _, _, _, _, _, _, _, _, _, _, _, _, _, _, _, _, _, _, _]) hc dX10_by_28 pX10_137 hL.1 rfl rfl ?_
        generalize ezh1 : up _ _ _ = zh1
        have zB_zh1 := (congrFun ezh1 _).symm.trans ((up_ne (by simp)).trans zb0)
        have zA11_zh1 := (congrFun ezh1 _).symm.trans ((up_ne (by simp)).trans zb11)
        have zA12_zh1 := (congrFun ezh1 _).symm.trans ((up_ne (by simp)).trans zb12)
        have zA13_zh1 := (congrFun ezh1 _).symm.trans ((up_ne (by simp)).trans zb13)
        have zA15_zh1 := (congrFun ezh1 _).symm.trans ((up_ne (by simp)).trans zb15)
        have zA18_zh1 := (congrFun ezh1 _).symm.trans ((up_ne (by simp)).trans zb18)
        have zT_zh1 := (congrFun ezh1 _).symm.trans ((up_ne (by simp)).trans zTp.1)
        have zT2_zh1 := (congrFun ezh1 _).symm.trans ((up_ne (by simp)).trans zTp.2)
        have zL_zh1 := (congrFun ezh1 _).symm.trans (up_same _ _ _)
        refine j_aload_n hc dX10_by_31 rfl ?_
        refine j_iload_n hc dX10_by_32 rfl ?_
        refine j_iconst hc dX10_by_33 ?_
        refine j_icmp_ne (tgt := 41) hc dX10_by_34 (by decide) ⟨by omega, by omega⟩ ⟨by omega, by omega⟩ (fun zc3 => ?_) (fun zc3 => ?_)
        · refine j_aload_n hc dX10_by_41 rfl ?_
          refine j_get hc dX10_by_42 fX10_40 zB_zh1 rfl ?_
          refine j_iload_n hc dX10_by_45 rfl ?_
          refine j_aald hc dX10_by_46 zA12_zh1 (by decide) (by decide) (by omega) (by omega) ?_
          rw [show rnF (bRc S) r = some (60, r) from if_pos ⟨by omega, by omega⟩]
          refine j_put (fs' := [_, _, _, _, _, _, _, _, _, _, _, _, _, _, _, _, _, _, _, _]) hc dX10_by_47 pX10_173 zL_zh1 rfl rfl ?_
          generalize ezh2 : up _ _ _ = zh2
          have zB_zh2 := (congrFun ezh2 _).symm.trans ((up_ne (by simp)).trans zB_zh1)
          have zA11_zh2 := (congrFun ezh2 _).symm.trans ((up_ne (by simp)).trans zA11_zh1)
          have zA12_zh2 := (congrFun ezh2 _).symm.trans ((up_ne (by simp)).trans zA12_zh1)
          have zA13_zh2 := (congrFun ezh2 _).symm.trans ((up_ne (by simp)).trans zA13_zh1)
          have zA15_zh2 := (congrFun ezh2 _).symm.trans ((up_ne (by simp)).trans zA15_zh1)
          have zA18_zh2 := (congrFun ezh2 _).symm.trans ((up_ne (by simp)).trans zA18_zh1)
          have zT_zh2 := (congrFun ezh2 _).symm.trans ((up_ne (by simp)).trans zT_zh1)
          have zT2_zh2 := (congrFun ezh2 _).symm.trans ((up_ne (by simp)).trans zT2_zh1)
          have zL_zh2 := (congrFun ezh2 _).symm.trans (up_same _ _ _)
          refine j_aload_n hc dX10_by_50 rfl ?_
          have zF6 : Fr (fun z => z = (30, l)) h zh2 := by rw [← ezh2, ← ezh1]; exact ((Fr.rf (fun z => z = (30, l)) _).push rfl).push rfl
          have zLE : LandAt zh2 l (bD S l) (eBy (bE S l) r) pl := LandAt.obj hL (by first | exact zL_zh2 | (rw [eBy_p (by omega)]; exact zL_zh2) | (rw [eBy_n (by omega)]; exact zL_zh2)) ((zF6 _ (by simp)).trans hL.2.2.2.2.2.2.1) (fun j j0 j1 j2 => zF6 _ (by simp; omega))
          have zpE : ∀ j : Int, 0 ≤ j → j ≤ 5 → PlnIn zh2 l (bD S l) (bE S l) (ruC S l) j (pl j) := fun j j0 j1 => (hpl j j0 j1).fr fun q q0 q1 => zF6 _ (by simp; omega)
          refine j_callV (d' := d - 1) hc dX10_by_51 vX10_170 zLE.1 (ev_X0_forgetPlans (ru := ruQ (bR S) (eBy (bE S l) r)) (by omega) hD zLE zpE) rfl (by omega) (by omega) (by omega) rfl rfl (Nat.le_of_ble_eq_true rfl) (retN fun zq51 zp51 => ?_)
          obtain ⟨zL7, zp7, zF7⟩ := zp51
          refine j_iconst hc dX10_by_54 ?_
          exact j_zret hc he dX10_by_55 rfl (by omega) (by omega) (by first | exact Or.inl rfl | exact Or.inr rfl) ⟨_, rfl, by rw [if_pos ⟨hcs, zw⟩], by rw [if_pos ⟨hcs, zw⟩]; exact forgot hB hl0 hl1 ⟨y1, y2, y3, y4, y5, y6, y7, zw.1, (by show r ≤ 5; omega), y10⟩ zw.2 rfl zF6 zL7 zp7 zF7⟩
        · refine j_null hc dX10_by_37 ?_
          refine j_goto (tgt := 47) hc dX10_by_38 (by decide) ?_
          refine j_put (fs' := [_, _, _, _, _, _, _, _, _, _, _, _, _, _, _, _, _, _, _, _]) hc dX10_by_47 pX10_173 zL_zh1 rfl rfl ?_
          generalize ezh3 : up _ _ _ = zh3
          have zB_zh3 := (congrFun ezh3 _).symm.trans ((up_ne (by simp)).trans zB_zh1)
          have zA11_zh3 := (congrFun ezh3 _).symm.trans ((up_ne (by simp)).trans zA11_zh1)
          have zA12_zh3 := (congrFun ezh3 _).symm.trans ((up_ne (by simp)).trans zA12_zh1)
          have zA13_zh3 := (congrFun ezh3 _).symm.trans ((up_ne (by simp)).trans zA13_zh1)
          have zA15_zh3 := (congrFun ezh3 _).symm.trans ((up_ne (by simp)).trans zA15_zh1)
          have zA18_zh3 := (congrFun ezh3 _).symm.trans ((up_ne (by simp)).trans zA18_zh1)
          have zT_zh3 := (congrFun ezh3 _).symm.trans ((up_ne (by simp)).trans zT_zh1)
          have zT2_zh3 := (congrFun ezh3 _).symm.trans ((up_ne (by simp)).trans zT2_zh1)
          have zL_zh3 := (congrFun ezh3 _).symm.trans (up_same _ _ _)
          refine j_aload_n hc dX10_by_50 rfl ?_
          have zF6 : Fr (fun z => z = (30, l)) h zh3 := by rw [← ezh3, ← ezh1]; exact ((Fr.rf (fun z => z = (30, l)) _).push rfl).push rfl
          have zLE : LandAt zh3 l (bD S l) (eBy (bE S l) r) pl := LandAt.obj hL (by first | exact zL_zh3 | (rw [eBy_p (by omega)]; exact zL_zh3) | (rw [eBy_n (by omega)]; exact zL_zh3)) ((zF6 _ (by simp)).trans hL.2.2.2.2.2.2.1) (fun j j0 j1 j2 => zF6 _ (by simp; omega))
          have zpE : ∀ j : Int, 0 ≤ j → j ≤ 5 → PlnIn zh3 l (bD S l) (bE S l) (ruC S l) j (pl j) := fun j j0 j1 => (hpl j j0 j1).fr fun q q0 q1 => zF6 _ (by simp; omega)
          refine j_callV (d' := d - 1) hc dX10_by_51 vX10_170 zLE.1 (ev_X0_forgetPlans (ru := ruQ (bR S) (eBy (bE S l) r)) (by omega) hD zLE zpE) rfl (by omega) (by omega) (by omega) rfl rfl (Nat.le_of_ble_eq_true rfl) (retN fun zq51 zp51 => ?_)
          obtain ⟨zL7, zp7, zF7⟩ := zp51
          refine j_iconst hc dX10_by_54 ?_
          exact j_zret hc he dX10_by_55 rfl (by omega) (by omega) (by first | exact Or.inl rfl | exact Or.inr rfl) ⟨_, rfl, by rw [if_pos ⟨hcs, zw⟩], by rw [if_pos ⟨hcs, zw⟩]; exact forgot hB hl0 hl1 ⟨y1, y2, y3, y4, y5, y6, y7, zw.1, (by show r ≤ 5; omega), y10⟩ zw.2 rfl zF6 zL7 zp7 zF7⟩
      · have zw : ¬ (-1 ≤ r ∧ r < bRc S) := fun z => one_neg zc2 ⟨z.1, by omega⟩
        refine j_iconst hc dX10_by_24 ?_
        exact j_zret hc he dX10_by_25 rfl (by omega) (by omega) (by first | exact Or.inl rfl | exact Or.inr rfl) ⟨_, rfl, by rw [if_neg (fun z => zw z.2)], by rw [if_neg (fun z => zw z.2)]; exact hB, Fr.rf _ _⟩
  · skip
    refine Ev.mk (by decide +kernel) [_, _, _, _] rfl (Nat.le_of_ble_eq_true rfl) (fun w hc he => ?_)
    refine j_aload_n hc dX10_by_0 rfl ?_
    refine j_iload_n hc dX10_by_1 rfl ?_
    refine j_callV (d' := d - 1) hc dX10_by_2 vX10_115 zb0 (ev_X10_landAt_no (by omega) hB hil hcs) rfl (by omega) (by omega) (by omega) rfl rfl (Nat.le_of_ble_eq_true rfl) (ret1 ?_)
    refine j_astore_n (L' := [_, _, _, _]) hc dX10_by_5 (Nat.le_of_ble_eq_true rfl) rfl ?_
    refine j_aload_n hc dX10_by_6 rfl ?_
    refine j_ifnull (tgt := 24) hc dX10_by_7 (by decide) (fun zc1 => ?_) (fun zc1 => ?_)
    · refine j_iconst hc dX10_by_24 ?_
      exact j_zret hc he dX10_by_25 rfl (by omega) (by omega) (by first | exact Or.inl rfl | exact Or.inr rfl) ⟨_, rfl, by rw [if_neg (fun z => hcs z.1)], by rw [if_neg (fun z => hcs z.1)]; exact hB, Fr.rf _ _⟩
    · exact absurd rfl zc1
set_option maxRecDepth 100000 in
set_option maxHeartbeats 4000000 in
theorem ev_X10_granary_a {k : WC} {d : Nat} {h : AH} {S : BaS} {l bu sl ro : Int} (hd : 6 ≤ d) (hB : BarnAt h S) (hil : inI l) (hib : inI bu) (his : inI sl) (hir : inI ro) : Ev k d mdX10_granary h [vR (0, 0), vI l, vI bu, vI sl, vI ro] 0 0 (pe fun v h' => (v = vI (if lnV S l ∧ (0 ≤ sl ∧ sl ≤ 99) ∧ (0 ≤ bu ∧ bu ≤ sl) ∧ 0 ≤ ro ∧ ro ≤ 20 then 1 else 0)) ∧ BarnAt h' (if lnV S l ∧ (0 ≤ sl ∧ sl ≤ 99) ∧ (0 ≤ bu ∧ bu ≤ sl) ∧ 0 ≤ ro ∧ ro ≤ 20 then sE S l (eGr (bE S l) bu sl ro) else S) ∧ Fr isBa h h') := by
  obtain ⟨⟨⟨zb0, zb11, zb12, zb13, zb14, zb141, zb15, zb18⟩, zTp, zRd⟩, zSp, zTw, zSt, zL, zK⟩ := id hB
  obtain ⟨zT1, ⟨zlc0, zlc1⟩, ⟨zrc0, zrc1⟩, zKl, zKr, zKw, ⟨zto0, zto1⟩, zse0, zse1⟩ := id zK
  by_cases hcs : lnV S l
  · skip
    have hv := hcs
    obtain ⟨hl0, hl1⟩ := id hcs
    obtain ⟨hD, hE, hyr, hyo⟩ := zKl l hl0 hl1
    obtain ⟨pl, hL, hpl⟩ := zL.1 l hl0 hl1
    have hd1 := hD.1
    have hd2 := hD.2.1
    obtain ⟨y1, y2, y3, y4, y5, y6, y7, y8, y9, y10⟩ := id hE
    refine Ev.mk (by decide +kernel) [_, _, _, _, _, _] rfl (Nat.le_of_ble_eq_true rfl) (fun w hc he => ?_)
    refine j_aload_n hc dX10_granary_0 rfl ?_
    refine j_iload_n hc dX10_granary_1 rfl ?_
    refine j_callV (d' := d - 1) hc dX10_granary_2 vX10_115 zb0 (ev_X10_landAt_ok (by omega) hB hcs) rfl (by omega) (by omega) (by omega) rfl rfl (Nat.le_of_ble_eq_true rfl) (ret1 ?_)
    refine j_astore (L' := [_, _, _, _, _, _]) hc dX10_granary_5 (Nat.le_of_ble_eq_true rfl) rfl ?_
    refine j_aload hc dX10_granary_7 rfl ?_
    refine j_ifnull (tgt := 42) hc dX10_granary_9 (by decide) (fun zc1 => ?_) (fun zc1 => ?_)
    · exact absurd zc1 (by simp)
    · refine j_iload_n hc dX10_granary_12 rfl ?_
      refine j_iconst hc dX10_granary_13 ?_
      refine j_bipush hc dX10_granary_14 (by decide) ?_
      refine j_callS (d' := d - 1) hc dX10_granary_16 sX10_90 (ev_X10_within (by omega) his ⟨by omega, by omega⟩ ⟨by omega, by omega⟩) rfl (by omega) (by omega) (by omega) rfl rfl (Nat.le_of_ble_eq_true rfl) (ret1 ?_)
      refine j_if_eq (b := 0) (tgt := 42) hc dX10_granary_19 (by decide) (by split <;> exact ⟨by omega, by omega⟩) (fun zc2 => ?_) (fun zc2 => ?_)
      · have zw1 : ¬ (0 ≤ sl ∧ sl ≤ 99) := one_neg zc2
        refine j_iconst hc dX10_granary_42 ?_
        exact j_zret hc he dX10_granary_43 rfl (by omega) (by omega) (by first | exact Or.inl rfl | exact Or.inr rfl) ⟨_, rfl, by rw [if_neg (fun z => zw1 z.2.1)], by rw [if_neg (fun z => zw1 z.2.1)]; exact hB, Fr.rf _ _⟩
      · have zw1 : 0 ≤ sl ∧ sl ≤ 99 := one_pos zc2
        refine j_iload_n hc dX10_granary_22 rfl ?_
        refine j_iconst hc dX10_granary_23 ?_
        refine j_iload_n hc dX10_granary_24 rfl ?_
        refine j_callS (d' := d - 1) hc dX10_granary_25 sX10_90 (ev_X10_within (by omega) hib ⟨by omega, by omega⟩ his) rfl (by omega) (by omega) (by omega) rfl rfl (Nat.le_of_ble_eq_true rfl) (ret1 ?_)
        refine j_if_eq (b := 0) (tgt := 42) hc dX10_granary_28 (by decide) (by split <;> exact ⟨by omega, by omega⟩) (fun zc3 => ?_) (fun zc3 => ?_)
        · have zw2 : ¬ (0 ≤ bu ∧ bu ≤ sl) := one_neg zc3
          refine j_iconst hc dX10_granary_42 ?_
          exact j_zret hc he dX10_granary_43 rfl (by omega) (by omega) (by first | exact Or.inl rfl | exact Or.inr rfl) ⟨_, rfl, by rw [if_neg (fun z => zw2 z.2.2.1)], by rw [if_neg (fun z => zw2 z.2.2.1)]; exact hB, Fr.rf _ _⟩
        · have zw2 : 0 ≤ bu ∧ bu ≤ sl := one_pos zc3
          refine j_iload hc dX10_granary_31 rfl ?_
          refine j_iconst hc dX10_granary_33 ?_
          refine j_bipush hc dX10_granary_34 (by decide) ?_
          refine j_callS (d' := d - 1) hc dX10_granary_36 sX10_90 (ev_X10_within (by omega) hir ⟨by omega, by omega⟩ ⟨by omega, by omega⟩) rfl (by omega) (by omega) (by omega) rfl rfl (Nat.le_of_ble_eq_true rfl) (ret1 ?_)
          refine j_if_ne (b := 0) (tgt := 44) hc dX10_granary_39 (by decide) (by split <;> exact ⟨by omega, by omega⟩) (fun zc4 => ?_) (fun zc4 => ?_)
          · have zw3 : 0 ≤ ro ∧ ro ≤ 20 := one_pos zc4
            refine j_aload hc dX10_granary_44 rfl ?_
            refine j_iload_n hc dX10_granary_46 rfl ?_
            refine j_put (fs' := [_, _, _, _, _, _, _, _, _, _, _, _, _, _, _, _, _, _, _, _]) hc dX10_granary_47 pX10_265 hL.1 rfl rfl ?_
            generalize ezh1 : up _ _ _ = zh1
            have zB_zh1 := (congrFun ezh1 _).symm.trans ((up_ne (by simp)).trans zb0)
            have zA11_zh1 := (congrFun ezh1 _).symm.trans ((up_ne (by simp)).trans zb11)
            have zA12_zh1 := (congrFun ezh1 _).symm.trans ((up_ne (by simp)).trans zb12)
            have zA13_zh1 := (congrFun ezh1 _).symm.trans ((up_ne (by simp)).trans zb13)
            have zA15_zh1 := (congrFun ezh1 _).symm.trans ((up_ne (by simp)).trans zb15)
            have zA18_zh1 := (congrFun ezh1 _).symm.trans ((up_ne (by simp)).trans zb18)
            have zT_zh1 := (congrFun ezh1 _).symm.trans ((up_ne (by simp)).trans zTp.1)
            have zT2_zh1 := (congrFun ezh1 _).symm.trans ((up_ne (by simp)).trans zTp.2)
            have zL_zh1 := (congrFun ezh1 _).symm.trans (up_same _ _ _)
            refine j_aload hc dX10_granary_50 rfl ?_
            refine j_iload_n hc dX10_granary_52 rfl ?_
            refine j_put (fs' := [_, _, _, _, _, _, _, _, _, _, _, _, _, _, _, _, _, _, _, _]) hc dX10_granary_53 pX10_268 zL_zh1 rfl rfl ?_
            generalize ezh2 : up _ _ _ = zh2
            have zB_zh2 := (congrFun ezh2 _).symm.trans ((up_ne (by simp)).trans zB_zh1)
            have zA11_zh2 := (congrFun ezh2 _).symm.trans ((up_ne (by simp)).trans zA11_zh1)
            have zA12_zh2 := (congrFun ezh2 _).symm.trans ((up_ne (by simp)).trans zA12_zh1)
            have zA13_zh2 := (congrFun ezh2 _).symm.trans ((up_ne (by simp)).trans zA13_zh1)
            have zA15_zh2 := (congrFun ezh2 _).symm.trans ((up_ne (by simp)).trans zA15_zh1)
            have zA18_zh2 := (congrFun ezh2 _).symm.trans ((up_ne (by simp)).trans zA18_zh1)
            have zT_zh2 := (congrFun ezh2 _).symm.trans ((up_ne (by simp)).trans zT_zh1)
            have zT2_zh2 := (congrFun ezh2 _).symm.trans ((up_ne (by simp)).trans zT2_zh1)
            have zL_zh2 := (congrFun ezh2 _).symm.trans (up_same _ _ _)
            refine j_aload hc dX10_granary_56 rfl ?_
            refine j_iload hc dX10_granary_58 rfl ?_
            refine j_put (fs' := [_, _, _, _, _, _, _, _, _, _, _, _, _, _, _, _, _, _, _, _]) hc dX10_granary_60 pX10_271 zL_zh2 rfl rfl ?_
            generalize ezh3 : up _ _ _ = zh3
            have zB_zh3 := (congrFun ezh3 _).symm.trans ((up_ne (by simp)).trans zB_zh2)
            have zA11_zh3 := (congrFun ezh3 _).symm.trans ((up_ne (by simp)).trans zA11_zh2)
            have zA12_zh3 := (congrFun ezh3 _).symm.trans ((up_ne (by simp)).trans zA12_zh2)
            have zA13_zh3 := (congrFun ezh3 _).symm.trans ((up_ne (by simp)).trans zA13_zh2)
            have zA15_zh3 := (congrFun ezh3 _).symm.trans ((up_ne (by simp)).trans zA15_zh2)
            have zA18_zh3 := (congrFun ezh3 _).symm.trans ((up_ne (by simp)).trans zA18_zh2)
            have zT_zh3 := (congrFun ezh3 _).symm.trans ((up_ne (by simp)).trans zT_zh2)
            have zT2_zh3 := (congrFun ezh3 _).symm.trans ((up_ne (by simp)).trans zT2_zh2)
            have zL_zh3 := (congrFun ezh3 _).symm.trans (up_same _ _ _)
            refine j_iconst hc dX10_granary_63 ?_
            exact j_zret hc he dX10_granary_64 rfl (by omega) (by omega) (by first | exact Or.inl rfl | exact Or.inr rfl) (by
              have zF6 : Fr (fun z => z = (30, l)) h zh3 := by rw [← ezh3, ← ezh2, ← ezh1]; exact (((Fr.rf (fun z => z = (30, l)) _).push rfl).push rfl).push rfl
              have zLE : LandAt zh3 l (bD S l) (eGr (bE S l) bu sl ro) pl := LandAt.obj hL zL_zh3 ((zF6 _ (by simp)).trans hL.2.2.2.2.2.2.1) (fun j j0 j1 j2 => zF6 _ (by simp; omega))
              have zpE : ∀ j : Int, 0 ≤ j → j ≤ 5 → PlnIn zh3 l (bD S l) (eGr (bE S l) bu sl ro) (ruC S l) j (pl j) := fun j j0 j1 => PlnIn.E (E := bE S l) rfl ((hpl j j0 j1).fr fun q q0 q1 => zF6 _ (by simp; omega))
              have zz := hB.land hl0 hl1 (E' := eGr (bE S l) bu sl ro) ⟨y1, y2, zw2.1, zw2.2, zw1.2, zw3.1, zw3.2, y8, y9, y10⟩ hyr hyo (zF6.mono fun z zz => Or.inl (by rw [zz]; simp)) ⟨pl, zLE, zpE⟩
              exact ⟨_, rfl, by rw [if_pos ⟨hcs, zw1, zw2, zw3⟩], by rw [if_pos ⟨hcs, zw1, zw2, zw3⟩]; exact zz⟩)
          · have zw3 : ¬ (0 ≤ ro ∧ ro ≤ 20) := one_neg zc4
            refine j_iconst hc dX10_granary_42 ?_
            exact j_zret hc he dX10_granary_43 rfl (by omega) (by omega) (by first | exact Or.inl rfl | exact Or.inr rfl) ⟨_, rfl, by rw [if_neg (fun z => zw3 z.2.2.2)], by rw [if_neg (fun z => zw3 z.2.2.2)]; exact hB, Fr.rf _ _⟩
  · skip
    refine Ev.mk (by decide +kernel) [_, _, _, _, _, _] rfl (Nat.le_of_ble_eq_true rfl) (fun w hc he => ?_)
    refine j_aload_n hc dX10_granary_0 rfl ?_
    refine j_iload_n hc dX10_granary_1 rfl ?_
    refine j_callV (d' := d - 1) hc dX10_granary_2 vX10_115 zb0 (ev_X10_landAt_no (by omega) hB hil hcs) rfl (by omega) (by omega) (by omega) rfl rfl (Nat.le_of_ble_eq_true rfl) (ret1 ?_)
    refine j_astore (L' := [_, _, _, _, _, _]) hc dX10_granary_5 (Nat.le_of_ble_eq_true rfl) rfl ?_
    refine j_aload hc dX10_granary_7 rfl ?_
    refine j_ifnull (tgt := 42) hc dX10_granary_9 (by decide) (fun zc1 => ?_) (fun zc1 => ?_)
    · refine j_iconst hc dX10_granary_42 ?_
      exact j_zret hc he dX10_granary_43 rfl (by omega) (by omega) (by first | exact Or.inl rfl | exact Or.inr rfl) ⟨_, rfl, by rw [if_neg (fun z => hcs z.1)], by rw [if_neg (fun z => hcs z.1)]; exact hB, Fr.rf _ _⟩
    · exact absurd rfl zc1
set_option maxRecDepth 100000 in
set_option maxHeartbeats 4000000 in
theorem ev_X10_tell_a {k : WC} {d : Nat} {h : AH} {S : BaS} {l s a x : Int} (hd : 6 ≤ d) (hB : BarnAt h S) (hil : inI l) (his : inI s) (hia : inI a) (hix : inI x) : Ev k d mdX10_tell h [vR (0, 0), vI l, vI s, vI a, vI x] 0 0 (pe fun v h' => (v = vI (if laV S l 1 s a ∧ 0 ≤ x ∧ x ≤ min a 20 then 1 else 0)) ∧ BarnAt h' (if laV S l 1 s a ∧ 0 ≤ x ∧ x ≤ min a 20 then sE S l (eTab (bE S l) (s * 41 + a) x) else S) ∧ Fr isBa h h') := by
  obtain ⟨⟨⟨zb0, zb11, zb12, zb13, zb14, zb141, zb15, zb18⟩, zTp, zRd⟩, zSp, zTw, zSt, zL, zK⟩ := id hB
  obtain ⟨zT1, ⟨zlc0, zlc1⟩, ⟨zrc0, zrc1⟩, zKl, zKr, zKw, ⟨zto0, zto1⟩, zse0, zse1⟩ := id zK
  by_cases hcs : laV S l 1 s a
  · skip
    obtain ⟨hvl, ⟨hn1, hn⟩, ⟨hs0, hs1⟩, ha0, ha1⟩ := id hcs
    obtain ⟨hl0, hl1⟩ := id hvl
    obtain ⟨hD, hE, hyr, hyo⟩ := zKl l hl0 hl1
    obtain ⟨pl, hL, hpl⟩ := zL.1 l hl0 hl1
    have hd1 := hD.1
    have hd2 := hD.2.1
    obtain ⟨y1, y2, y3, y4, y5, y6, y7, y8, y9, y10⟩ := id hE
    refine Ev.mk (by decide +kernel) [_, _, _, _, _, _] rfl (Nat.le_of_ble_eq_true rfl) (fun w hc he => ?_)
    refine j_aload_n hc dX10_tell_0 rfl ?_
    refine j_iload_n hc dX10_tell_1 rfl ?_
    refine j_iconst hc dX10_tell_2 ?_
    refine j_iload_n hc dX10_tell_3 rfl ?_
    refine j_iload_n hc dX10_tell_4 rfl ?_
    refine j_callV (d' := d - 1) hc dX10_tell_5 vX10_199 zb0 (ev_X10_landFor_ok (by omega) hB hcs) rfl (by omega) (by omega) (by omega) rfl rfl (Nat.le_of_ble_eq_true rfl) (ret1 ?_)
    refine j_astore (L' := [_, _, _, _, _, _]) hc dX10_tell_8 (Nat.le_of_ble_eq_true rfl) rfl ?_
    refine j_aload hc dX10_tell_10 rfl ?_
    refine j_ifnull (tgt := 30) hc dX10_tell_12 (by decide) (fun zc1 => ?_) (fun zc1 => ?_)
    · exact absurd zc1 (by simp)
    · refine j_iload hc dX10_tell_15 rfl ?_
      refine j_iconst hc dX10_tell_17 ?_
      refine j_iload_n hc dX10_tell_18 rfl ?_
      refine j_bipush hc dX10_tell_19 (by decide) ?_
      refine j_mmin hc dX10_tell_21 mX10_231 mo_min ⟨by omega, by omega⟩ ⟨by omega, by omega⟩ (by omega) (by omega) rfl (by omega) (Nat.le_of_ble_eq_true rfl) ?_
      refine j_callS (d' := d - 1) hc dX10_tell_24 sX10_90 (ev_X10_within (by omega) hix ⟨by omega, by omega⟩ ⟨by omega, by omega⟩) rfl (by omega) (by omega) (by omega) rfl rfl (Nat.le_of_ble_eq_true rfl) (ret1 ?_)
      refine j_if_ne (b := 0) (tgt := 32) hc dX10_tell_27 (by decide) (by split <;> exact ⟨by omega, by omega⟩) (fun zc2 => ?_) (fun zc2 => ?_)
      · have zw : 0 ≤ x ∧ x ≤ min a 20 := one_pos zc2
        refine j_aload hc dX10_tell_32 rfl ?_
        refine j_get hc dX10_tell_34 fX10_237 hL.1 rfl ?_
        refine j_iload_n hc dX10_tell_37 rfl ?_
        refine j_bipush hc dX10_tell_38 (by decide) ?_
        refine j_imul hc dX10_tell_40 ?_
        refine j_iload_n hc dX10_tell_41 rfl ?_
        refine j_iadd hc dX10_tell_42 ?_
        refine j_iload hc dX10_tell_43 rfl ?_
        refine j_iast hc dX10_tell_45 hL.2.2.2.2.2.2.1 (by omega) (by omega) ?_
        generalize ezh1 : up _ _ _ = zh1
        have zB_zh1 := (congrFun ezh1 _).symm.trans ((up_ne (by simp)).trans zb0)
        have zA11_zh1 := (congrFun ezh1 _).symm.trans ((up_ne (by simp)).trans zb11)
        have zA12_zh1 := (congrFun ezh1 _).symm.trans ((up_ne (by simp)).trans zb12)
        have zA13_zh1 := (congrFun ezh1 _).symm.trans ((up_ne (by simp)).trans zb13)
        have zA15_zh1 := (congrFun ezh1 _).symm.trans ((up_ne (by simp)).trans zb15)
        have zA18_zh1 := (congrFun ezh1 _).symm.trans ((up_ne (by simp)).trans zb18)
        have zT_zh1 := (congrFun ezh1 _).symm.trans ((up_ne (by simp)).trans zTp.1)
        have zT2_zh1 := (congrFun ezh1 _).symm.trans ((up_ne (by simp)).trans zTp.2)
        have zL_zh1 := (congrFun ezh1 _).symm.trans ((up_ne (by simp)).trans hL.1)
        have zL36_zh1 := (congrFun ezh1 _).symm.trans (up_same _ _ _)
        refine j_iconst hc dX10_tell_46 ?_
        exact j_zret hc he dX10_tell_47 rfl (by omega) (by omega) (by first | exact Or.inl rfl | exact Or.inr rfl) (by
          have zF6 : Fr (fun z => z = (36, l)) h zh1 := by rw [← ezh1]; exact (Fr.rf (fun z => z = (36, l)) _).push rfl
          have zLE : LandAt zh1 l (bD S l) (eTab (bE S l) (s * 41 + a) x) pl := LandAt.obj hL ((zF6 _ (by simp)).trans hL.1) zL36_zh1 (fun j j0 j1 j2 => zF6 _ (by simp; omega))
          have zpE : ∀ j : Int, 0 ≤ j → j ≤ 5 → PlnIn zh1 l (bD S l) (eTab (bE S l) (s * 41 + a) x) (ruC S l) j (pl j) := fun j j0 j1 => PlnIn.E (E := bE S l) rfl ((hpl j j0 j1).fr fun q q0 q1 => zF6 _ (by simp; omega))
          have zz := hB.land hl0 hl1 (E' := eTab (bE S l) (s * 41 + a) x) ⟨y1, y2, y3, y4, y5, y6, y7, y8, y9, fun i i0 i1 => by show 0 ≤ fu (yTab (bE S l)) (s * 41 + a) x i ∧ fu (yTab (bE S l)) (s * 41 + a) x i ≤ 20; unfold fu; split; (· omega); exact y10 i i0 i1⟩ hyr hyo (zF6.mono fun z zz => Or.inl (by rw [zz]; simp)) ⟨pl, zLE, zpE⟩
          exact ⟨_, rfl, by rw [if_pos ⟨hcs, zw⟩], by rw [if_pos ⟨hcs, zw⟩]; exact zz⟩)
      · have zw : ¬ (0 ≤ x ∧ x ≤ min a 20) := one_neg zc2
        refine j_iconst hc dX10_tell_30 ?_
        exact j_zret hc he dX10_tell_31 rfl (by omega) (by omega) (by first | exact Or.inl rfl | exact Or.inr rfl) ⟨_, rfl, by rw [if_neg (fun z => zw z.2)], by rw [if_neg (fun z => zw z.2)]; exact hB, Fr.rf _ _⟩
  · skip
    refine Ev.mk (by decide +kernel) [_, _, _, _, _, _] rfl (Nat.le_of_ble_eq_true rfl) (fun w hc he => ?_)
    refine j_aload_n hc dX10_tell_0 rfl ?_
    refine j_iload_n hc dX10_tell_1 rfl ?_
    refine j_iconst hc dX10_tell_2 ?_
    refine j_iload_n hc dX10_tell_3 rfl ?_
    refine j_iload_n hc dX10_tell_4 rfl ?_
    refine j_callV (d' := d - 1) hc dX10_tell_5 vX10_199 zb0 (ev_X10_landFor_no (by omega) hB hil ⟨by omega, by omega⟩ his hia hcs) rfl (by omega) (by omega) (by omega) rfl rfl (Nat.le_of_ble_eq_true rfl) (ret1 ?_)
    refine j_astore (L' := [_, _, _, _, _, _]) hc dX10_tell_8 (Nat.le_of_ble_eq_true rfl) rfl ?_
    refine j_aload hc dX10_tell_10 rfl ?_
    refine j_ifnull (tgt := 30) hc dX10_tell_12 (by decide) (fun zc1 => ?_) (fun zc1 => ?_)
    · refine j_iconst hc dX10_tell_30 ?_
      exact j_zret hc he dX10_tell_31 rfl (by omega) (by omega) (by first | exact Or.inl rfl | exact Or.inr rfl) ⟨_, rfl, by rw [if_neg (fun z => hcs z.1)], by rw [if_neg (fun z => hcs z.1)]; exact hB, Fr.rf _ _⟩
    · exact absurd rfl zc1
set_option maxRecDepth 100000 in
set_option maxHeartbeats 4000000 in
theorem ev_X10_count {k : WC} {d : Nat} {h : AH} {S : BaS} {wh : Int} (hd : 1 ≤ d) (hB : BarnAt h S) (hiw : inI wh) : Ev k d mdX10_count h [vR (0, 0), vI wh] 0 0 (pr (vI (if wh = 0 then bLc S else if wh = 1 then bRc S else if wh = 2 then bRl S 0 else if wh = 3 then bRl S 1 else if wh = 4 then bN S else -1)) h) := by
  obtain ⟨⟨⟨zb0, zb11, zb12, zb13, zb14, zb141, zb15, zb18⟩, zTp, zRd⟩, zSp, zTw, zSt, zL, zK⟩ := id hB
  obtain ⟨zT1, ⟨zlc0, zlc1⟩, ⟨zrc0, zrc1⟩, zKl, zKr, zKw, ⟨zto0, zto1⟩, zse0, zse1⟩ := id zK
  refine Ev.mk (by decide +kernel) [_, _] rfl (Nat.le_of_ble_eq_true rfl) (fun w hc he => ?_)
  refine j_iload_n hc dX10_count_0 rfl ?_
  rcases (by omega : (wh < 0 ∨ 4 < wh) ∨ wh = 0 ∨ wh = 1 ∨ wh = 2 ∨ wh = 3 ∨ wh = 4) with zc1 | zc1 | zc1 | zc1 | zc1 | zc1
  · refine j_tableOut (tgt := 68) hc dX10_count_1 hiw zc1 (by decide) ?_
    refine j_iconst hc dX10_count_68 ?_
    exact j_iret hc he dX10_count_69 rfl (by omega) (by omega) ⟨vI_eq (by (repeat (first | rw [if_pos (by omega)] | rw [if_neg (by omega)]))), rfl⟩
  · refine j_tableIn (tgt := 36) (off := 35) hc dX10_count_1 hiw (by omega) (by omega) (by rw [zc1]; rfl) (by decide) ?_
    refine j_aload_n hc dX10_count_36 rfl ?_
    refine j_get hc dX10_count_37 fX10_99 zb0 rfl ?_
    exact j_iret hc he dX10_count_40 rfl (by omega) (by omega) ⟨vI_eq (by (repeat (first | rw [if_pos (by omega)] | rw [if_neg (by omega)]))), rfl⟩
  · refine j_tableIn (tgt := 41) (off := 40) hc dX10_count_1 hiw (by omega) (by omega) (by rw [zc1]; rfl) (by decide) ?_
    refine j_aload_n hc dX10_count_41 rfl ?_
    refine j_get hc dX10_count_42 fX10_105 zb0 rfl ?_
    exact j_iret hc he dX10_count_45 rfl (by omega) (by omega) ⟨vI_eq (by (repeat (first | rw [if_pos (by omega)] | rw [if_neg (by omega)]))), rfl⟩
  · refine j_tableIn (tgt := 46) (off := 45) hc dX10_count_1 hiw (by omega) (by omega) (by rw [zc1]; rfl) (by decide) ?_
    refine j_aload_n hc dX10_count_46 rfl ?_
    refine j_get hc dX10_count_47 fX10_49 zb0 rfl ?_
    refine j_iconst hc dX10_count_50 ?_
    refine j_iald hc dX10_count_51 zb15 (by omega) (by omega) ?_
    exact j_iret hc he dX10_count_52 rfl (by omega) (by omega) ⟨vI_eq (by (repeat (first | rw [if_pos (by omega)] | rw [if_neg (by omega)]))), rfl⟩
  · refine j_tableIn (tgt := 53) (off := 52) hc dX10_count_1 hiw (by omega) (by omega) (by rw [zc1]; rfl) (by decide) ?_
    refine j_aload_n hc dX10_count_53 rfl ?_
    refine j_get hc dX10_count_54 fX10_49 zb0 rfl ?_
    refine j_iconst hc dX10_count_57 ?_
    refine j_iald hc dX10_count_58 zb15 (by omega) (by omega) ?_
    exact j_iret hc he dX10_count_59 rfl (by omega) (by omega) ⟨vI_eq (by (repeat (first | rw [if_pos (by omega)] | rw [if_neg (by omega)]))), rfl⟩
  · refine j_tableIn (tgt := 60) (off := 59) hc dX10_count_1 hiw (by omega) (by omega) (by rw [zc1]; rfl) (by decide) ?_
    refine j_aload_n hc dX10_count_60 rfl ?_
    refine j_get hc dX10_count_61 fX10_12 zb0 rfl ?_
    refine j_get hc dX10_count_64 fX10_83 zTp.1 rfl ?_
    exact j_iret hc he dX10_count_67 rfl (by omega) (by omega) ⟨vI_eq (by (repeat (first | rw [if_pos (by omega)] | rw [if_neg (by omega)]))), rfl⟩
set_option maxRecDepth 100000 in
set_option maxHeartbeats 4000000 in
theorem ev_X10_spent {k : WC} {d : Nat} {h : AH} {S : BaS} (hd : 1 ≤ d) (hB : BarnAt h S) : Ev k d mdX10_spent h [vR (0, 0)] 0 0 (pr (vI (bSp S)) h) := by
  obtain ⟨⟨⟨zb0, zb11, zb12, zb13, zb14, zb141, zb15, zb18⟩, zTp, zRd⟩, zSp, zTw, zSt, zL, zK⟩ := id hB
  obtain ⟨zT1, ⟨zlc0, zlc1⟩, ⟨zrc0, zrc1⟩, zKl, zKr, zKw, ⟨zto0, zto1⟩, zse0, zse1⟩ := id zK
  refine Ev.mk (by decide +kernel) [_] rfl (Nat.le_of_ble_eq_true rfl) (fun w hc he => ?_)
  refine j_aload_n hc dX10_spent_0 rfl ?_
  refine j_get hc dX10_spent_1 fX10_72 zb0 rfl ?_
  refine j_get hc dX10_spent_4 fX10_299 zSt.1 rfl ?_
  exact j_iret hc he dX10_spent_7 rfl (by omega) (by omega) ⟨rfl, rfl⟩
